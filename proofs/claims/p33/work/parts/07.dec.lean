theorem dJ0_charAt_5068e_0 : decode cJ0_charAt_5068e 0 = .ok (.aload_n 0, 1) := by decide +kernel
theorem dJ0_charAt_5068e_1 : decode cJ0_charAt_5068e 1 = .ok (.invokevirtual 492, 3) := by decide +kernel
theorem dJ0_charAt_5068e_4 : decode cJ0_charAt_5068e 4 = .ok (.ifCond .eq 12, 3) := by decide +kernel
theorem dJ0_charAt_5068e_7 : decode cJ0_charAt_5068e 7 = .ok (.aload_n 0, 1) := by decide +kernel
theorem dJ0_charAt_5068e_8 : decode cJ0_charAt_5068e 8 = .ok (.getfield 9, 3) := by decide +kernel
theorem dJ0_charAt_5068e_11 : decode cJ0_charAt_5068e 11 = .ok (.iload_n 1, 1) := by decide +kernel
theorem dJ0_charAt_5068e_12 : decode cJ0_charAt_5068e 12 = .ok (.invokestatic 495, 3) := by decide +kernel
theorem dJ0_charAt_5068e_15 : decode cJ0_charAt_5068e 15 = .ok (.ireturn, 1) := by decide +kernel
theorem dJ0_checkIndex_df160_0 : decode cJ0_checkIndex_df160 0 = .ok (.iload_n 0, 1) := by decide +kernel
theorem dJ0_checkIndex_df160_1 : decode cJ0_checkIndex_df160 1 = .ok (.iload_n 1, 1) := by decide +kernel
theorem dJ0_checkIndex_df160_2 : decode cJ0_checkIndex_df160 2 = .ok (.getstatic 1053, 3) := by decide +kernel
theorem dJ0_checkIndex_df160_5 : decode cJ0_checkIndex_df160 5 = .ok (.invokestatic 1059, 3) := by decide +kernel
theorem dJ0_checkIndex_df160_8 : decode cJ0_checkIndex_df160 8 = .ok (.pop, 1) := by decide +kernel
theorem dJ0_checkIndex_df160_9 : decode cJ0_checkIndex_df160 9 = .ok (.return_, 1) := by decide +kernel
theorem dJ0_coder_7d493_0 : decode cJ0_coder_7d493 0 = .ok (.getstatic 38, 3) := by decide +kernel
theorem dJ0_coder_7d493_3 : decode cJ0_coder_7d493 3 = .ok (.ifCond .eq 10, 3) := by decide +kernel
theorem dJ0_coder_7d493_6 : decode cJ0_coder_7d493 6 = .ok (.aload_n 0, 1) := by decide +kernel
theorem dJ0_coder_7d493_7 : decode cJ0_coder_7d493 7 = .ok (.getfield 15, 3) := by decide +kernel
theorem dJ0_coder_7d493_10 : decode cJ0_coder_7d493 10 = .ok (.goto 4, 3) := by decide +kernel
theorem dJ0_coder_7d493_14 : decode cJ0_coder_7d493 14 = .ok (.ireturn, 1) := by decide +kernel
theorem dJ0_isLatin1_aae02_0 : decode cJ0_isLatin1_aae02 0 = .ok (.getstatic 38, 3) := by decide +kernel
theorem dJ0_isLatin1_aae02_3 : decode cJ0_isLatin1_aae02 3 = .ok (.ifCond .eq 14, 3) := by decide +kernel
theorem dJ0_isLatin1_aae02_6 : decode cJ0_isLatin1_aae02 6 = .ok (.aload_n 0, 1) := by decide +kernel
theorem dJ0_isLatin1_aae02_7 : decode cJ0_isLatin1_aae02 7 = .ok (.getfield 15, 3) := by decide +kernel
theorem dJ0_isLatin1_aae02_10 : decode cJ0_isLatin1_aae02 10 = .ok (.ifCond .ne 7, 3) := by decide +kernel
theorem dJ0_isLatin1_aae02_13 : decode cJ0_isLatin1_aae02 13 = .ok (.iconst 1, 1) := by decide +kernel
theorem dJ0_isLatin1_aae02_14 : decode cJ0_isLatin1_aae02 14 = .ok (.goto 4, 3) := by decide +kernel
theorem dJ0_isLatin1_aae02_18 : decode cJ0_isLatin1_aae02 18 = .ok (.ireturn, 1) := by decide +kernel
theorem dJ0_length_8abf5_0 : decode cJ0_length_8abf5 0 = .ok (.aload_n 0, 1) := by decide +kernel
theorem dJ0_length_8abf5_1 : decode cJ0_length_8abf5 1 = .ok (.getfield 9, 3) := by decide +kernel
theorem dJ0_length_8abf5_4 : decode cJ0_length_8abf5 4 = .ok (.arraylength, 1) := by decide +kernel
theorem dJ0_length_8abf5_5 : decode cJ0_length_8abf5 5 = .ok (.aload_n 0, 1) := by decide +kernel
theorem dJ0_length_8abf5_6 : decode cJ0_length_8abf5 6 = .ok (.invokevirtual 335, 3) := by decide +kernel
theorem dJ0_length_8abf5_9 : decode cJ0_length_8abf5 9 = .ok (.ishr, 1) := by decide +kernel
theorem dJ0_length_8abf5_10 : decode cJ0_length_8abf5 10 = .ok (.ireturn, 1) := by decide +kernel
theorem dJ1_charAt_3b067_0 : decode cJ1_charAt_3b067 0 = .ok (.iload_n 1, 1) := by decide +kernel
theorem dJ1_charAt_3b067_1 : decode cJ1_charAt_3b067 1 = .ok (.aload_n 0, 1) := by decide +kernel
theorem dJ1_charAt_3b067_2 : decode cJ1_charAt_3b067 2 = .ok (.arraylength, 1) := by decide +kernel
theorem dJ1_charAt_3b067_3 : decode cJ1_charAt_3b067 3 = .ok (.invokestatic 9, 3) := by decide +kernel
theorem dJ1_charAt_3b067_6 : decode cJ1_charAt_3b067 6 = .ok (.aload_n 0, 1) := by decide +kernel
theorem dJ1_charAt_3b067_7 : decode cJ1_charAt_3b067 7 = .ok (.iload_n 1, 1) := by decide +kernel
theorem dJ1_charAt_3b067_8 : decode cJ1_charAt_3b067 8 = .ok (.baload, 1) := by decide +kernel
theorem dJ1_charAt_3b067_9 : decode cJ1_charAt_3b067 9 = .ok (.sipush 255, 3) := by decide +kernel
theorem dJ1_charAt_3b067_12 : decode cJ1_charAt_3b067 12 = .ok (.iand, 1) := by decide +kernel
theorem dJ1_charAt_3b067_13 : decode cJ1_charAt_3b067 13 = .ok (.i2c, 1) := by decide +kernel
theorem dJ1_charAt_3b067_14 : decode cJ1_charAt_3b067 14 = .ok (.ireturn, 1) := by decide +kernel
theorem dJ3_checkIndex_8e157_0 : decode cJ3_checkIndex_8e157 0 = .ok (.iload_n 0, 1) := by decide +kernel
theorem dJ3_checkIndex_8e157_1 : decode cJ3_checkIndex_8e157 1 = .ok (.ifCond .lt 8, 3) := by decide +kernel
theorem dJ3_checkIndex_8e157_4 : decode cJ3_checkIndex_8e157 4 = .ok (.iload_n 0, 1) := by decide +kernel
theorem dJ3_checkIndex_8e157_5 : decode cJ3_checkIndex_8e157 5 = .ok (.iload_n 1, 1) := by decide +kernel
theorem dJ3_checkIndex_8e157_6 : decode cJ3_checkIndex_8e157 6 = .ok (.if_icmp .lt 10, 3) := by decide +kernel
theorem dJ3_checkIndex_8e157_16 : decode cJ3_checkIndex_8e157 16 = .ok (.iload_n 0, 1) := by decide +kernel
theorem dJ3_checkIndex_8e157_17 : decode cJ3_checkIndex_8e157 17 = .ok (.ireturn, 1) := by decide +kernel
theorem dJ6_bitCount_0f7a4_0 : decode cJ6_bitCount_0f7a4 0 = .ok (.iload_n 0, 1) := by decide +kernel
theorem dJ6_bitCount_0f7a4_1 : decode cJ6_bitCount_0f7a4 1 = .ok (.iload_n 0, 1) := by decide +kernel
theorem dJ6_bitCount_0f7a4_2 : decode cJ6_bitCount_0f7a4 2 = .ok (.iconst 1, 1) := by decide +kernel
theorem dJ6_bitCount_0f7a4_3 : decode cJ6_bitCount_0f7a4 3 = .ok (.iushr, 1) := by decide +kernel
theorem dJ6_bitCount_0f7a4_4 : decode cJ6_bitCount_0f7a4 4 = .ok (.ldc_w 265, 3) := by decide +kernel
theorem dJ6_bitCount_0f7a4_7 : decode cJ6_bitCount_0f7a4 7 = .ok (.iand, 1) := by decide +kernel
theorem dJ6_bitCount_0f7a4_8 : decode cJ6_bitCount_0f7a4 8 = .ok (.isub, 1) := by decide +kernel
theorem dJ6_bitCount_0f7a4_9 : decode cJ6_bitCount_0f7a4 9 = .ok (.istore_n 0, 1) := by decide +kernel
theorem dJ6_bitCount_0f7a4_10 : decode cJ6_bitCount_0f7a4 10 = .ok (.iload_n 0, 1) := by decide +kernel
theorem dJ6_bitCount_0f7a4_11 : decode cJ6_bitCount_0f7a4 11 = .ok (.ldc_w 266, 3) := by decide +kernel
theorem dJ6_bitCount_0f7a4_14 : decode cJ6_bitCount_0f7a4 14 = .ok (.iand, 1) := by decide +kernel
theorem dJ6_bitCount_0f7a4_15 : decode cJ6_bitCount_0f7a4 15 = .ok (.iload_n 0, 1) := by decide +kernel
theorem dJ6_bitCount_0f7a4_16 : decode cJ6_bitCount_0f7a4 16 = .ok (.iconst 2, 1) := by decide +kernel
theorem dJ6_bitCount_0f7a4_17 : decode cJ6_bitCount_0f7a4 17 = .ok (.iushr, 1) := by decide +kernel
theorem dJ6_bitCount_0f7a4_18 : decode cJ6_bitCount_0f7a4 18 = .ok (.ldc_w 266, 3) := by decide +kernel
theorem dJ6_bitCount_0f7a4_21 : decode cJ6_bitCount_0f7a4 21 = .ok (.iand, 1) := by decide +kernel
theorem dJ6_bitCount_0f7a4_22 : decode cJ6_bitCount_0f7a4 22 = .ok (.iadd, 1) := by decide +kernel
theorem dJ6_bitCount_0f7a4_23 : decode cJ6_bitCount_0f7a4 23 = .ok (.istore_n 0, 1) := by decide +kernel
theorem dJ6_bitCount_0f7a4_24 : decode cJ6_bitCount_0f7a4 24 = .ok (.iload_n 0, 1) := by decide +kernel
theorem dJ6_bitCount_0f7a4_25 : decode cJ6_bitCount_0f7a4 25 = .ok (.iload_n 0, 1) := by decide +kernel
theorem dJ6_bitCount_0f7a4_26 : decode cJ6_bitCount_0f7a4 26 = .ok (.iconst 4, 1) := by decide +kernel
theorem dJ6_bitCount_0f7a4_27 : decode cJ6_bitCount_0f7a4 27 = .ok (.iushr, 1) := by decide +kernel
theorem dJ6_bitCount_0f7a4_28 : decode cJ6_bitCount_0f7a4 28 = .ok (.iadd, 1) := by decide +kernel
theorem dJ6_bitCount_0f7a4_29 : decode cJ6_bitCount_0f7a4 29 = .ok (.ldc_w 267, 3) := by decide +kernel
theorem dJ6_bitCount_0f7a4_32 : decode cJ6_bitCount_0f7a4 32 = .ok (.iand, 1) := by decide +kernel
theorem dJ6_bitCount_0f7a4_33 : decode cJ6_bitCount_0f7a4 33 = .ok (.istore_n 0, 1) := by decide +kernel
theorem dJ6_bitCount_0f7a4_34 : decode cJ6_bitCount_0f7a4 34 = .ok (.iload_n 0, 1) := by decide +kernel
theorem dJ6_bitCount_0f7a4_35 : decode cJ6_bitCount_0f7a4 35 = .ok (.iload_n 0, 1) := by decide +kernel
theorem dJ6_bitCount_0f7a4_36 : decode cJ6_bitCount_0f7a4 36 = .ok (.bipush 8, 2) := by decide +kernel
theorem dJ6_bitCount_0f7a4_38 : decode cJ6_bitCount_0f7a4 38 = .ok (.iushr, 1) := by decide +kernel
theorem dJ6_bitCount_0f7a4_39 : decode cJ6_bitCount_0f7a4 39 = .ok (.iadd, 1) := by decide +kernel
theorem dJ6_bitCount_0f7a4_40 : decode cJ6_bitCount_0f7a4 40 = .ok (.istore_n 0, 1) := by decide +kernel
theorem dJ6_bitCount_0f7a4_41 : decode cJ6_bitCount_0f7a4 41 = .ok (.iload_n 0, 1) := by decide +kernel
theorem dJ6_bitCount_0f7a4_42 : decode cJ6_bitCount_0f7a4 42 = .ok (.iload_n 0, 1) := by decide +kernel
theorem dJ6_bitCount_0f7a4_43 : decode cJ6_bitCount_0f7a4 43 = .ok (.bipush 16, 2) := by decide +kernel
theorem dJ6_bitCount_0f7a4_45 : decode cJ6_bitCount_0f7a4 45 = .ok (.iushr, 1) := by decide +kernel
theorem dJ6_bitCount_0f7a4_46 : decode cJ6_bitCount_0f7a4 46 = .ok (.iadd, 1) := by decide +kernel
theorem dJ6_bitCount_0f7a4_47 : decode cJ6_bitCount_0f7a4 47 = .ok (.istore_n 0, 1) := by decide +kernel
theorem dJ6_bitCount_0f7a4_48 : decode cJ6_bitCount_0f7a4 48 = .ok (.iload_n 0, 1) := by decide +kernel
theorem dJ6_bitCount_0f7a4_49 : decode cJ6_bitCount_0f7a4 49 = .ok (.bipush 63, 2) := by decide +kernel
theorem dJ6_bitCount_0f7a4_51 : decode cJ6_bitCount_0f7a4 51 = .ok (.iand, 1) := by decide +kernel
theorem dJ6_bitCount_0f7a4_52 : decode cJ6_bitCount_0f7a4 52 = .ok (.ireturn, 1) := by decide +kernel
theorem dJ7_fill_53178_0 : decode cJ7_fill_53178 0 = .ok (.iconst 0, 1) := by decide +kernel
theorem dJ7_fill_53178_1 : decode cJ7_fill_53178 1 = .ok (.istore_n 2, 1) := by decide +kernel
theorem dJ7_fill_53178_2 : decode cJ7_fill_53178 2 = .ok (.aload_n 0, 1) := by decide +kernel
theorem dJ7_fill_53178_3 : decode cJ7_fill_53178 3 = .ok (.arraylength, 1) := by decide +kernel
theorem dJ7_fill_53178_4 : decode cJ7_fill_53178 4 = .ok (.istore_n 3, 1) := by decide +kernel
theorem dJ7_fill_53178_5 : decode cJ7_fill_53178 5 = .ok (.iload_n 2, 1) := by decide +kernel
theorem dJ7_fill_53178_6 : decode cJ7_fill_53178 6 = .ok (.iload_n 3, 1) := by decide +kernel
theorem dJ7_fill_53178_7 : decode cJ7_fill_53178 7 = .ok (.if_icmp .ge 13, 3) := by decide +kernel
theorem dJ7_fill_53178_10 : decode cJ7_fill_53178 10 = .ok (.aload_n 0, 1) := by decide +kernel
theorem dJ7_fill_53178_11 : decode cJ7_fill_53178 11 = .ok (.iload_n 2, 1) := by decide +kernel
theorem dJ7_fill_53178_12 : decode cJ7_fill_53178 12 = .ok (.iload_n 1, 1) := by decide +kernel
theorem dJ7_fill_53178_13 : decode cJ7_fill_53178 13 = .ok (.iastore, 1) := by decide +kernel
theorem dJ7_fill_53178_14 : decode cJ7_fill_53178 14 = .ok (.iinc 2 1, 3) := by decide +kernel
theorem dJ7_fill_53178_17 : decode cJ7_fill_53178 17 = .ok (.goto (-12), 3) := by decide +kernel
theorem dJ7_fill_53178_20 : decode cJ7_fill_53178 20 = .ok (.return_, 1) := by decide +kernel
theorem dJ9_floorMod_7cf53_0 : decode cJ9_floorMod_7cf53 0 = .ok (.iload_n 0, 1) := by decide +kernel
theorem dJ9_floorMod_7cf53_1 : decode cJ9_floorMod_7cf53 1 = .ok (.iload_n 1, 1) := by decide +kernel
theorem dJ9_floorMod_7cf53_2 : decode cJ9_floorMod_7cf53 2 = .ok (.irem, 1) := by decide +kernel
theorem dJ9_floorMod_7cf53_3 : decode cJ9_floorMod_7cf53 3 = .ok (.istore_n 2, 1) := by decide +kernel
theorem dJ9_floorMod_7cf53_4 : decode cJ9_floorMod_7cf53 4 = .ok (.iload_n 0, 1) := by decide +kernel
theorem dJ9_floorMod_7cf53_5 : decode cJ9_floorMod_7cf53 5 = .ok (.iload_n 1, 1) := by decide +kernel
theorem dJ9_floorMod_7cf53_6 : decode cJ9_floorMod_7cf53 6 = .ok (.ixor, 1) := by decide +kernel
theorem dJ9_floorMod_7cf53_7 : decode cJ9_floorMod_7cf53 7 = .ok (.ifCond .ge 11, 3) := by decide +kernel
theorem dJ9_floorMod_7cf53_10 : decode cJ9_floorMod_7cf53 10 = .ok (.iload_n 2, 1) := by decide +kernel
theorem dJ9_floorMod_7cf53_11 : decode cJ9_floorMod_7cf53 11 = .ok (.ifCond .eq 7, 3) := by decide +kernel
theorem dJ9_floorMod_7cf53_14 : decode cJ9_floorMod_7cf53 14 = .ok (.iload_n 2, 1) := by decide +kernel
theorem dJ9_floorMod_7cf53_15 : decode cJ9_floorMod_7cf53 15 = .ok (.iload_n 1, 1) := by decide +kernel
theorem dJ9_floorMod_7cf53_16 : decode cJ9_floorMod_7cf53 16 = .ok (.iadd, 1) := by decide +kernel
theorem dJ9_floorMod_7cf53_17 : decode cJ9_floorMod_7cf53 17 = .ok (.ireturn, 1) := by decide +kernel
theorem dJ9_floorMod_7cf53_18 : decode cJ9_floorMod_7cf53 18 = .ok (.iload_n 2, 1) := by decide +kernel
theorem dJ9_floorMod_7cf53_19 : decode cJ9_floorMod_7cf53 19 = .ok (.ireturn, 1) := by decide +kernel
theorem dJ9_max_7cf53_0 : decode cJ9_max_7cf53 0 = .ok (.iload_n 0, 1) := by decide +kernel
theorem dJ9_max_7cf53_1 : decode cJ9_max_7cf53 1 = .ok (.iload_n 1, 1) := by decide +kernel
theorem dJ9_max_7cf53_2 : decode cJ9_max_7cf53 2 = .ok (.if_icmp .lt 7, 3) := by decide +kernel
theorem dJ9_max_7cf53_5 : decode cJ9_max_7cf53 5 = .ok (.iload_n 0, 1) := by decide +kernel
theorem dJ9_max_7cf53_6 : decode cJ9_max_7cf53 6 = .ok (.goto 4, 3) := by decide +kernel
theorem dJ9_max_7cf53_9 : decode cJ9_max_7cf53 9 = .ok (.iload_n 1, 1) := by decide +kernel
theorem dJ9_max_7cf53_10 : decode cJ9_max_7cf53 10 = .ok (.ireturn, 1) := by decide +kernel
theorem dX0_agesOf_0 : decode cX0_agesOf 0 = .ok (.iload_n 1, 1) := by decide +kernel
theorem dX0_agesOf_1 : decode cX0_agesOf 1 = .ok (.ifCond .lt 18, 3) := by decide +kernel
theorem dX0_agesOf_4 : decode cX0_agesOf 4 = .ok (.iload_n 1, 1) := by decide +kernel
theorem dX0_agesOf_5 : decode cX0_agesOf 5 = .ok (.bipush 8, 2) := by decide +kernel
theorem dX0_agesOf_7 : decode cX0_agesOf 7 = .ok (.if_icmp .ge 12, 3) := by decide +kernel
theorem dX0_agesOf_10 : decode cX0_agesOf 10 = .ok (.aload_n 0, 1) := by decide +kernel
theorem dX0_agesOf_11 : decode cX0_agesOf 11 = .ok (.getfield 18, 3) := by decide +kernel
theorem dX0_agesOf_14 : decode cX0_agesOf 14 = .ok (.iload_n 1, 1) := by decide +kernel
theorem dX0_agesOf_15 : decode cX0_agesOf 15 = .ok (.iaload, 1) := by decide +kernel
theorem dX0_agesOf_16 : decode cX0_agesOf 16 = .ok (.goto 4, 3) := by decide +kernel
theorem dX0_agesOf_19 : decode cX0_agesOf 19 = .ok (.iconst 0, 1) := by decide +kernel
theorem dX0_agesOf_20 : decode cX0_agesOf 20 = .ok (.ireturn, 1) := by decide +kernel
theorem dX0_clear_0 : decode cX0_clear 0 = .ok (.aload_n 0, 1) := by decide +kernel
theorem dX0_clear_1 : decode cX0_clear 1 = .ok (.getfield 9, 3) := by decide +kernel
theorem dX0_clear_4 : decode cX0_clear 4 = .ok (.iconst 0, 1) := by decide +kernel
theorem dX0_clear_5 : decode cX0_clear 5 = .ok (.invokestatic 31, 3) := by decide +kernel
theorem dX0_clear_8 : decode cX0_clear 8 = .ok (.aload_n 0, 1) := by decide +kernel
theorem dX0_clear_9 : decode cX0_clear 9 = .ok (.getfield 15, 3) := by decide +kernel
theorem dX0_clear_12 : decode cX0_clear 12 = .ok (.iconst 0, 1) := by decide +kernel
theorem dX0_clear_13 : decode cX0_clear 13 = .ok (.invokestatic 31, 3) := by decide +kernel
theorem dX0_clear_16 : decode cX0_clear 16 = .ok (.aload_n 0, 1) := by decide +kernel
theorem dX0_clear_17 : decode cX0_clear 17 = .ok (.getfield 18, 3) := by decide +kernel
theorem dX0_clear_20 : decode cX0_clear 20 = .ok (.iconst 0, 1) := by decide +kernel
theorem dX0_clear_21 : decode cX0_clear 21 = .ok (.invokestatic 31, 3) := by decide +kernel
theorem dX0_clear_24 : decode cX0_clear 24 = .ok (.aload_n 0, 1) := by decide +kernel
theorem dX0_clear_25 : decode cX0_clear 25 = .ok (.iconst 0, 1) := by decide +kernel
theorem dX0_clear_26 : decode cX0_clear 26 = .ok (.putfield 27, 3) := by decide +kernel
theorem dX0_clear_29 : decode cX0_clear 29 = .ok (.return_, 1) := by decide +kernel
theorem dX0_copyFrom_0 : decode cX0_copyFrom 0 = .ok (.aload_n 1, 1) := by decide +kernel
theorem dX0_copyFrom_1 : decode cX0_copyFrom 1 = .ok (.getfield 9, 3) := by decide +kernel
theorem dX0_copyFrom_4 : decode cX0_copyFrom 4 = .ok (.iconst 0, 1) := by decide +kernel
theorem dX0_copyFrom_5 : decode cX0_copyFrom 5 = .ok (.aload_n 0, 1) := by decide +kernel
theorem dX0_copyFrom_6 : decode cX0_copyFrom 6 = .ok (.getfield 9, 3) := by decide +kernel
theorem dX0_copyFrom_9 : decode cX0_copyFrom 9 = .ok (.iconst 0, 1) := by decide +kernel
theorem dX0_copyFrom_10 : decode cX0_copyFrom 10 = .ok (.bipush 10, 2) := by decide +kernel
theorem dX0_copyFrom_12 : decode cX0_copyFrom 12 = .ok (.invokestatic 37, 3) := by decide +kernel
theorem dX0_copyFrom_15 : decode cX0_copyFrom 15 = .ok (.aload_n 1, 1) := by decide +kernel
theorem dX0_copyFrom_16 : decode cX0_copyFrom 16 = .ok (.getfield 15, 3) := by decide +kernel
theorem dX0_copyFrom_19 : decode cX0_copyFrom 19 = .ok (.iconst 0, 1) := by decide +kernel
theorem dX0_copyFrom_20 : decode cX0_copyFrom 20 = .ok (.aload_n 0, 1) := by decide +kernel
theorem dX0_copyFrom_21 : decode cX0_copyFrom 21 = .ok (.getfield 15, 3) := by decide +kernel
theorem dX0_copyFrom_24 : decode cX0_copyFrom 24 = .ok (.iconst 0, 1) := by decide +kernel
theorem dX0_copyFrom_25 : decode cX0_copyFrom 25 = .ok (.bipush 8, 2) := by decide +kernel
theorem dX0_copyFrom_27 : decode cX0_copyFrom 27 = .ok (.invokestatic 37, 3) := by decide +kernel
theorem dX0_copyFrom_30 : decode cX0_copyFrom 30 = .ok (.aload_n 1, 1) := by decide +kernel
theorem dX0_copyFrom_31 : decode cX0_copyFrom 31 = .ok (.getfield 18, 3) := by decide +kernel
theorem dX0_copyFrom_34 : decode cX0_copyFrom 34 = .ok (.iconst 0, 1) := by decide +kernel
theorem dX0_copyFrom_35 : decode cX0_copyFrom 35 = .ok (.aload_n 0, 1) := by decide +kernel
theorem dX0_copyFrom_36 : decode cX0_copyFrom 36 = .ok (.getfield 18, 3) := by decide +kernel
theorem dX0_copyFrom_39 : decode cX0_copyFrom 39 = .ok (.iconst 0, 1) := by decide +kernel
theorem dX0_copyFrom_40 : decode cX0_copyFrom 40 = .ok (.bipush 8, 2) := by decide +kernel
theorem dX0_copyFrom_42 : decode cX0_copyFrom 42 = .ok (.invokestatic 37, 3) := by decide +kernel
theorem dX0_copyFrom_45 : decode cX0_copyFrom 45 = .ok (.aload_n 1, 1) := by decide +kernel
theorem dX0_copyFrom_46 : decode cX0_copyFrom 46 = .ok (.getfield 21, 3) := by decide +kernel
theorem dX0_copyFrom_49 : decode cX0_copyFrom 49 = .ok (.iconst 0, 1) := by decide +kernel
theorem dX0_copyFrom_50 : decode cX0_copyFrom 50 = .ok (.aload_n 0, 1) := by decide +kernel
theorem dX0_copyFrom_51 : decode cX0_copyFrom 51 = .ok (.getfield 21, 3) := by decide +kernel
theorem dX0_copyFrom_54 : decode cX0_copyFrom 54 = .ok (.iconst 0, 1) := by decide +kernel
theorem dX0_copyFrom_55 : decode cX0_copyFrom 55 = .ok (.bipush 96, 2) := by decide +kernel
theorem dX0_copyFrom_57 : decode cX0_copyFrom 57 = .ok (.invokestatic 37, 3) := by decide +kernel
theorem dX0_copyFrom_60 : decode cX0_copyFrom 60 = .ok (.aload_n 1, 1) := by decide +kernel
theorem dX0_copyFrom_61 : decode cX0_copyFrom 61 = .ok (.getfield 24, 3) := by decide +kernel
theorem dX0_copyFrom_64 : decode cX0_copyFrom 64 = .ok (.iconst 0, 1) := by decide +kernel
theorem dX0_copyFrom_65 : decode cX0_copyFrom 65 = .ok (.aload_n 0, 1) := by decide +kernel
theorem dX0_copyFrom_66 : decode cX0_copyFrom 66 = .ok (.getfield 24, 3) := by decide +kernel
theorem dX0_copyFrom_69 : decode cX0_copyFrom 69 = .ok (.iconst 0, 1) := by decide +kernel
theorem dX0_copyFrom_70 : decode cX0_copyFrom 70 = .ok (.bipush 72, 2) := by decide +kernel
theorem dX0_copyFrom_72 : decode cX0_copyFrom 72 = .ok (.invokestatic 37, 3) := by decide +kernel
theorem dX0_copyFrom_75 : decode cX0_copyFrom 75 = .ok (.aload_n 0, 1) := by decide +kernel
theorem dX0_copyFrom_76 : decode cX0_copyFrom 76 = .ok (.aload_n 1, 1) := by decide +kernel
theorem dX0_copyFrom_77 : decode cX0_copyFrom 77 = .ok (.getfield 27, 3) := by decide +kernel
theorem dX0_copyFrom_80 : decode cX0_copyFrom 80 = .ok (.putfield 27, 3) := by decide +kernel
theorem dX0_copyFrom_83 : decode cX0_copyFrom 83 = .ok (.return_, 1) := by decide +kernel
theorem dX0_countLevel_0 : decode cX0_countLevel 0 = .ok (.aload_n 0, 1) := by decide +kernel
theorem dX0_countLevel_1 : decode cX0_countLevel 1 = .ok (.getfield 9, 3) := by decide +kernel
theorem dX0_countLevel_4 : decode cX0_countLevel 4 = .ok (.bipush 6, 2) := by decide +kernel
theorem dX0_countLevel_6 : decode cX0_countLevel 6 = .ok (.aload_n 0, 1) := by decide +kernel
theorem dX0_countLevel_7 : decode cX0_countLevel 7 = .ok (.getfield 9, 3) := by decide +kernel
theorem dX0_countLevel_10 : decode cX0_countLevel 10 = .ok (.bipush 6, 2) := by decide +kernel
theorem dX0_countLevel_12 : decode cX0_countLevel 12 = .ok (.iaload, 1) := by decide +kernel
theorem dX0_countLevel_13 : decode cX0_countLevel 13 = .ok (.iload_n 1, 1) := by decide +kernel
theorem dX0_countLevel_14 : decode cX0_countLevel 14 = .ok (.invokestatic 43, 3) := by decide +kernel
theorem dX0_countLevel_17 : decode cX0_countLevel 17 = .ok (.iastore, 1) := by decide +kernel
theorem dX0_countLevel_18 : decode cX0_countLevel 18 = .ok (.return_, 1) := by decide +kernel
theorem dX0_countRefused_0 : decode cX0_countRefused 0 = .ok (.aload_n 0, 1) := by decide +kernel
theorem dX0_countRefused_1 : decode cX0_countRefused 1 = .ok (.getfield 9, 3) := by decide +kernel
theorem dX0_countRefused_4 : decode cX0_countRefused 4 = .ok (.bipush 7, 2) := by decide +kernel
theorem dX0_countRefused_6 : decode cX0_countRefused 6 = .ok (.dup2, 1) := by decide +kernel
theorem dX0_countRefused_7 : decode cX0_countRefused 7 = .ok (.iaload, 1) := by decide +kernel
theorem dX0_countRefused_8 : decode cX0_countRefused 8 = .ok (.iconst 1, 1) := by decide +kernel
theorem dX0_countRefused_9 : decode cX0_countRefused 9 = .ok (.iadd, 1) := by decide +kernel
theorem dX0_countRefused_10 : decode cX0_countRefused 10 = .ok (.iastore, 1) := by decide +kernel
theorem dX0_countRefused_11 : decode cX0_countRefused 11 = .ok (.return_, 1) := by decide +kernel
theorem dX0_counted_0 : decode cX0_counted 0 = .ok (.iload_n 1, 1) := by decide +kernel
theorem dX0_counted_1 : decode cX0_counted 1 = .ok (.ifCond .lt 18, 3) := by decide +kernel
theorem dX0_counted_4 : decode cX0_counted 4 = .ok (.iload_n 1, 1) := by decide +kernel
theorem dX0_counted_5 : decode cX0_counted 5 = .ok (.bipush 10, 2) := by decide +kernel
theorem dX0_counted_7 : decode cX0_counted 7 = .ok (.if_icmp .ge 12, 3) := by decide +kernel
theorem dX0_counted_10 : decode cX0_counted 10 = .ok (.aload_n 0, 1) := by decide +kernel
theorem dX0_counted_11 : decode cX0_counted 11 = .ok (.getfield 9, 3) := by decide +kernel
theorem dX0_counted_14 : decode cX0_counted 14 = .ok (.iload_n 1, 1) := by decide +kernel
theorem dX0_counted_15 : decode cX0_counted 15 = .ok (.iaload, 1) := by decide +kernel
theorem dX0_counted_16 : decode cX0_counted 16 = .ok (.goto 4, 3) := by decide +kernel
theorem dX0_counted_19 : decode cX0_counted 19 = .ok (.iconst 0, 1) := by decide +kernel
theorem dX0_counted_20 : decode cX0_counted 20 = .ok (.ireturn, 1) := by decide +kernel
theorem dX0_enter_0 : decode cX0_enter 0 = .ok (.iload_n 1, 1) := by decide +kernel
theorem dX0_enter_1 : decode cX0_enter 1 = .ok (.ifCond .lt 18, 3) := by decide +kernel
theorem dX0_enter_4 : decode cX0_enter 4 = .ok (.iload_n 1, 1) := by decide +kernel
theorem dX0_enter_5 : decode cX0_enter 5 = .ok (.iconst 5, 1) := by decide +kernel
theorem dX0_enter_6 : decode cX0_enter 6 = .ok (.if_icmp .gt 13, 3) := by decide +kernel
theorem dX0_enter_9 : decode cX0_enter 9 = .ok (.aload_n 0, 1) := by decide +kernel
theorem dX0_enter_10 : decode cX0_enter 10 = .ok (.getfield 9, 3) := by decide +kernel
theorem dX0_enter_13 : decode cX0_enter 13 = .ok (.iload_n 1, 1) := by decide +kernel
theorem dX0_enter_14 : decode cX0_enter 14 = .ok (.dup2, 1) := by decide +kernel
theorem dX0_enter_15 : decode cX0_enter 15 = .ok (.iaload, 1) := by decide +kernel
theorem dX0_enter_16 : decode cX0_enter 16 = .ok (.iconst 1, 1) := by decide +kernel
theorem dX0_enter_17 : decode cX0_enter 17 = .ok (.iadd, 1) := by decide +kernel
theorem dX0_enter_18 : decode cX0_enter 18 = .ok (.iastore, 1) := by decide +kernel
theorem dX0_enter_19 : decode cX0_enter 19 = .ok (.aload_n 0, 1) := by decide +kernel
theorem dX0_enter_20 : decode cX0_enter 20 = .ok (.getfield 27, 3) := by decide +kernel
theorem dX0_enter_23 : decode cX0_enter 23 = .ok (.bipush 24, 2) := by decide +kernel
theorem dX0_enter_25 : decode cX0_enter 25 = .ok (.invokestatic 49, 3) := by decide +kernel
theorem dX0_enter_28 : decode cX0_enter 28 = .ok (.iconst 3, 1) := by decide +kernel
theorem dX0_enter_29 : decode cX0_enter 29 = .ok (.imul, 1) := by decide +kernel
theorem dX0_enter_30 : decode cX0_enter 30 = .ok (.istore 4, 2) := by decide +kernel
theorem dX0_enter_32 : decode cX0_enter 32 = .ok (.aload_n 0, 1) := by decide +kernel
theorem dX0_enter_33 : decode cX0_enter 33 = .ok (.getfield 24, 3) := by decide +kernel
theorem dX0_enter_36 : decode cX0_enter 36 = .ok (.iload 4, 2) := by decide +kernel
theorem dX0_enter_38 : decode cX0_enter 38 = .ok (.iload_n 1, 1) := by decide +kernel
theorem dX0_enter_39 : decode cX0_enter 39 = .ok (.iastore, 1) := by decide +kernel
theorem dX0_enter_40 : decode cX0_enter 40 = .ok (.aload_n 0, 1) := by decide +kernel
theorem dX0_enter_41 : decode cX0_enter 41 = .ok (.getfield 24, 3) := by decide +kernel
theorem dX0_enter_44 : decode cX0_enter 44 = .ok (.iload 4, 2) := by decide +kernel
theorem dX0_enter_46 : decode cX0_enter 46 = .ok (.iconst 1, 1) := by decide +kernel
theorem dX0_enter_47 : decode cX0_enter 47 = .ok (.iadd, 1) := by decide +kernel
theorem dX0_enter_48 : decode cX0_enter 48 = .ok (.iload_n 2, 1) := by decide +kernel
theorem dX0_enter_49 : decode cX0_enter 49 = .ok (.iastore, 1) := by decide +kernel
theorem dX0_enter_50 : decode cX0_enter 50 = .ok (.aload_n 0, 1) := by decide +kernel
theorem dX0_enter_51 : decode cX0_enter 51 = .ok (.getfield 24, 3) := by decide +kernel
theorem dX0_enter_54 : decode cX0_enter 54 = .ok (.iload 4, 2) := by decide +kernel
theorem dX0_enter_56 : decode cX0_enter 56 = .ok (.iconst 2, 1) := by decide +kernel
theorem dX0_enter_57 : decode cX0_enter 57 = .ok (.iadd, 1) := by decide +kernel
theorem dX0_enter_58 : decode cX0_enter 58 = .ok (.iload_n 3, 1) := by decide +kernel
theorem dX0_enter_59 : decode cX0_enter 59 = .ok (.iastore, 1) := by decide +kernel
theorem dX0_enter_60 : decode cX0_enter 60 = .ok (.aload_n 0, 1) := by decide +kernel
theorem dX0_enter_61 : decode cX0_enter 61 = .ok (.dup, 1) := by decide +kernel
theorem dX0_enter_62 : decode cX0_enter 62 = .ok (.getfield 27, 3) := by decide +kernel
theorem dX0_enter_65 : decode cX0_enter 65 = .ok (.iconst 1, 1) := by decide +kernel
theorem dX0_enter_66 : decode cX0_enter 66 = .ok (.iadd, 1) := by decide +kernel
theorem dX0_enter_67 : decode cX0_enter 67 = .ok (.putfield 27, 3) := by decide +kernel
theorem dX0_enter_70 : decode cX0_enter 70 = .ok (.return_, 1) := by decide +kernel
theorem dX0_eventAt_0 : decode cX0_eventAt 0 = .ok (.aload_n 0, 1) := by decide +kernel
theorem dX0_eventAt_1 : decode cX0_eventAt 1 = .ok (.getfield 27, 3) := by decide +kernel
theorem dX0_eventAt_4 : decode cX0_eventAt 4 = .ok (.iconst 1, 1) := by decide +kernel
theorem dX0_eventAt_5 : decode cX0_eventAt 5 = .ok (.isub, 1) := by decide +kernel
theorem dX0_eventAt_6 : decode cX0_eventAt 6 = .ok (.iload_n 1, 1) := by decide +kernel
theorem dX0_eventAt_7 : decode cX0_eventAt 7 = .ok (.isub, 1) := by decide +kernel
theorem dX0_eventAt_8 : decode cX0_eventAt 8 = .ok (.bipush 24, 2) := by decide +kernel
theorem dX0_eventAt_10 : decode cX0_eventAt 10 = .ok (.invokestatic 49, 3) := by decide +kernel
theorem dX0_eventAt_13 : decode cX0_eventAt 13 = .ok (.istore_n 3, 1) := by decide +kernel
theorem dX0_eventAt_14 : decode cX0_eventAt 14 = .ok (.iload_n 2, 1) := by decide +kernel
theorem dX0_eventAt_15 : decode cX0_eventAt 15 = .ok (.ifCond .lt 21, 3) := by decide +kernel
theorem dX0_eventAt_18 : decode cX0_eventAt 18 = .ok (.iload_n 2, 1) := by decide +kernel
theorem dX0_eventAt_19 : decode cX0_eventAt 19 = .ok (.iconst 3, 1) := by decide +kernel
theorem dX0_eventAt_20 : decode cX0_eventAt 20 = .ok (.if_icmp .ge 16, 3) := by decide +kernel
theorem dX0_eventAt_23 : decode cX0_eventAt 23 = .ok (.aload_n 0, 1) := by decide +kernel
theorem dX0_eventAt_24 : decode cX0_eventAt 24 = .ok (.getfield 24, 3) := by decide +kernel
theorem dX0_eventAt_27 : decode cX0_eventAt 27 = .ok (.iload_n 3, 1) := by decide +kernel
theorem dX0_eventAt_28 : decode cX0_eventAt 28 = .ok (.iconst 3, 1) := by decide +kernel
theorem dX0_eventAt_29 : decode cX0_eventAt 29 = .ok (.imul, 1) := by decide +kernel
theorem dX0_eventAt_30 : decode cX0_eventAt 30 = .ok (.iload_n 2, 1) := by decide +kernel
theorem dX0_eventAt_31 : decode cX0_eventAt 31 = .ok (.iadd, 1) := by decide +kernel
theorem dX0_eventAt_32 : decode cX0_eventAt 32 = .ok (.iaload, 1) := by decide +kernel
theorem dX0_eventAt_33 : decode cX0_eventAt 33 = .ok (.goto 4, 3) := by decide +kernel
theorem dX0_eventAt_36 : decode cX0_eventAt 36 = .ok (.iconst (-1), 1) := by decide +kernel
theorem dX0_eventAt_37 : decode cX0_eventAt 37 = .ok (.ireturn, 1) := by decide +kernel
theorem dX0_gotAt_0 : decode cX0_gotAt 0 = .ok (.aload_n 0, 1) := by decide +kernel
theorem dX0_gotAt_1 : decode cX0_gotAt 1 = .ok (.getfield 9, 3) := by decide +kernel
theorem dX0_gotAt_4 : decode cX0_gotAt 4 = .ok (.iconst 0, 1) := by decide +kernel
theorem dX0_gotAt_5 : decode cX0_gotAt 5 = .ok (.iaload, 1) := by decide +kernel
theorem dX0_gotAt_6 : decode cX0_gotAt 6 = .ok (.iconst 1, 1) := by decide +kernel
theorem dX0_gotAt_7 : decode cX0_gotAt 7 = .ok (.isub, 1) := by decide +kernel
theorem dX0_gotAt_8 : decode cX0_gotAt 8 = .ok (.iload_n 1, 1) := by decide +kernel
theorem dX0_gotAt_9 : decode cX0_gotAt 9 = .ok (.isub, 1) := by decide +kernel
theorem dX0_gotAt_10 : decode cX0_gotAt 10 = .ok (.bipush 16, 2) := by decide +kernel
theorem dX0_gotAt_12 : decode cX0_gotAt 12 = .ok (.invokestatic 49, 3) := by decide +kernel
theorem dX0_gotAt_15 : decode cX0_gotAt 15 = .ok (.istore_n 3, 1) := by decide +kernel
theorem dX0_gotAt_16 : decode cX0_gotAt 16 = .ok (.iload_n 2, 1) := by decide +kernel
theorem dX0_gotAt_17 : decode cX0_gotAt 17 = .ok (.ifCond .lt 23, 3) := by decide +kernel
theorem dX0_gotAt_20 : decode cX0_gotAt 20 = .ok (.iload_n 2, 1) := by decide +kernel
theorem dX0_gotAt_21 : decode cX0_gotAt 21 = .ok (.bipush 6, 2) := by decide +kernel
theorem dX0_gotAt_23 : decode cX0_gotAt 23 = .ok (.if_icmp .ge 17, 3) := by decide +kernel
theorem dX0_gotAt_26 : decode cX0_gotAt 26 = .ok (.aload_n 0, 1) := by decide +kernel
theorem dX0_gotAt_27 : decode cX0_gotAt 27 = .ok (.getfield 21, 3) := by decide +kernel
theorem dX0_gotAt_30 : decode cX0_gotAt 30 = .ok (.iload_n 3, 1) := by decide +kernel
theorem dX0_gotAt_31 : decode cX0_gotAt 31 = .ok (.bipush 6, 2) := by decide +kernel
theorem dX0_gotAt_33 : decode cX0_gotAt 33 = .ok (.imul, 1) := by decide +kernel
theorem dX0_gotAt_34 : decode cX0_gotAt 34 = .ok (.iload_n 2, 1) := by decide +kernel
theorem dX0_gotAt_35 : decode cX0_gotAt 35 = .ok (.iadd, 1) := by decide +kernel
theorem dX0_gotAt_36 : decode cX0_gotAt 36 = .ok (.iaload, 1) := by decide +kernel
theorem dX0_gotAt_37 : decode cX0_gotAt 37 = .ok (.goto 4, 3) := by decide +kernel
theorem dX0_gotAt_40 : decode cX0_gotAt 40 = .ok (.iconst (-1), 1) := by decide +kernel
theorem dX0_gotAt_41 : decode cX0_gotAt 41 = .ok (.ireturn, 1) := by decide +kernel
theorem dX0_gotOf_0 : decode cX0_gotOf 0 = .ok (.iload_n 1, 1) := by decide +kernel
theorem dX0_gotOf_1 : decode cX0_gotOf 1 = .ok (.ifCond .lt 18, 3) := by decide +kernel
theorem dX0_gotOf_4 : decode cX0_gotOf 4 = .ok (.iload_n 1, 1) := by decide +kernel
theorem dX0_gotOf_5 : decode cX0_gotOf 5 = .ok (.bipush 8, 2) := by decide +kernel
theorem dX0_gotOf_7 : decode cX0_gotOf 7 = .ok (.if_icmp .ge 12, 3) := by decide +kernel
theorem dX0_gotOf_10 : decode cX0_gotOf 10 = .ok (.aload_n 0, 1) := by decide +kernel
theorem dX0_gotOf_11 : decode cX0_gotOf 11 = .ok (.getfield 15, 3) := by decide +kernel
theorem dX0_gotOf_14 : decode cX0_gotOf 14 = .ok (.iload_n 1, 1) := by decide +kernel
theorem dX0_gotOf_15 : decode cX0_gotOf 15 = .ok (.iaload, 1) := by decide +kernel
theorem dX0_gotOf_16 : decode cX0_gotOf 16 = .ok (.goto 4, 3) := by decide +kernel
theorem dX0_gotOf_19 : decode cX0_gotOf 19 = .ok (.iconst 0, 1) := by decide +kernel
theorem dX0_gotOf_20 : decode cX0_gotOf 20 = .ok (.ireturn, 1) := by decide +kernel
theorem dX0_keepGot_0 : decode cX0_keepGot 0 = .ok (.iload_n 2, 1) := by decide +kernel
theorem dX0_keepGot_1 : decode cX0_keepGot 1 = .ok (.aload_n 1, 1) := by decide +kernel
theorem dX0_keepGot_2 : decode cX0_keepGot 2 = .ok (.getfield 52, 3) := by decide +kernel
theorem dX0_keepGot_5 : decode cX0_keepGot 5 = .ok (.isub, 1) := by decide +kernel
theorem dX0_keepGot_6 : decode cX0_keepGot 6 = .ok (.istore_n 3, 1) := by decide +kernel
theorem dX0_keepGot_7 : decode cX0_keepGot 7 = .ok (.aload_n 0, 1) := by decide +kernel
theorem dX0_keepGot_8 : decode cX0_keepGot 8 = .ok (.getfield 9, 3) := by decide +kernel
theorem dX0_keepGot_11 : decode cX0_keepGot 11 = .ok (.iconst 0, 1) := by decide +kernel
theorem dX0_keepGot_12 : decode cX0_keepGot 12 = .ok (.iaload, 1) := by decide +kernel
theorem dX0_keepGot_13 : decode cX0_keepGot 13 = .ok (.bipush 16, 2) := by decide +kernel
theorem dX0_keepGot_15 : decode cX0_keepGot 15 = .ok (.invokestatic 49, 3) := by decide +kernel
theorem dX0_keepGot_18 : decode cX0_keepGot 18 = .ok (.bipush 6, 2) := by decide +kernel
theorem dX0_keepGot_20 : decode cX0_keepGot 20 = .ok (.imul, 1) := by decide +kernel
theorem dX0_keepGot_21 : decode cX0_keepGot 21 = .ok (.istore 4, 2) := by decide +kernel
theorem dX0_keepGot_23 : decode cX0_keepGot 23 = .ok (.aload_n 0, 1) := by decide +kernel
theorem dX0_keepGot_24 : decode cX0_keepGot 24 = .ok (.getfield 21, 3) := by decide +kernel
theorem dX0_keepGot_27 : decode cX0_keepGot 27 = .ok (.iload 4, 2) := by decide +kernel
theorem dX0_keepGot_29 : decode cX0_keepGot 29 = .ok (.aload_n 1, 1) := by decide +kernel
theorem dX0_keepGot_30 : decode cX0_keepGot 30 = .ok (.getfield 57, 3) := by decide +kernel
theorem dX0_keepGot_33 : decode cX0_keepGot 33 = .ok (.iastore, 1) := by decide +kernel
theorem dX0_keepGot_34 : decode cX0_keepGot 34 = .ok (.aload_n 0, 1) := by decide +kernel
theorem dX0_keepGot_35 : decode cX0_keepGot 35 = .ok (.getfield 21, 3) := by decide +kernel
theorem dX0_keepGot_38 : decode cX0_keepGot 38 = .ok (.iload 4, 2) := by decide +kernel
theorem dX0_keepGot_40 : decode cX0_keepGot 40 = .ok (.iconst 1, 1) := by decide +kernel
theorem dX0_keepGot_41 : decode cX0_keepGot 41 = .ok (.iadd, 1) := by decide +kernel
theorem dX0_keepGot_42 : decode cX0_keepGot 42 = .ok (.aload_n 1, 1) := by decide +kernel
theorem dX0_keepGot_43 : decode cX0_keepGot 43 = .ok (.getfield 60, 3) := by decide +kernel
theorem dX0_keepGot_46 : decode cX0_keepGot 46 = .ok (.iastore, 1) := by decide +kernel
theorem dX0_keepGot_47 : decode cX0_keepGot 47 = .ok (.aload_n 0, 1) := by decide +kernel
theorem dX0_keepGot_48 : decode cX0_keepGot 48 = .ok (.getfield 21, 3) := by decide +kernel
theorem dX0_keepGot_51 : decode cX0_keepGot 51 = .ok (.iload 4, 2) := by decide +kernel
theorem dX0_keepGot_53 : decode cX0_keepGot 53 = .ok (.iconst 2, 1) := by decide +kernel
theorem dX0_keepGot_54 : decode cX0_keepGot 54 = .ok (.iadd, 1) := by decide +kernel
theorem dX0_keepGot_55 : decode cX0_keepGot 55 = .ok (.aload_n 1, 1) := by decide +kernel
theorem dX0_keepGot_56 : decode cX0_keepGot 56 = .ok (.getfield 63, 3) := by decide +kernel
theorem dX0_keepGot_59 : decode cX0_keepGot 59 = .ok (.iastore, 1) := by decide +kernel
theorem dX0_keepGot_60 : decode cX0_keepGot 60 = .ok (.aload_n 0, 1) := by decide +kernel
theorem dX0_keepGot_61 : decode cX0_keepGot 61 = .ok (.getfield 21, 3) := by decide +kernel
theorem dX0_keepGot_64 : decode cX0_keepGot 64 = .ok (.iload 4, 2) := by decide +kernel
theorem dX0_keepGot_66 : decode cX0_keepGot 66 = .ok (.iconst 3, 1) := by decide +kernel
theorem dX0_keepGot_67 : decode cX0_keepGot 67 = .ok (.iadd, 1) := by decide +kernel
theorem dX0_keepGot_68 : decode cX0_keepGot 68 = .ok (.aload_n 1, 1) := by decide +kernel
theorem dX0_keepGot_69 : decode cX0_keepGot 69 = .ok (.getfield 66, 3) := by decide +kernel
theorem dX0_keepGot_72 : decode cX0_keepGot 72 = .ok (.iastore, 1) := by decide +kernel
theorem dX0_keepGot_73 : decode cX0_keepGot 73 = .ok (.aload_n 0, 1) := by decide +kernel
theorem dX0_keepGot_74 : decode cX0_keepGot 74 = .ok (.getfield 21, 3) := by decide +kernel
theorem dX0_keepGot_77 : decode cX0_keepGot 77 = .ok (.iload 4, 2) := by decide +kernel
theorem dX0_keepGot_79 : decode cX0_keepGot 79 = .ok (.iconst 4, 1) := by decide +kernel
theorem dX0_keepGot_80 : decode cX0_keepGot 80 = .ok (.iadd, 1) := by decide +kernel
theorem dX0_keepGot_81 : decode cX0_keepGot 81 = .ok (.iload_n 2, 1) := by decide +kernel
theorem dX0_keepGot_82 : decode cX0_keepGot 82 = .ok (.iastore, 1) := by decide +kernel
theorem dX0_keepGot_83 : decode cX0_keepGot 83 = .ok (.aload_n 0, 1) := by decide +kernel
theorem dX0_keepGot_84 : decode cX0_keepGot 84 = .ok (.getfield 21, 3) := by decide +kernel
theorem dX0_keepGot_87 : decode cX0_keepGot 87 = .ok (.iload 4, 2) := by decide +kernel
theorem dX0_keepGot_89 : decode cX0_keepGot 89 = .ok (.iconst 5, 1) := by decide +kernel
theorem dX0_keepGot_90 : decode cX0_keepGot 90 = .ok (.iadd, 1) := by decide +kernel
theorem dX0_keepGot_91 : decode cX0_keepGot 91 = .ok (.iload_n 3, 1) := by decide +kernel
theorem dX0_keepGot_92 : decode cX0_keepGot 92 = .ok (.iastore, 1) := by decide +kernel
theorem dX0_keepGot_93 : decode cX0_keepGot 93 = .ok (.aload_n 0, 1) := by decide +kernel
theorem dX0_keepGot_94 : decode cX0_keepGot 94 = .ok (.getfield 9, 3) := by decide +kernel
theorem dX0_keepGot_97 : decode cX0_keepGot 97 = .ok (.bipush 8, 2) := by decide +kernel
theorem dX0_keepGot_99 : decode cX0_keepGot 99 = .ok (.dup2, 1) := by decide +kernel
theorem dX0_keepGot_100 : decode cX0_keepGot 100 = .ok (.iaload, 1) := by decide +kernel
theorem dX0_keepGot_101 : decode cX0_keepGot 101 = .ok (.iload_n 3, 1) := by decide +kernel
theorem dX0_keepGot_102 : decode cX0_keepGot 102 = .ok (.iadd, 1) := by decide +kernel
theorem dX0_keepGot_103 : decode cX0_keepGot 103 = .ok (.iastore, 1) := by decide +kernel
theorem dX0_keepGot_104 : decode cX0_keepGot 104 = .ok (.aload_n 0, 1) := by decide +kernel
theorem dX0_keepGot_105 : decode cX0_keepGot 105 = .ok (.getfield 9, 3) := by decide +kernel
theorem dX0_keepGot_108 : decode cX0_keepGot 108 = .ok (.bipush 9, 2) := by decide +kernel
theorem dX0_keepGot_110 : decode cX0_keepGot 110 = .ok (.aload_n 0, 1) := by decide +kernel
theorem dX0_keepGot_111 : decode cX0_keepGot 111 = .ok (.getfield 9, 3) := by decide +kernel
theorem dX0_keepGot_114 : decode cX0_keepGot 114 = .ok (.bipush 9, 2) := by decide +kernel
theorem dX0_keepGot_116 : decode cX0_keepGot 116 = .ok (.iaload, 1) := by decide +kernel
theorem dX0_keepGot_117 : decode cX0_keepGot 117 = .ok (.iload_n 3, 1) := by decide +kernel
theorem dX0_keepGot_118 : decode cX0_keepGot 118 = .ok (.invokestatic 43, 3) := by decide +kernel
theorem dX0_keepGot_121 : decode cX0_keepGot 121 = .ok (.iastore, 1) := by decide +kernel
theorem dX0_keepGot_122 : decode cX0_keepGot 122 = .ok (.aload_n 1, 1) := by decide +kernel
theorem dX0_keepGot_123 : decode cX0_keepGot 123 = .ok (.getfield 66, 3) := by decide +kernel
theorem dX0_keepGot_126 : decode cX0_keepGot 126 = .ok (.ifCond .lt 38, 3) := by decide +kernel
theorem dX0_keepGot_129 : decode cX0_keepGot 129 = .ok (.aload_n 1, 1) := by decide +kernel
theorem dX0_keepGot_130 : decode cX0_keepGot 130 = .ok (.getfield 66, 3) := by decide +kernel
theorem dX0_keepGot_133 : decode cX0_keepGot 133 = .ok (.bipush 8, 2) := by decide +kernel
theorem dX0_keepGot_135 : decode cX0_keepGot 135 = .ok (.if_icmp .ge 29, 3) := by decide +kernel
theorem dX0_keepGot_138 : decode cX0_keepGot 138 = .ok (.aload_n 0, 1) := by decide +kernel
theorem dX0_keepGot_139 : decode cX0_keepGot 139 = .ok (.getfield 15, 3) := by decide +kernel
theorem dX0_keepGot_142 : decode cX0_keepGot 142 = .ok (.aload_n 1, 1) := by decide +kernel
theorem dX0_keepGot_143 : decode cX0_keepGot 143 = .ok (.getfield 66, 3) := by decide +kernel
theorem dX0_keepGot_146 : decode cX0_keepGot 146 = .ok (.dup2, 1) := by decide +kernel
theorem dX0_keepGot_147 : decode cX0_keepGot 147 = .ok (.iaload, 1) := by decide +kernel
theorem dX0_keepGot_148 : decode cX0_keepGot 148 = .ok (.iconst 1, 1) := by decide +kernel
theorem dX0_keepGot_149 : decode cX0_keepGot 149 = .ok (.iadd, 1) := by decide +kernel
theorem dX0_keepGot_150 : decode cX0_keepGot 150 = .ok (.iastore, 1) := by decide +kernel
theorem dX0_keepGot_151 : decode cX0_keepGot 151 = .ok (.aload_n 0, 1) := by decide +kernel
theorem dX0_keepGot_152 : decode cX0_keepGot 152 = .ok (.getfield 18, 3) := by decide +kernel
theorem dX0_keepGot_155 : decode cX0_keepGot 155 = .ok (.aload_n 1, 1) := by decide +kernel
theorem dX0_keepGot_156 : decode cX0_keepGot 156 = .ok (.getfield 66, 3) := by decide +kernel
theorem dX0_keepGot_159 : decode cX0_keepGot 159 = .ok (.dup2, 1) := by decide +kernel
theorem dX0_keepGot_160 : decode cX0_keepGot 160 = .ok (.iaload, 1) := by decide +kernel
theorem dX0_keepGot_161 : decode cX0_keepGot 161 = .ok (.iload_n 3, 1) := by decide +kernel
theorem dX0_keepGot_162 : decode cX0_keepGot 162 = .ok (.iadd, 1) := by decide +kernel
theorem dX0_keepGot_163 : decode cX0_keepGot 163 = .ok (.iastore, 1) := by decide +kernel
theorem dX0_keepGot_164 : decode cX0_keepGot 164 = .ok (.return_, 1) := by decide +kernel
theorem dX10_add_0 : decode cX10_add 0 = .ok (.iload_n 1, 1) := by decide +kernel
theorem dX10_add_1 : decode cX10_add 1 = .ok (.ifCond .lt 9, 3) := by decide +kernel
theorem dX10_add_4 : decode cX10_add 4 = .ok (.iload_n 1, 1) := by decide +kernel
theorem dX10_add_5 : decode cX10_add 5 = .ok (.bipush 100, 2) := by decide +kernel
theorem dX10_add_7 : decode cX10_add 7 = .ok (.if_icmp .lt 9, 3) := by decide +kernel
theorem dX10_add_10 : decode cX10_add 10 = .ok (.aload_n 0, 1) := by decide +kernel
theorem dX10_add_11 : decode cX10_add 11 = .ok (.iconst 1, 1) := by decide +kernel
theorem dX10_add_12 : decode cX10_add 12 = .ok (.invokevirtual 66, 3) := by decide +kernel
theorem dX10_add_15 : decode cX10_add 15 = .ok (.ireturn, 1) := by decide +kernel
theorem dX10_add_16 : decode cX10_add 16 = .ok (.aload_n 0, 1) := by decide +kernel
theorem dX10_add_17 : decode cX10_add 17 = .ok (.getfield 19, 3) := by decide +kernel
theorem dX10_add_20 : decode cX10_add 20 = .ok (.getfield 86, 3) := by decide +kernel
theorem dX10_add_23 : decode cX10_add 23 = .ok (.getfield 90, 3) := by decide +kernel
theorem dX10_add_26 : decode cX10_add 26 = .ok (.bipush 8, 2) := by decide +kernel
theorem dX10_add_28 : decode cX10_add 28 = .ok (.if_icmp .lt 9, 3) := by decide +kernel
theorem dX10_add_31 : decode cX10_add 31 = .ok (.aload_n 0, 1) := by decide +kernel
theorem dX10_add_32 : decode cX10_add 32 = .ok (.iconst 3, 1) := by decide +kernel
theorem dX10_add_33 : decode cX10_add 33 = .ok (.invokevirtual 66, 3) := by decide +kernel
theorem dX10_add_36 : decode cX10_add 36 = .ok (.ireturn, 1) := by decide +kernel
theorem dX10_add_37 : decode cX10_add 37 = .ok (.aload_n 0, 1) := by decide +kernel
theorem dX10_add_38 : decode cX10_add 38 = .ok (.getfield 19, 3) := by decide +kernel
theorem dX10_add_41 : decode cX10_add 41 = .ok (.getfield 86, 3) := by decide +kernel
theorem dX10_add_44 : decode cX10_add 44 = .ok (.iload_n 1, 1) := by decide +kernel
theorem dX10_add_45 : decode cX10_add 45 = .ok (.invokevirtual 235, 3) := by decide +kernel
theorem dX10_add_48 : decode cX10_add 48 = .ok (.ifCond .eq 10, 3) := by decide +kernel
theorem dX10_add_51 : decode cX10_add 51 = .ok (.aload_n 0, 1) := by decide +kernel
theorem dX10_add_52 : decode cX10_add 52 = .ok (.bipush 8, 2) := by decide +kernel
theorem dX10_add_54 : decode cX10_add 54 = .ok (.invokevirtual 66, 3) := by decide +kernel
theorem dX10_add_57 : decode cX10_add 57 = .ok (.ireturn, 1) := by decide +kernel
theorem dX10_add_58 : decode cX10_add 58 = .ok (.aload_n 0, 1) := by decide +kernel
theorem dX10_add_59 : decode cX10_add 59 = .ok (.getfield 19, 3) := by decide +kernel
theorem dX10_add_62 : decode cX10_add 62 = .ok (.getfield 86, 3) := by decide +kernel
theorem dX10_add_65 : decode cX10_add 65 = .ok (.iload_n 1, 1) := by decide +kernel
theorem dX10_add_66 : decode cX10_add 66 = .ok (.invokevirtual 238, 3) := by decide +kernel
theorem dX10_add_69 : decode cX10_add 69 = .ok (.aload_n 0, 1) := by decide +kernel
theorem dX10_add_70 : decode cX10_add 70 = .ok (.getfield 19, 3) := by decide +kernel
theorem dX10_add_73 : decode cX10_add 73 = .ok (.invokevirtual 239, 3) := by decide +kernel
theorem dX10_add_76 : decode cX10_add 76 = .ok (.aload_n 0, 1) := by decide +kernel
theorem dX10_add_77 : decode cX10_add 77 = .ok (.aload_n 0, 1) := by decide +kernel
theorem dX10_add_78 : decode cX10_add 78 = .ok (.getfield 19, 3) := by decide +kernel
theorem dX10_add_81 : decode cX10_add 81 = .ok (.getfield 86, 3) := by decide +kernel
theorem dX10_add_84 : decode cX10_add 84 = .ok (.getfield 90, 3) := by decide +kernel
theorem dX10_add_87 : decode cX10_add 87 = .ok (.iconst 1, 1) := by decide +kernel
theorem dX10_add_88 : decode cX10_add 88 = .ok (.isub, 1) := by decide +kernel
theorem dX10_add_89 : decode cX10_add 89 = .ok (.invokevirtual 95, 3) := by decide +kernel
theorem dX10_add_92 : decode cX10_add 92 = .ok (.ireturn, 1) := by decide +kernel
theorem dX10_back_0 : decode cX10_back 0 = .ok (.aload_n 0, 1) := by decide +kernel
theorem dX10_back_1 : decode cX10_back 1 = .ok (.getfield 52, 3) := by decide +kernel
theorem dX10_back_4 : decode cX10_back 4 = .ok (.iconst 1, 1) := by decide +kernel
theorem dX10_back_5 : decode cX10_back 5 = .ok (.if_icmp .lt 11, 3) := by decide +kernel
theorem dX10_back_8 : decode cX10_back 8 = .ok (.aload_n 0, 1) := by decide +kernel
theorem dX10_back_9 : decode cX10_back 9 = .ok (.getfield 52, 3) := by decide +kernel
theorem dX10_back_12 : decode cX10_back 12 = .ok (.iconst 4, 1) := by decide +kernel
theorem dX10_back_13 : decode cX10_back 13 = .ok (.if_icmp .le 9, 3) := by decide +kernel
theorem dX10_back_16 : decode cX10_back 16 = .ok (.aload_n 0, 1) := by decide +kernel
theorem dX10_back_17 : decode cX10_back 17 = .ok (.iconst 5, 1) := by decide +kernel
theorem dX10_back_18 : decode cX10_back 18 = .ok (.invokevirtual 66, 3) := by decide +kernel
theorem dX10_back_21 : decode cX10_back 21 = .ok (.ireturn, 1) := by decide +kernel
theorem dX10_back_22 : decode cX10_back 22 = .ok (.aload_n 0, 1) := by decide +kernel
theorem dX10_back_23 : decode cX10_back 23 = .ok (.dup, 1) := by decide +kernel
theorem dX10_back_24 : decode cX10_back 24 = .ok (.getfield 52, 3) := by decide +kernel
theorem dX10_back_27 : decode cX10_back 27 = .ok (.iconst 1, 1) := by decide +kernel
theorem dX10_back_28 : decode cX10_back 28 = .ok (.isub, 1) := by decide +kernel
theorem dX10_back_29 : decode cX10_back 29 = .ok (.putfield 52, 3) := by decide +kernel
theorem dX10_back_32 : decode cX10_back 32 = .ok (.aload_n 0, 1) := by decide +kernel
theorem dX10_back_33 : decode cX10_back 33 = .ok (.getfield 19, 3) := by decide +kernel
theorem dX10_back_36 : decode cX10_back 36 = .ok (.aload_n 0, 1) := by decide +kernel
theorem dX10_back_37 : decode cX10_back 37 = .ok (.getfield 44, 3) := by decide +kernel
theorem dX10_back_40 : decode cX10_back 40 = .ok (.aload_n 0, 1) := by decide +kernel
theorem dX10_back_41 : decode cX10_back 41 = .ok (.getfield 52, 3) := by decide +kernel
theorem dX10_back_44 : decode cX10_back 44 = .ok (.aaload, 1) := by decide +kernel
theorem dX10_back_45 : decode cX10_back 45 = .ok (.invokevirtual 82, 3) := by decide +kernel
theorem dX10_back_48 : decode cX10_back 48 = .ok (.aload_n 0, 1) := by decide +kernel
theorem dX10_back_49 : decode cX10_back 49 = .ok (.getfield 10, 3) := by decide +kernel
theorem dX10_back_52 : decode cX10_back 52 = .ok (.aload_n 0, 1) := by decide +kernel
theorem dX10_back_53 : decode cX10_back 53 = .ok (.getfield 48, 3) := by decide +kernel
theorem dX10_back_56 : decode cX10_back 56 = .ok (.aload_n 0, 1) := by decide +kernel
theorem dX10_back_57 : decode cX10_back 57 = .ok (.getfield 52, 3) := by decide +kernel
theorem dX10_back_60 : decode cX10_back 60 = .ok (.aaload, 1) := by decide +kernel
theorem dX10_back_61 : decode cX10_back 61 = .ok (.invokevirtual 293, 3) := by decide +kernel
theorem dX10_back_64 : decode cX10_back 64 = .ok (.aload_n 0, 1) := by decide +kernel
theorem dX10_back_65 : decode cX10_back 65 = .ok (.aload_n 0, 1) := by decide +kernel
theorem dX10_back_66 : decode cX10_back 66 = .ok (.getfield 52, 3) := by decide +kernel
theorem dX10_back_69 : decode cX10_back 69 = .ok (.invokevirtual 95, 3) := by decide +kernel
theorem dX10_back_72 : decode cX10_back 72 = .ok (.ireturn, 1) := by decide +kernel
theorem dX10_beacon_0 : decode cX10_beacon 0 = .ok (.iload_n 1, 1) := by decide +kernel
theorem dX10_beacon_1 : decode cX10_beacon 1 = .ok (.ifCond .lt 8, 3) := by decide +kernel
theorem dX10_beacon_4 : decode cX10_beacon 4 = .ok (.iload_n 1, 1) := by decide +kernel
theorem dX10_beacon_5 : decode cX10_beacon 5 = .ok (.iconst 2, 1) := by decide +kernel
theorem dX10_beacon_6 : decode cX10_beacon 6 = .ok (.if_icmp .le 9, 3) := by decide +kernel
theorem dX10_beacon_9 : decode cX10_beacon 9 = .ok (.aload_n 0, 1) := by decide +kernel
theorem dX10_beacon_10 : decode cX10_beacon 10 = .ok (.iconst 1, 1) := by decide +kernel
theorem dX10_beacon_11 : decode cX10_beacon 11 = .ok (.invokevirtual 66, 3) := by decide +kernel
theorem dX10_beacon_14 : decode cX10_beacon 14 = .ok (.ireturn, 1) := by decide +kernel
theorem dX10_beacon_15 : decode cX10_beacon 15 = .ok (.aload_n 0, 1) := by decide +kernel
theorem dX10_beacon_16 : decode cX10_beacon 16 = .ok (.getfield 19, 3) := by decide +kernel
theorem dX10_beacon_19 : decode cX10_beacon 19 = .ok (.getfield 129, 3) := by decide +kernel
theorem dX10_beacon_22 : decode cX10_beacon 22 = .ok (.astore_n 2, 1) := by decide +kernel
theorem dX10_beacon_23 : decode cX10_beacon 23 = .ok (.iload_n 1, 1) := by decide +kernel
theorem dX10_beacon_24 : decode cX10_beacon 24 = .ok (.ifCond .ne 12, 3) := by decide +kernel
theorem dX10_beacon_27 : decode cX10_beacon 27 = .ok (.aload_n 0, 1) := by decide +kernel
theorem dX10_beacon_28 : decode cX10_beacon 28 = .ok (.aload_n 2, 1) := by decide +kernel
theorem dX10_beacon_29 : decode cX10_beacon 29 = .ok (.getfield 171, 3) := by decide +kernel
theorem dX10_beacon_32 : decode cX10_beacon 32 = .ok (.invokevirtual 95, 3) := by decide +kernel
theorem dX10_beacon_35 : decode cX10_beacon 35 = .ok (.ireturn, 1) := by decide +kernel
theorem dX10_beacon_36 : decode cX10_beacon 36 = .ok (.aload_n 2, 1) := by decide +kernel
theorem dX10_beacon_37 : decode cX10_beacon 37 = .ok (.getfield 171, 3) := by decide +kernel
theorem dX10_beacon_40 : decode cX10_beacon 40 = .ok (.iconst 2, 1) := by decide +kernel
theorem dX10_beacon_41 : decode cX10_beacon 41 = .ok (.if_icmp .eq 9, 3) := by decide +kernel
theorem dX10_beacon_44 : decode cX10_beacon 44 = .ok (.aload_n 0, 1) := by decide +kernel
theorem dX10_beacon_45 : decode cX10_beacon 45 = .ok (.iconst 5, 1) := by decide +kernel
theorem dX10_beacon_46 : decode cX10_beacon 46 = .ok (.invokevirtual 66, 3) := by decide +kernel
theorem dX10_beacon_49 : decode cX10_beacon 49 = .ok (.ireturn, 1) := by decide +kernel
theorem dX10_beacon_50 : decode cX10_beacon 50 = .ok (.aload_n 0, 1) := by decide +kernel
theorem dX10_beacon_51 : decode cX10_beacon 51 = .ok (.iload_n 1, 1) := by decide +kernel
theorem dX10_beacon_52 : decode cX10_beacon 52 = .ok (.iconst 1, 1) := by decide +kernel
theorem dX10_beacon_53 : decode cX10_beacon 53 = .ok (.if_icmp .ne 10, 3) := by decide +kernel
theorem dX10_beacon_56 : decode cX10_beacon 56 = .ok (.aload_n 2, 1) := by decide +kernel
theorem dX10_beacon_57 : decode cX10_beacon 57 = .ok (.getfield 174, 3) := by decide +kernel
theorem dX10_beacon_60 : decode cX10_beacon 60 = .ok (.goto 7, 3) := by decide +kernel
theorem dX10_beacon_63 : decode cX10_beacon 63 = .ok (.aload_n 2, 1) := by decide +kernel
theorem dX10_beacon_64 : decode cX10_beacon 64 = .ok (.getfield 177, 3) := by decide +kernel
theorem dX10_beacon_67 : decode cX10_beacon 67 = .ok (.invokevirtual 95, 3) := by decide +kernel
theorem dX10_beacon_70 : decode cX10_beacon 70 = .ok (.ireturn, 1) := by decide +kernel
theorem dX10_been_0 : decode cX10_been 0 = .ok (.iload_n 1, 1) := by decide +kernel
theorem dX10_been_1 : decode cX10_been 1 = .ok (.ifCond .lt 9, 3) := by decide +kernel
theorem dX10_been_4 : decode cX10_been 4 = .ok (.iload_n 1, 1) := by decide +kernel
theorem dX10_been_5 : decode cX10_been 5 = .ok (.bipush 10, 2) := by decide +kernel
theorem dX10_been_7 : decode cX10_been 7 = .ok (.if_icmp .lt 9, 3) := by decide +kernel
theorem dX10_been_10 : decode cX10_been 10 = .ok (.aload_n 0, 1) := by decide +kernel
theorem dX10_been_11 : decode cX10_been 11 = .ok (.iconst 1, 1) := by decide +kernel
theorem dX10_been_12 : decode cX10_been 12 = .ok (.invokevirtual 66, 3) := by decide +kernel
theorem dX10_been_15 : decode cX10_been 15 = .ok (.ireturn, 1) := by decide +kernel
theorem dX10_been_16 : decode cX10_been 16 = .ok (.aload_n 0, 1) := by decide +kernel
theorem dX10_been_17 : decode cX10_been 17 = .ok (.aload_n 0, 1) := by decide +kernel
theorem dX10_been_18 : decode cX10_been 18 = .ok (.getfield 19, 3) := by decide +kernel
theorem dX10_been_21 : decode cX10_been 21 = .ok (.getfield 180, 3) := by decide +kernel
theorem dX10_been_24 : decode cX10_been 24 = .ok (.iload_n 1, 1) := by decide +kernel
theorem dX10_been_25 : decode cX10_been 25 = .ok (.invokevirtual 184, 3) := by decide +kernel
theorem dX10_been_28 : decode cX10_been 28 = .ok (.invokevirtual 95, 3) := by decide +kernel
theorem dX10_been_31 : decode cX10_been 31 = .ok (.ireturn, 1) := by decide +kernel
theorem dX10_blamed_0 : decode cX10_blamed 0 = .ok (.aload_n 0, 1) := by decide +kernel
theorem dX10_blamed_1 : decode cX10_blamed 1 = .ok (.getfield 31, 3) := by decide +kernel
theorem dX10_blamed_4 : decode cX10_blamed 4 = .ok (.iconst 5, 1) := by decide +kernel
theorem dX10_blamed_5 : decode cX10_blamed 5 = .ok (.iconst (-1), 1) := by decide +kernel
theorem dX10_blamed_6 : decode cX10_blamed 6 = .ok (.iconst 0, 1) := by decide +kernel
theorem dX10_blamed_7 : decode cX10_blamed 7 = .ok (.invokevirtual 296, 3) := by decide +kernel
theorem dX10_blamed_10 : decode cX10_blamed 10 = .ok (.istore_n 1, 1) := by decide +kernel
theorem dX10_blamed_11 : decode cX10_blamed 11 = .ok (.aload_n 0, 1) := by decide +kernel
theorem dX10_blamed_12 : decode cX10_blamed 12 = .ok (.iload_n 1, 1) := by decide +kernel
theorem dX10_blamed_13 : decode cX10_blamed 13 = .ok (.iconst (-1), 1) := by decide +kernel
theorem dX10_blamed_14 : decode cX10_blamed 14 = .ok (.if_icmp .ne 7, 3) := by decide +kernel
theorem dX10_blamed_17 : decode cX10_blamed 17 = .ok (.iconst (-1), 1) := by decide +kernel
theorem dX10_blamed_18 : decode cX10_blamed 18 = .ok (.goto 10, 3) := by decide +kernel
theorem dX10_blamed_21 : decode cX10_blamed 21 = .ok (.aload_n 0, 1) := by decide +kernel
theorem dX10_blamed_22 : decode cX10_blamed 22 = .ok (.getfield 23, 3) := by decide +kernel
theorem dX10_blamed_25 : decode cX10_blamed 25 = .ok (.getfield 313, 3) := by decide +kernel
theorem dX10_blamed_28 : decode cX10_blamed 28 = .ok (.invokevirtual 300, 3) := by decide +kernel
theorem dX10_blamed_31 : decode cX10_blamed 31 = .ok (.ireturn, 1) := by decide +kernel
theorem dX10_event_0 : decode cX10_event 0 = .ok (.iload_n 1, 1) := by decide +kernel
theorem dX10_event_1 : decode cX10_event 1 = .ok (.ifCond .lt 18, 3) := by decide +kernel
theorem dX10_event_4 : decode cX10_event 4 = .ok (.iload_n 1, 1) := by decide +kernel
theorem dX10_event_5 : decode cX10_event 5 = .ok (.bipush 24, 2) := by decide +kernel
theorem dX10_event_7 : decode cX10_event 7 = .ok (.if_icmp .ge 12, 3) := by decide +kernel
theorem dX10_event_10 : decode cX10_event 10 = .ok (.iload_n 2, 1) := by decide +kernel
theorem dX10_event_11 : decode cX10_event 11 = .ok (.ifCond .lt 8, 3) := by decide +kernel
theorem dX10_event_14 : decode cX10_event 14 = .ok (.iload_n 2, 1) := by decide +kernel
theorem dX10_event_15 : decode cX10_event 15 = .ok (.iconst 3, 1) := by decide +kernel
theorem dX10_event_16 : decode cX10_event 16 = .ok (.if_icmp .lt 9, 3) := by decide +kernel
theorem dX10_event_19 : decode cX10_event 19 = .ok (.aload_n 0, 1) := by decide +kernel
theorem dX10_event_20 : decode cX10_event 20 = .ok (.iconst 1, 1) := by decide +kernel
theorem dX10_event_21 : decode cX10_event 21 = .ok (.invokevirtual 66, 3) := by decide +kernel
theorem dX10_event_24 : decode cX10_event 24 = .ok (.ireturn, 1) := by decide +kernel
theorem dX10_event_25 : decode cX10_event 25 = .ok (.iload_n 1, 1) := by decide +kernel
theorem dX10_event_26 : decode cX10_event 26 = .ok (.aload_n 0, 1) := by decide +kernel
theorem dX10_event_27 : decode cX10_event 27 = .ok (.getfield 19, 3) := by decide +kernel
theorem dX10_event_30 : decode cX10_event 30 = .ok (.getfield 180, 3) := by decide +kernel
theorem dX10_event_33 : decode cX10_event 33 = .ok (.getfield 207, 3) := by decide +kernel
theorem dX10_event_36 : decode cX10_event 36 = .ok (.if_icmp .lt 9, 3) := by decide +kernel
theorem dX10_event_39 : decode cX10_event 39 = .ok (.aload_n 0, 1) := by decide +kernel
theorem dX10_event_40 : decode cX10_event 40 = .ok (.iconst 5, 1) := by decide +kernel
theorem dX10_event_41 : decode cX10_event 41 = .ok (.invokevirtual 66, 3) := by decide +kernel
theorem dX10_event_44 : decode cX10_event 44 = .ok (.ireturn, 1) := by decide +kernel
theorem dX10_event_45 : decode cX10_event 45 = .ok (.aload_n 0, 1) := by decide +kernel
theorem dX10_event_46 : decode cX10_event 46 = .ok (.aload_n 0, 1) := by decide +kernel
theorem dX10_event_47 : decode cX10_event 47 = .ok (.getfield 19, 3) := by decide +kernel
theorem dX10_event_50 : decode cX10_event 50 = .ok (.getfield 180, 3) := by decide +kernel
theorem dX10_event_53 : decode cX10_event 53 = .ok (.iload_n 1, 1) := by decide +kernel
theorem dX10_event_54 : decode cX10_event 54 = .ok (.iload_n 2, 1) := by decide +kernel
theorem dX10_event_55 : decode cX10_event 55 = .ok (.invokevirtual 210, 3) := by decide +kernel
theorem dX10_event_58 : decode cX10_event 58 = .ok (.invokevirtual 95, 3) := by decide +kernel
theorem dX10_event_61 : decode cX10_event 61 = .ok (.ireturn, 1) := by decide +kernel
theorem dX10_fail_0 : decode cX10_fail 0 = .ok (.aload_n 0, 1) := by decide +kernel
theorem dX10_fail_1 : decode cX10_fail 1 = .ok (.iload_n 1, 1) := by decide +kernel
theorem dX10_fail_2 : decode cX10_fail 2 = .ok (.putfield 56, 3) := by decide +kernel
theorem dX10_fail_5 : decode cX10_fail 5 = .ok (.iconst (-1), 1) := by decide +kernel
theorem dX10_fail_6 : decode cX10_fail 6 = .ok (.ireturn, 1) := by decide +kernel
theorem dX10_fault_0 : decode cX10_fault 0 = .ok (.iload_n 1, 1) := by decide +kernel
theorem dX10_fault_1 : decode cX10_fault 1 = .ok (.ifCond .ne 11, 3) := by decide +kernel
theorem dX10_fault_4 : decode cX10_fault 4 = .ok (.aload_n 0, 1) := by decide +kernel
theorem dX10_fault_5 : decode cX10_fault 5 = .ok (.getfield 10, 3) := by decide +kernel
theorem dX10_fault_8 : decode cX10_fault 8 = .ok (.getfield 77, 3) := by decide +kernel
theorem dX10_fault_11 : decode cX10_fault 11 = .ok (.ireturn, 1) := by decide +kernel
theorem dX10_fault_12 : decode cX10_fault 12 = .ok (.iload_n 1, 1) := by decide +kernel
theorem dX10_fault_13 : decode cX10_fault 13 = .ok (.iconst 1, 1) := by decide +kernel
theorem dX10_fault_14 : decode cX10_fault 14 = .ok (.if_icmp .ne 13, 3) := by decide +kernel
theorem dX10_fault_17 : decode cX10_fault 17 = .ok (.aload_n 0, 1) := by decide +kernel
theorem dX10_fault_18 : decode cX10_fault 18 = .ok (.getfield 10, 3) := by decide +kernel
theorem dX10_fault_21 : decode cX10_fault 21 = .ok (.getfield 81, 3) := by decide +kernel
theorem dX10_fault_24 : decode cX10_fault 24 = .ok (.goto 4, 3) := by decide +kernel
theorem dX10_fault_27 : decode cX10_fault 27 = .ok (.iconst (-1), 1) := by decide +kernel
theorem dX10_fault_28 : decode cX10_fault 28 = .ok (.ireturn, 1) := by decide +kernel
theorem dX10_feed_0 : decode cX10_feed 0 = .ok (.aload_n 0, 1) := by decide +kernel
theorem dX10_feed_1 : decode cX10_feed 1 = .ok (.getfield 10, 3) := by decide +kernel
theorem dX10_feed_4 : decode cX10_feed 4 = .ok (.getfield 59, 3) := by decide +kernel
theorem dX10_feed_7 : decode cX10_feed 7 = .ok (.bipush 20, 2) := by decide +kernel
theorem dX10_feed_9 : decode cX10_feed 9 = .ok (.iadd, 1) := by decide +kernel
theorem dX10_feed_10 : decode cX10_feed 10 = .ok (.sipush 500, 3) := by decide +kernel
theorem dX10_feed_13 : decode cX10_feed 13 = .ok (.if_icmp .le 5, 3) := by decide +kernel
theorem dX10_feed_16 : decode cX10_feed 16 = .ok (.iconst (-1), 1) := by decide +kernel
theorem dX10_feed_17 : decode cX10_feed 17 = .ok (.ireturn, 1) := by decide +kernel
theorem dX10_feed_18 : decode cX10_feed 18 = .ok (.aload_n 0, 1) := by decide +kernel
theorem dX10_feed_19 : decode cX10_feed 19 = .ok (.getfield 10, 3) := by decide +kernel
theorem dX10_feed_22 : decode cX10_feed 22 = .ok (.iload_n 1, 1) := by decide +kernel
theorem dX10_feed_23 : decode cX10_feed 23 = .ok (.invokevirtual 62, 3) := by decide +kernel
theorem dX10_feed_26 : decode cX10_feed 26 = .ok (.aload_n 0, 1) := by decide +kernel
theorem dX10_feed_27 : decode cX10_feed 27 = .ok (.getfield 10, 3) := by decide +kernel
theorem dX10_feed_30 : decode cX10_feed 30 = .ok (.iload_n 2, 1) := by decide +kernel
theorem dX10_feed_31 : decode cX10_feed 31 = .ok (.invokevirtual 62, 3) := by decide +kernel
theorem dX10_feed_34 : decode cX10_feed 34 = .ok (.aload_n 0, 1) := by decide +kernel
theorem dX10_feed_35 : decode cX10_feed 35 = .ok (.getfield 10, 3) := by decide +kernel
theorem dX10_feed_38 : decode cX10_feed 38 = .ok (.iload_n 3, 1) := by decide +kernel
theorem dX10_feed_39 : decode cX10_feed 39 = .ok (.invokevirtual 62, 3) := by decide +kernel
theorem dX10_feed_42 : decode cX10_feed 42 = .ok (.aload_n 0, 1) := by decide +kernel
theorem dX10_feed_43 : decode cX10_feed 43 = .ok (.getfield 10, 3) := by decide +kernel
theorem dX10_feed_46 : decode cX10_feed 46 = .ok (.iload 4, 2) := by decide +kernel
theorem dX10_feed_48 : decode cX10_feed 48 = .ok (.invokevirtual 62, 3) := by decide +kernel
theorem dX10_feed_51 : decode cX10_feed 51 = .ok (.aload_n 0, 1) := by decide +kernel
theorem dX10_feed_52 : decode cX10_feed 52 = .ok (.getfield 10, 3) := by decide +kernel
theorem dX10_feed_55 : decode cX10_feed 55 = .ok (.iload 5, 2) := by decide +kernel
theorem dX10_feed_57 : decode cX10_feed 57 = .ok (.invokevirtual 62, 3) := by decide +kernel
theorem dX10_feed_60 : decode cX10_feed 60 = .ok (.aload_n 0, 1) := by decide +kernel
theorem dX10_feed_61 : decode cX10_feed 61 = .ok (.getfield 10, 3) := by decide +kernel
theorem dX10_feed_64 : decode cX10_feed 64 = .ok (.getfield 59, 3) := by decide +kernel
theorem dX10_feed_67 : decode cX10_feed 67 = .ok (.ireturn, 1) := by decide +kernel
theorem dX10_gain_0 : decode cX10_gain 0 = .ok (.aload_n 0, 1) := by decide +kernel
theorem dX10_gain_1 : decode cX10_gain 1 = .ok (.getfield 31, 3) := by decide +kernel
theorem dX10_gain_4 : decode cX10_gain 4 = .ok (.iconst 0, 1) := by decide +kernel
theorem dX10_gain_5 : decode cX10_gain 5 = .ok (.invokevirtual 316, 3) := by decide +kernel
theorem dX10_gain_8 : decode cX10_gain 8 = .ok (.aload_n 0, 1) := by decide +kernel
theorem dX10_gain_9 : decode cX10_gain 9 = .ok (.getfield 31, 3) := by decide +kernel
theorem dX10_gain_12 : decode cX10_gain 12 = .ok (.iconst 1, 1) := by decide +kernel
theorem dX10_gain_13 : decode cX10_gain 13 = .ok (.invokevirtual 316, 3) := by decide +kernel
theorem dX10_gain_16 : decode cX10_gain 16 = .ok (.aload_n 0, 1) := by decide +kernel
theorem dX10_gain_17 : decode cX10_gain 17 = .ok (.aload_n 0, 1) := by decide +kernel
theorem dX10_gain_18 : decode cX10_gain 18 = .ok (.getfield 31, 3) := by decide +kernel
theorem dX10_gain_21 : decode cX10_gain 21 = .ok (.invokevirtual 319, 3) := by decide +kernel
theorem dX10_gain_24 : decode cX10_gain 24 = .ok (.invokevirtual 95, 3) := by decide +kernel
theorem dX10_gain_27 : decode cX10_gain 27 = .ok (.ireturn, 1) := by decide +kernel
theorem dX10_give_0 : decode cX10_give 0 = .ok (.aload_n 0, 1) := by decide +kernel
theorem dX10_give_1 : decode cX10_give 1 = .ok (.iconst 0, 1) := by decide +kernel
theorem dX10_give_2 : decode cX10_give 2 = .ok (.putfield 56, 3) := by decide +kernel
theorem dX10_give_5 : decode cX10_give 5 = .ok (.iload_n 1, 1) := by decide +kernel
theorem dX10_give_6 : decode cX10_give 6 = .ok (.ireturn, 1) := by decide +kernel
theorem dX10_giveReached_0 : decode cX10_giveReached 0 = .ok (.aload_n 0, 1) := by decide +kernel
theorem dX10_giveReached_1 : decode cX10_giveReached 1 = .ok (.iload_n 1, 1) := by decide +kernel
theorem dX10_giveReached_2 : decode cX10_giveReached 2 = .ok (.iconst (-1), 1) := by decide +kernel
theorem dX10_giveReached_3 : decode cX10_giveReached 3 = .ok (.if_icmp .ne 8, 3) := by decide +kernel
theorem dX10_giveReached_6 : decode cX10_giveReached 6 = .ok (.bipush 7, 2) := by decide +kernel
theorem dX10_giveReached_8 : decode cX10_giveReached 8 = .ok (.goto 4, 3) := by decide +kernel
theorem dX10_giveReached_11 : decode cX10_giveReached 11 = .ok (.iconst 0, 1) := by decide +kernel
theorem dX10_giveReached_12 : decode cX10_giveReached 12 = .ok (.putfield 56, 3) := by decide +kernel
theorem dX10_giveReached_15 : decode cX10_giveReached 15 = .ok (.iload_n 1, 1) := by decide +kernel
theorem dX10_giveReached_16 : decode cX10_giveReached 16 = .ok (.ireturn, 1) := by decide +kernel
theorem dX10_got_0 : decode cX10_got 0 = .ok (.iload_n 1, 1) := by decide +kernel
theorem dX10_got_1 : decode cX10_got 1 = .ok (.ifCond .lt 19, 3) := by decide +kernel
theorem dX10_got_4 : decode cX10_got 4 = .ok (.iload_n 1, 1) := by decide +kernel
theorem dX10_got_5 : decode cX10_got 5 = .ok (.bipush 16, 2) := by decide +kernel
theorem dX10_got_7 : decode cX10_got 7 = .ok (.if_icmp .ge 13, 3) := by decide +kernel
theorem dX10_got_10 : decode cX10_got 10 = .ok (.iload_n 2, 1) := by decide +kernel
theorem dX10_got_11 : decode cX10_got 11 = .ok (.ifCond .lt 9, 3) := by decide +kernel
theorem dX10_got_14 : decode cX10_got 14 = .ok (.iload_n 2, 1) := by decide +kernel
theorem dX10_got_15 : decode cX10_got 15 = .ok (.bipush 6, 2) := by decide +kernel
theorem dX10_got_17 : decode cX10_got 17 = .ok (.if_icmp .lt 9, 3) := by decide +kernel
theorem dX10_got_20 : decode cX10_got 20 = .ok (.aload_n 0, 1) := by decide +kernel
theorem dX10_got_21 : decode cX10_got 21 = .ok (.iconst 1, 1) := by decide +kernel
theorem dX10_got_22 : decode cX10_got 22 = .ok (.invokevirtual 66, 3) := by decide +kernel
theorem dX10_got_25 : decode cX10_got 25 = .ok (.ireturn, 1) := by decide +kernel
theorem dX10_got_26 : decode cX10_got 26 = .ok (.iload_n 1, 1) := by decide +kernel
theorem dX10_got_27 : decode cX10_got 27 = .ok (.aload_n 0, 1) := by decide +kernel
theorem dX10_got_28 : decode cX10_got 28 = .ok (.getfield 19, 3) := by decide +kernel
theorem dX10_got_31 : decode cX10_got 31 = .ok (.getfield 180, 3) := by decide +kernel
theorem dX10_got_34 : decode cX10_got 34 = .ok (.iconst 0, 1) := by decide +kernel
theorem dX10_got_35 : decode cX10_got 35 = .ok (.invokevirtual 184, 3) := by decide +kernel
theorem dX10_got_38 : decode cX10_got 38 = .ok (.if_icmp .lt 9, 3) := by decide +kernel
theorem dX10_got_41 : decode cX10_got 41 = .ok (.aload_n 0, 1) := by decide +kernel
theorem dX10_got_42 : decode cX10_got 42 = .ok (.iconst 5, 1) := by decide +kernel
theorem dX10_got_43 : decode cX10_got 43 = .ok (.invokevirtual 66, 3) := by decide +kernel
theorem dX10_got_46 : decode cX10_got 46 = .ok (.ireturn, 1) := by decide +kernel
theorem dX10_got_47 : decode cX10_got 47 = .ok (.aload_n 0, 1) := by decide +kernel
theorem dX10_got_48 : decode cX10_got 48 = .ok (.aload_n 0, 1) := by decide +kernel
theorem dX10_got_49 : decode cX10_got 49 = .ok (.getfield 19, 3) := by decide +kernel
theorem dX10_got_52 : decode cX10_got 52 = .ok (.getfield 180, 3) := by decide +kernel
theorem dX10_got_55 : decode cX10_got 55 = .ok (.iload_n 1, 1) := by decide +kernel
theorem dX10_got_56 : decode cX10_got 56 = .ok (.iload_n 2, 1) := by decide +kernel
theorem dX10_got_57 : decode cX10_got 57 = .ok (.invokevirtual 189, 3) := by decide +kernel
theorem dX10_got_60 : decode cX10_got 60 = .ok (.invokevirtual 95, 3) := by decide +kernel
theorem dX10_got_63 : decode cX10_got 63 = .ok (.ireturn, 1) := by decide +kernel
theorem dX10_healed_0 : decode cX10_healed 0 = .ok (.aload_n 0, 1) := by decide +kernel
theorem dX10_healed_1 : decode cX10_healed 1 = .ok (.aload_n 0, 1) := by decide +kernel
theorem dX10_healed_2 : decode cX10_healed 2 = .ok (.getfield 31, 3) := by decide +kernel
theorem dX10_healed_5 : decode cX10_healed 5 = .ok (.iconst 3, 1) := by decide +kernel
theorem dX10_healed_6 : decode cX10_healed 6 = .ok (.iconst (-1), 1) := by decide +kernel
theorem dX10_healed_7 : decode cX10_healed 7 = .ok (.iconst 0, 1) := by decide +kernel
theorem dX10_healed_8 : decode cX10_healed 8 = .ok (.invokevirtual 296, 3) := by decide +kernel
theorem dX10_healed_11 : decode cX10_healed 11 = .ok (.invokevirtual 300, 3) := by decide +kernel
theorem dX10_healed_14 : decode cX10_healed 14 = .ok (.ireturn, 1) := by decide +kernel
theorem dX10_heir_0 : decode cX10_heir 0 = .ok (.aload_n 0, 1) := by decide +kernel
theorem dX10_heir_1 : decode cX10_heir 1 = .ok (.getfield 19, 3) := by decide +kernel
theorem dX10_heir_4 : decode cX10_heir 4 = .ok (.getfield 86, 3) := by decide +kernel
theorem dX10_heir_7 : decode cX10_heir 7 = .ok (.invokevirtual 232, 3) := by decide +kernel
theorem dX10_heir_10 : decode cX10_heir 10 = .ok (.istore_n 1, 1) := by decide +kernel
theorem dX10_heir_11 : decode cX10_heir 11 = .ok (.iload_n 1, 1) := by decide +kernel
theorem dX10_heir_12 : decode cX10_heir 12 = .ok (.iconst (-1), 1) := by decide +kernel
theorem dX10_heir_13 : decode cX10_heir 13 = .ok (.if_icmp .ne 11, 3) := by decide +kernel
theorem dX10_heir_16 : decode cX10_heir 16 = .ok (.aload_n 0, 1) := by decide +kernel
theorem dX10_heir_17 : decode cX10_heir 17 = .ok (.iconst 5, 1) := by decide +kernel
theorem dX10_heir_18 : decode cX10_heir 18 = .ok (.invokevirtual 66, 3) := by decide +kernel
theorem dX10_heir_21 : decode cX10_heir 21 = .ok (.goto 8, 3) := by decide +kernel
theorem dX10_heir_24 : decode cX10_heir 24 = .ok (.aload_n 0, 1) := by decide +kernel
theorem dX10_heir_25 : decode cX10_heir 25 = .ok (.iload_n 1, 1) := by decide +kernel
theorem dX10_heir_26 : decode cX10_heir 26 = .ok (.invokevirtual 95, 3) := by decide +kernel
theorem dX10_heir_29 : decode cX10_heir 29 = .ok (.ireturn, 1) := by decide +kernel
theorem dX10_hops_0 : decode cX10_hops 0 = .ok (.aload_n 0, 1) := by decide +kernel
theorem dX10_hops_1 : decode cX10_hops 1 = .ok (.getfield 19, 3) := by decide +kernel
theorem dX10_hops_4 : decode cX10_hops 4 = .ok (.getfield 86, 3) := by decide +kernel
theorem dX10_hops_7 : decode cX10_hops 7 = .ok (.astore_n 3, 1) := by decide +kernel
theorem dX10_hops_8 : decode cX10_hops 8 = .ok (.aload_n 3, 1) := by decide +kernel
theorem dX10_hops_9 : decode cX10_hops 9 = .ok (.iload_n 1, 1) := by decide +kernel
theorem dX10_hops_10 : decode cX10_hops 10 = .ok (.invokevirtual 146, 3) := by decide +kernel
theorem dX10_hops_13 : decode cX10_hops 13 = .ok (.ifCond .eq 11, 3) := by decide +kernel
theorem dX10_hops_16 : decode cX10_hops 16 = .ok (.aload_n 3, 1) := by decide +kernel
theorem dX10_hops_17 : decode cX10_hops 17 = .ok (.iload_n 2, 1) := by decide +kernel
theorem dX10_hops_18 : decode cX10_hops 18 = .ok (.invokevirtual 146, 3) := by decide +kernel
theorem dX10_hops_21 : decode cX10_hops 21 = .ok (.ifCond .ne 9, 3) := by decide +kernel
theorem dX10_hops_24 : decode cX10_hops 24 = .ok (.aload_n 0, 1) := by decide +kernel
theorem dX10_hops_25 : decode cX10_hops 25 = .ok (.iconst 2, 1) := by decide +kernel
theorem dX10_hops_26 : decode cX10_hops 26 = .ok (.invokevirtual 66, 3) := by decide +kernel
theorem dX10_hops_29 : decode cX10_hops 29 = .ok (.ireturn, 1) := by decide +kernel
theorem dX10_hops_30 : decode cX10_hops 30 = .ok (.aload_n 3, 1) := by decide +kernel
theorem dX10_hops_31 : decode cX10_hops 31 = .ok (.iload_n 1, 1) := by decide +kernel
theorem dX10_hops_32 : decode cX10_hops 32 = .ok (.iload_n 2, 1) := by decide +kernel
theorem dX10_hops_33 : decode cX10_hops 33 = .ok (.invokevirtual 222, 3) := by decide +kernel
theorem dX10_hops_36 : decode cX10_hops 36 = .ok (.ifCond .eq 9, 3) := by decide +kernel
theorem dX10_hops_39 : decode cX10_hops 39 = .ok (.aload_n 0, 1) := by decide +kernel
theorem dX10_hops_40 : decode cX10_hops 40 = .ok (.iconst 3, 1) := by decide +kernel
theorem dX10_hops_41 : decode cX10_hops 41 = .ok (.invokevirtual 66, 3) := by decide +kernel
theorem dX10_hops_44 : decode cX10_hops 44 = .ok (.ireturn, 1) := by decide +kernel
theorem dX10_hops_45 : decode cX10_hops 45 = .ok (.aload_n 3, 1) := by decide +kernel
theorem dX10_hops_46 : decode cX10_hops 46 = .ok (.iload_n 2, 1) := by decide +kernel
theorem dX10_hops_47 : decode cX10_hops 47 = .ok (.invokevirtual 226, 3) := by decide +kernel
theorem dX10_hops_50 : decode cX10_hops 50 = .ok (.ifCond .ne 9, 3) := by decide +kernel
theorem dX10_hops_53 : decode cX10_hops 53 = .ok (.aload_n 0, 1) := by decide +kernel
theorem dX10_hops_54 : decode cX10_hops 54 = .ok (.iconst 5, 1) := by decide +kernel
theorem dX10_hops_55 : decode cX10_hops 55 = .ok (.invokevirtual 66, 3) := by decide +kernel
theorem dX10_hops_58 : decode cX10_hops 58 = .ok (.ireturn, 1) := by decide +kernel
theorem dX10_hops_59 : decode cX10_hops 59 = .ok (.aload_n 0, 1) := by decide +kernel
theorem dX10_hops_60 : decode cX10_hops 60 = .ok (.aload_n 3, 1) := by decide +kernel
theorem dX10_hops_61 : decode cX10_hops 61 = .ok (.iload_n 1, 1) := by decide +kernel
theorem dX10_hops_62 : decode cX10_hops 62 = .ok (.iload_n 2, 1) := by decide +kernel
theorem dX10_hops_63 : decode cX10_hops 63 = .ok (.invokevirtual 229, 3) := by decide +kernel
theorem dX10_hops_66 : decode cX10_hops 66 = .ok (.invokevirtual 95, 3) := by decide +kernel
theorem dX10_hops_69 : decode cX10_hops 69 = .ok (.ireturn, 1) := by decide +kernel
theorem dX10_load_0 : decode cX10_load 0 = .ok (.iload_n 1, 1) := by decide +kernel
theorem dX10_load_1 : decode cX10_load 1 = .ok (.ifCond .lt 14, 3) := by decide +kernel
theorem dX10_load_4 : decode cX10_load 4 = .ok (.iload_n 1, 1) := by decide +kernel
theorem dX10_load_5 : decode cX10_load 5 = .ok (.aload_n 0, 1) := by decide +kernel
theorem dX10_load_6 : decode cX10_load 6 = .ok (.getfield 10, 3) := by decide +kernel
theorem dX10_load_9 : decode cX10_load 9 = .ok (.getfield 59, 3) := by decide +kernel
theorem dX10_load_12 : decode cX10_load 12 = .ok (.if_icmp .le 9, 3) := by decide +kernel
theorem dX10_load_15 : decode cX10_load 15 = .ok (.aload_n 0, 1) := by decide +kernel
theorem dX10_load_16 : decode cX10_load 16 = .ok (.iconst 1, 1) := by decide +kernel
theorem dX10_load_17 : decode cX10_load 17 = .ok (.invokevirtual 66, 3) := by decide +kernel
theorem dX10_load_20 : decode cX10_load 20 = .ok (.ireturn, 1) := by decide +kernel
theorem dX10_load_21 : decode cX10_load 21 = .ok (.aload_n 0, 1) := by decide +kernel
theorem dX10_load_22 : decode cX10_load 22 = .ok (.getfield 40, 3) := by decide +kernel
theorem dX10_load_25 : decode cX10_load 25 = .ok (.iload_n 1, 1) := by decide +kernel
theorem dX10_load_26 : decode cX10_load 26 = .ok (.invokevirtual 70, 3) := by decide +kernel
theorem dX10_load_29 : decode cX10_load 29 = .ok (.istore_n 2, 1) := by decide +kernel
theorem dX10_load_30 : decode cX10_load 30 = .ok (.aload_n 0, 1) := by decide +kernel
theorem dX10_load_31 : decode cX10_load 31 = .ok (.getfield 10, 3) := by decide +kernel
theorem dX10_load_34 : decode cX10_load 34 = .ok (.iconst 0, 1) := by decide +kernel
theorem dX10_load_35 : decode cX10_load 35 = .ok (.putfield 59, 3) := by decide +kernel
theorem dX10_load_38 : decode cX10_load 38 = .ok (.aload_n 0, 1) := by decide +kernel
theorem dX10_load_39 : decode cX10_load 39 = .ok (.getfield 10, 3) := by decide +kernel
theorem dX10_load_42 : decode cX10_load 42 = .ok (.aload_n 0, 1) := by decide +kernel
theorem dX10_load_43 : decode cX10_load 43 = .ok (.getfield 40, 3) := by decide +kernel
theorem dX10_load_46 : decode cX10_load 46 = .ok (.getfield 74, 3) := by decide +kernel
theorem dX10_load_49 : decode cX10_load 49 = .ok (.putfield 77, 3) := by decide +kernel
theorem dX10_load_52 : decode cX10_load 52 = .ok (.aload_n 0, 1) := by decide +kernel
theorem dX10_load_53 : decode cX10_load 53 = .ok (.getfield 10, 3) := by decide +kernel
theorem dX10_load_56 : decode cX10_load 56 = .ok (.aload_n 0, 1) := by decide +kernel
theorem dX10_load_57 : decode cX10_load 57 = .ok (.getfield 40, 3) := by decide +kernel
theorem dX10_load_60 : decode cX10_load 60 = .ok (.getfield 78, 3) := by decide +kernel
theorem dX10_load_63 : decode cX10_load 63 = .ok (.putfield 81, 3) := by decide +kernel
theorem dX10_load_66 : decode cX10_load 66 = .ok (.iload_n 2, 1) := by decide +kernel
theorem dX10_load_67 : decode cX10_load 67 = .ok (.ifCond .ne 10, 3) := by decide +kernel
theorem dX10_load_70 : decode cX10_load 70 = .ok (.aload_n 0, 1) := by decide +kernel
theorem dX10_load_71 : decode cX10_load 71 = .ok (.bipush 9, 2) := by decide +kernel
theorem dX10_load_73 : decode cX10_load 73 = .ok (.invokevirtual 66, 3) := by decide +kernel
theorem dX10_load_76 : decode cX10_load 76 = .ok (.ireturn, 1) := by decide +kernel
theorem dX10_load_77 : decode cX10_load 77 = .ok (.aload_n 0, 1) := by decide +kernel
theorem dX10_load_78 : decode cX10_load 78 = .ok (.getfield 19, 3) := by decide +kernel
theorem dX10_load_81 : decode cX10_load 81 = .ok (.aload_n 0, 1) := by decide +kernel
theorem dX10_load_82 : decode cX10_load 82 = .ok (.getfield 23, 3) := by decide +kernel
theorem dX10_load_85 : decode cX10_load 85 = .ok (.invokevirtual 82, 3) := by decide +kernel
theorem dX10_load_88 : decode cX10_load 88 = .ok (.aload_n 0, 1) := by decide +kernel
theorem dX10_load_89 : decode cX10_load 89 = .ok (.aload_n 0, 1) := by decide +kernel
theorem dX10_load_90 : decode cX10_load 90 = .ok (.getfield 19, 3) := by decide +kernel
theorem dX10_load_93 : decode cX10_load 93 = .ok (.getfield 86, 3) := by decide +kernel
theorem dX10_load_96 : decode cX10_load 96 = .ok (.getfield 90, 3) := by decide +kernel
theorem dX10_load_99 : decode cX10_load 99 = .ok (.invokevirtual 95, 3) := by decide +kernel
theorem dX10_load_102 : decode cX10_load 102 = .ok (.ireturn, 1) := by decide +kernel
theorem dX10_lose_0 : decode cX10_lose 0 = .ok (.aload_n 0, 1) := by decide +kernel
theorem dX10_lose_1 : decode cX10_lose 1 = .ok (.getfield 19, 3) := by decide +kernel
theorem dX10_lose_4 : decode cX10_lose 4 = .ok (.getfield 120, 3) := by decide +kernel
theorem dX10_lose_7 : decode cX10_lose 7 = .ok (.getfield 124, 3) := by decide +kernel
theorem dX10_lose_10 : decode cX10_lose 10 = .ok (.ifCond .ne 10, 3) := by decide +kernel
theorem dX10_lose_13 : decode cX10_lose 13 = .ok (.aload_n 0, 1) := by decide +kernel
theorem dX10_lose_14 : decode cX10_lose 14 = .ok (.bipush 6, 2) := by decide +kernel
theorem dX10_lose_16 : decode cX10_lose 16 = .ok (.invokevirtual 258, 3) := by decide +kernel
theorem dX10_lose_19 : decode cX10_lose 19 = .ok (.ireturn, 1) := by decide +kernel
theorem dX10_lose_20 : decode cX10_lose 20 = .ok (.aload_n 0, 1) := by decide +kernel
theorem dX10_lose_21 : decode cX10_lose 21 = .ok (.getfield 19, 3) := by decide +kernel
theorem dX10_lose_24 : decode cX10_lose 24 = .ok (.invokevirtual 270, 3) := by decide +kernel
theorem dX10_lose_27 : decode cX10_lose 27 = .ok (.aload_n 0, 1) := by decide +kernel
theorem dX10_lose_28 : decode cX10_lose 28 = .ok (.invokevirtual 264, 3) := by decide +kernel
theorem dX10_lose_31 : decode cX10_lose 31 = .ok (.ireturn, 1) := by decide +kernel
theorem dX10_lowered_0 : decode cX10_lowered 0 = .ok (.aload_n 0, 1) := by decide +kernel
theorem dX10_lowered_1 : decode cX10_lowered 1 = .ok (.aload_n 0, 1) := by decide +kernel
theorem dX10_lowered_2 : decode cX10_lowered 2 = .ok (.getfield 31, 3) := by decide +kernel
theorem dX10_lowered_5 : decode cX10_lowered 5 = .ok (.iconst 2, 1) := by decide +kernel
theorem dX10_lowered_6 : decode cX10_lowered 6 = .ok (.iconst (-1), 1) := by decide +kernel
theorem dX10_lowered_7 : decode cX10_lowered 7 = .ok (.iconst 0, 1) := by decide +kernel
theorem dX10_lowered_8 : decode cX10_lowered 8 = .ok (.invokevirtual 296, 3) := by decide +kernel
theorem dX10_lowered_11 : decode cX10_lowered 11 = .ok (.invokevirtual 300, 3) := by decide +kernel
theorem dX10_lowered_14 : decode cX10_lowered 14 = .ok (.ireturn, 1) := by decide +kernel
theorem dX10_many_0 : decode cX10_many 0 = .ok (.aload_n 0, 1) := by decide +kernel
theorem dX10_many_1 : decode cX10_many 1 = .ok (.getfield 19, 3) := by decide +kernel
theorem dX10_many_4 : decode cX10_many 4 = .ok (.getfield 86, 3) := by decide +kernel
theorem dX10_many_7 : decode cX10_many 7 = .ok (.astore_n 2, 1) := by decide +kernel
theorem dX10_many_8 : decode cX10_many 8 = .ok (.iload_n 1, 1) := by decide +kernel
theorem dX10_many_9 : decode cX10_many 9 = .ok (.tableswitch 201 0 10 #[59, 68, 77, 86, 101, 113, 125, 157, 166, 183, 192], 59) := by decide +kernel
theorem dX10_many_68 : decode cX10_many 68 = .ok (.aload_n 0, 1) := by decide +kernel
theorem dX10_many_69 : decode cX10_many 69 = .ok (.aload_n 2, 1) := by decide +kernel
theorem dX10_many_70 : decode cX10_many 70 = .ok (.getfield 90, 3) := by decide +kernel
theorem dX10_many_73 : decode cX10_many 73 = .ok (.invokevirtual 95, 3) := by decide +kernel
theorem dX10_many_76 : decode cX10_many 76 = .ok (.ireturn, 1) := by decide +kernel
theorem dX10_many_77 : decode cX10_many 77 = .ok (.aload_n 0, 1) := by decide +kernel
theorem dX10_many_78 : decode cX10_many 78 = .ok (.aload_n 2, 1) := by decide +kernel
theorem dX10_many_79 : decode cX10_many 79 = .ok (.invokevirtual 98, 3) := by decide +kernel
theorem dX10_many_82 : decode cX10_many 82 = .ok (.invokevirtual 95, 3) := by decide +kernel
theorem dX10_many_85 : decode cX10_many 85 = .ok (.ireturn, 1) := by decide +kernel
theorem dX10_many_86 : decode cX10_many 86 = .ok (.aload_n 0, 1) := by decide +kernel
theorem dX10_many_87 : decode cX10_many 87 = .ok (.aload_n 2, 1) := by decide +kernel
theorem dX10_many_88 : decode cX10_many 88 = .ok (.getfield 102, 3) := by decide +kernel
theorem dX10_many_91 : decode cX10_many 91 = .ok (.invokevirtual 95, 3) := by decide +kernel
theorem dX10_many_94 : decode cX10_many 94 = .ok (.ireturn, 1) := by decide +kernel
theorem dX10_many_95 : decode cX10_many 95 = .ok (.aload_n 0, 1) := by decide +kernel
theorem dX10_many_96 : decode cX10_many 96 = .ok (.aload_n 0, 1) := by decide +kernel
theorem dX10_many_97 : decode cX10_many 97 = .ok (.getfield 19, 3) := by decide +kernel
theorem dX10_many_100 : decode cX10_many 100 = .ok (.getfield 105, 3) := by decide +kernel
theorem dX10_many_103 : decode cX10_many 103 = .ok (.invokevirtual 109, 3) := by decide +kernel
theorem dX10_many_106 : decode cX10_many 106 = .ok (.invokevirtual 95, 3) := by decide +kernel
theorem dX10_many_109 : decode cX10_many 109 = .ok (.ireturn, 1) := by decide +kernel
theorem dX10_many_110 : decode cX10_many 110 = .ok (.aload_n 0, 1) := by decide +kernel
theorem dX10_many_111 : decode cX10_many 111 = .ok (.aload_n 0, 1) := by decide +kernel
theorem dX10_many_112 : decode cX10_many 112 = .ok (.getfield 19, 3) := by decide +kernel
theorem dX10_many_115 : decode cX10_many 115 = .ok (.getfield 114, 3) := by decide +kernel
theorem dX10_many_118 : decode cX10_many 118 = .ok (.invokevirtual 95, 3) := by decide +kernel
theorem dX10_many_121 : decode cX10_many 121 = .ok (.ireturn, 1) := by decide +kernel
theorem dX10_many_122 : decode cX10_many 122 = .ok (.aload_n 0, 1) := by decide +kernel
theorem dX10_many_123 : decode cX10_many 123 = .ok (.aload_n 0, 1) := by decide +kernel
theorem dX10_many_124 : decode cX10_many 124 = .ok (.getfield 19, 3) := by decide +kernel
theorem dX10_many_127 : decode cX10_many 127 = .ok (.getfield 117, 3) := by decide +kernel
theorem dX10_many_130 : decode cX10_many 130 = .ok (.invokevirtual 95, 3) := by decide +kernel
theorem dX10_many_133 : decode cX10_many 133 = .ok (.ireturn, 1) := by decide +kernel
theorem dX10_many_134 : decode cX10_many 134 = .ok (.aload_n 0, 1) := by decide +kernel
theorem dX10_many_135 : decode cX10_many 135 = .ok (.aload_n 0, 1) := by decide +kernel
theorem dX10_many_136 : decode cX10_many 136 = .ok (.getfield 19, 3) := by decide +kernel
theorem dX10_many_139 : decode cX10_many 139 = .ok (.getfield 120, 3) := by decide +kernel
theorem dX10_many_142 : decode cX10_many 142 = .ok (.getfield 124, 3) := by decide +kernel
theorem dX10_many_145 : decode cX10_many 145 = .ok (.ifCond .ne 16, 3) := by decide +kernel
theorem dX10_many_148 : decode cX10_many 148 = .ok (.aload_n 0, 1) := by decide +kernel
theorem dX10_many_149 : decode cX10_many 149 = .ok (.getfield 19, 3) := by decide +kernel
theorem dX10_many_152 : decode cX10_many 152 = .ok (.getfield 129, 3) := by decide +kernel
theorem dX10_many_155 : decode cX10_many 155 = .ok (.getfield 133, 3) := by decide +kernel
theorem dX10_many_158 : decode cX10_many 158 = .ok (.goto 4, 3) := by decide +kernel
theorem dX10_many_161 : decode cX10_many 161 = .ok (.iconst (-1), 1) := by decide +kernel
theorem dX10_many_162 : decode cX10_many 162 = .ok (.invokevirtual 95, 3) := by decide +kernel
theorem dX10_many_165 : decode cX10_many 165 = .ok (.ireturn, 1) := by decide +kernel
theorem dX10_many_166 : decode cX10_many 166 = .ok (.aload_n 0, 1) := by decide +kernel
theorem dX10_many_167 : decode cX10_many 167 = .ok (.aload_n 0, 1) := by decide +kernel
theorem dX10_many_168 : decode cX10_many 168 = .ok (.getfield 52, 3) := by decide +kernel
theorem dX10_many_171 : decode cX10_many 171 = .ok (.invokevirtual 95, 3) := by decide +kernel
theorem dX10_many_174 : decode cX10_many 174 = .ok (.ireturn, 1) := by decide +kernel
theorem dX10_many_175 : decode cX10_many 175 = .ok (.aload_n 0, 1) := by decide +kernel
theorem dX10_many_176 : decode cX10_many 176 = .ok (.aload_n 2, 1) := by decide +kernel
theorem dX10_many_177 : decode cX10_many 177 = .ok (.invokevirtual 136, 3) := by decide +kernel
theorem dX10_many_180 : decode cX10_many 180 = .ok (.ifCond .eq 7, 3) := by decide +kernel
theorem dX10_many_183 : decode cX10_many 183 = .ok (.iconst 1, 1) := by decide +kernel
theorem dX10_many_184 : decode cX10_many 184 = .ok (.goto 4, 3) := by decide +kernel
theorem dX10_many_187 : decode cX10_many 187 = .ok (.iconst 0, 1) := by decide +kernel
theorem dX10_many_188 : decode cX10_many 188 = .ok (.invokevirtual 95, 3) := by decide +kernel
theorem dX10_many_191 : decode cX10_many 191 = .ok (.ireturn, 1) := by decide +kernel
theorem dX10_many_192 : decode cX10_many 192 = .ok (.aload_n 0, 1) := by decide +kernel
theorem dX10_many_193 : decode cX10_many 193 = .ok (.aload_n 2, 1) := by decide +kernel
theorem dX10_many_194 : decode cX10_many 194 = .ok (.getfield 140, 3) := by decide +kernel
theorem dX10_many_197 : decode cX10_many 197 = .ok (.invokevirtual 95, 3) := by decide +kernel
theorem dX10_many_200 : decode cX10_many 200 = .ok (.ireturn, 1) := by decide +kernel
theorem dX10_many_201 : decode cX10_many 201 = .ok (.aload_n 0, 1) := by decide +kernel
theorem dX10_many_202 : decode cX10_many 202 = .ok (.aload_n 2, 1) := by decide +kernel
theorem dX10_many_203 : decode cX10_many 203 = .ok (.getfield 143, 3) := by decide +kernel
theorem dX10_many_206 : decode cX10_many 206 = .ok (.invokevirtual 95, 3) := by decide +kernel
theorem dX10_many_209 : decode cX10_many 209 = .ok (.ireturn, 1) := by decide +kernel
theorem dX10_many_210 : decode cX10_many 210 = .ok (.aload_n 0, 1) := by decide +kernel
theorem dX10_many_211 : decode cX10_many 211 = .ok (.iconst 1, 1) := by decide +kernel
theorem dX10_many_212 : decode cX10_many 212 = .ok (.invokevirtual 66, 3) := by decide +kernel
theorem dX10_many_215 : decode cX10_many 215 = .ok (.ireturn, 1) := by decide +kernel
theorem dX10_mark_0 : decode cX10_mark 0 = .ok (.aload_n 0, 1) := by decide +kernel
theorem dX10_mark_1 : decode cX10_mark 1 = .ok (.getfield 52, 3) := by decide +kernel
theorem dX10_mark_4 : decode cX10_mark 4 = .ok (.ifCond .lt 11, 3) := by decide +kernel
theorem dX10_mark_7 : decode cX10_mark 7 = .ok (.aload_n 0, 1) := by decide +kernel
theorem dX10_mark_8 : decode cX10_mark 8 = .ok (.getfield 52, 3) := by decide +kernel
theorem dX10_mark_11 : decode cX10_mark 11 = .ok (.iconst 4, 1) := by decide +kernel
theorem dX10_mark_12 : decode cX10_mark 12 = .ok (.if_icmp .lt 9, 3) := by decide +kernel
theorem dX10_mark_15 : decode cX10_mark 15 = .ok (.aload_n 0, 1) := by decide +kernel
theorem dX10_mark_16 : decode cX10_mark 16 = .ok (.iconst 3, 1) := by decide +kernel
theorem dX10_mark_17 : decode cX10_mark 17 = .ok (.invokevirtual 66, 3) := by decide +kernel
theorem dX10_mark_20 : decode cX10_mark 20 = .ok (.ireturn, 1) := by decide +kernel
theorem dX10_mark_21 : decode cX10_mark 21 = .ok (.aload_n 0, 1) := by decide +kernel
theorem dX10_mark_22 : decode cX10_mark 22 = .ok (.getfield 44, 3) := by decide +kernel
theorem dX10_mark_25 : decode cX10_mark 25 = .ok (.aload_n 0, 1) := by decide +kernel
theorem dX10_mark_26 : decode cX10_mark 26 = .ok (.getfield 52, 3) := by decide +kernel
theorem dX10_mark_29 : decode cX10_mark 29 = .ok (.aaload, 1) := by decide +kernel
theorem dX10_mark_30 : decode cX10_mark 30 = .ok (.aload_n 0, 1) := by decide +kernel
theorem dX10_mark_31 : decode cX10_mark 31 = .ok (.getfield 19, 3) := by decide +kernel
theorem dX10_mark_34 : decode cX10_mark 34 = .ok (.invokevirtual 82, 3) := by decide +kernel
theorem dX10_mark_37 : decode cX10_mark 37 = .ok (.aload_n 0, 1) := by decide +kernel
theorem dX10_mark_38 : decode cX10_mark 38 = .ok (.getfield 48, 3) := by decide +kernel
theorem dX10_mark_41 : decode cX10_mark 41 = .ok (.aload_n 0, 1) := by decide +kernel
theorem dX10_mark_42 : decode cX10_mark 42 = .ok (.getfield 52, 3) := by decide +kernel
theorem dX10_mark_45 : decode cX10_mark 45 = .ok (.aaload, 1) := by decide +kernel
theorem dX10_mark_46 : decode cX10_mark 46 = .ok (.aload_n 0, 1) := by decide +kernel
theorem dX10_mark_47 : decode cX10_mark 47 = .ok (.getfield 10, 3) := by decide +kernel
theorem dX10_mark_50 : decode cX10_mark 50 = .ok (.invokevirtual 293, 3) := by decide +kernel
theorem dX10_mark_53 : decode cX10_mark 53 = .ok (.aload_n 0, 1) := by decide +kernel
theorem dX10_mark_54 : decode cX10_mark 54 = .ok (.dup, 1) := by decide +kernel
theorem dX10_mark_55 : decode cX10_mark 55 = .ok (.getfield 52, 3) := by decide +kernel
theorem dX10_mark_58 : decode cX10_mark 58 = .ok (.iconst 1, 1) := by decide +kernel
theorem dX10_mark_59 : decode cX10_mark 59 = .ok (.iadd, 1) := by decide +kernel
theorem dX10_mark_60 : decode cX10_mark 60 = .ok (.putfield 52, 3) := by decide +kernel
theorem dX10_mark_63 : decode cX10_mark 63 = .ok (.aload_n 0, 1) := by decide +kernel
theorem dX10_mark_64 : decode cX10_mark 64 = .ok (.aload_n 0, 1) := by decide +kernel
theorem dX10_mark_65 : decode cX10_mark 65 = .ok (.getfield 52, 3) := by decide +kernel
theorem dX10_mark_68 : decode cX10_mark 68 = .ok (.invokevirtual 95, 3) := by decide +kernel
theorem dX10_mark_71 : decode cX10_mark 71 = .ok (.ireturn, 1) := by decide +kernel
theorem dX10_mend_0 : decode cX10_mend 0 = .ok (.aload_n 0, 1) := by decide +kernel
theorem dX10_mend_1 : decode cX10_mend 1 = .ok (.getfield 19, 3) := by decide +kernel
theorem dX10_mend_4 : decode cX10_mend 4 = .ok (.getfield 86, 3) := by decide +kernel
theorem dX10_mend_7 : decode cX10_mend 7 = .ok (.getfield 140, 3) := by decide +kernel
theorem dX10_mend_10 : decode cX10_mend 10 = .ok (.iconst (-1), 1) := by decide +kernel
theorem dX10_mend_11 : decode cX10_mend 11 = .ok (.if_icmp .ne 9, 3) := by decide +kernel
theorem dX10_mend_14 : decode cX10_mend 14 = .ok (.aload_n 0, 1) := by decide +kernel
theorem dX10_mend_15 : decode cX10_mend 15 = .ok (.iconst 5, 1) := by decide +kernel
theorem dX10_mend_16 : decode cX10_mend 16 = .ok (.invokevirtual 258, 3) := by decide +kernel
theorem dX10_mend_19 : decode cX10_mend 19 = .ok (.ireturn, 1) := by decide +kernel
theorem dX10_mend_20 : decode cX10_mend 20 = .ok (.aload_n 0, 1) := by decide +kernel
theorem dX10_mend_21 : decode cX10_mend 21 = .ok (.getfield 19, 3) := by decide +kernel
theorem dX10_mend_24 : decode cX10_mend 24 = .ok (.getfield 86, 3) := by decide +kernel
theorem dX10_mend_27 : decode cX10_mend 27 = .ok (.iconst (-1), 1) := by decide +kernel
theorem dX10_mend_28 : decode cX10_mend 28 = .ok (.iconst (-1), 1) := by decide +kernel
theorem dX10_mend_29 : decode cX10_mend 29 = .ok (.invokevirtual 273, 3) := by decide +kernel
theorem dX10_mend_32 : decode cX10_mend 32 = .ok (.aload_n 0, 1) := by decide +kernel
theorem dX10_mend_33 : decode cX10_mend 33 = .ok (.getfield 19, 3) := by decide +kernel
theorem dX10_mend_36 : decode cX10_mend 36 = .ok (.invokevirtual 239, 3) := by decide +kernel
theorem dX10_mend_39 : decode cX10_mend 39 = .ok (.aload_n 0, 1) := by decide +kernel
theorem dX10_mend_40 : decode cX10_mend 40 = .ok (.invokevirtual 264, 3) := by decide +kernel
theorem dX10_mend_43 : decode cX10_mend 43 = .ok (.ireturn, 1) := by decide +kernel
theorem dX10_monitor_0 : decode cX10_monitor 0 = .ok (.aload_n 0, 1) := by decide +kernel
theorem dX10_monitor_1 : decode cX10_monitor 1 = .ok (.getfield 19, 3) := by decide +kernel
theorem dX10_monitor_4 : decode cX10_monitor 4 = .ok (.getfield 86, 3) := by decide +kernel
theorem dX10_monitor_7 : decode cX10_monitor 7 = .ok (.iload_n 1, 1) := by decide +kernel
theorem dX10_monitor_8 : decode cX10_monitor 8 = .ok (.invokevirtual 146, 3) := by decide +kernel
theorem dX10_monitor_11 : decode cX10_monitor 11 = .ok (.ifCond .ne 9, 3) := by decide +kernel
theorem dX10_monitor_14 : decode cX10_monitor 14 = .ok (.aload_n 0, 1) := by decide +kernel
theorem dX10_monitor_15 : decode cX10_monitor 15 = .ok (.iconst 2, 1) := by decide +kernel
theorem dX10_monitor_16 : decode cX10_monitor 16 = .ok (.invokevirtual 258, 3) := by decide +kernel
theorem dX10_monitor_19 : decode cX10_monitor 19 = .ok (.ireturn, 1) := by decide +kernel
theorem dX10_monitor_20 : decode cX10_monitor 20 = .ok (.aload_n 0, 1) := by decide +kernel
theorem dX10_monitor_21 : decode cX10_monitor 21 = .ok (.getfield 19, 3) := by decide +kernel
theorem dX10_monitor_24 : decode cX10_monitor 24 = .ok (.getfield 86, 3) := by decide +kernel
theorem dX10_monitor_27 : decode cX10_monitor 27 = .ok (.getfield 102, 3) := by decide +kernel
theorem dX10_monitor_30 : decode cX10_monitor 30 = .ok (.iload_n 1, 1) := by decide +kernel
theorem dX10_monitor_31 : decode cX10_monitor 31 = .ok (.if_icmp .ne 9, 3) := by decide +kernel
theorem dX10_monitor_34 : decode cX10_monitor 34 = .ok (.aload_n 0, 1) := by decide +kernel
theorem dX10_monitor_35 : decode cX10_monitor 35 = .ok (.iconst 4, 1) := by decide +kernel
theorem dX10_monitor_36 : decode cX10_monitor 36 = .ok (.invokevirtual 258, 3) := by decide +kernel
theorem dX10_monitor_39 : decode cX10_monitor 39 = .ok (.ireturn, 1) := by decide +kernel
theorem dX10_monitor_40 : decode cX10_monitor 40 = .ok (.aload_n 0, 1) := by decide +kernel
theorem dX10_monitor_41 : decode cX10_monitor 41 = .ok (.getfield 19, 3) := by decide +kernel
theorem dX10_monitor_44 : decode cX10_monitor 44 = .ok (.getfield 86, 3) := by decide +kernel
theorem dX10_monitor_47 : decode cX10_monitor 47 = .ok (.iload_n 1, 1) := by decide +kernel
theorem dX10_monitor_48 : decode cX10_monitor 48 = .ok (.putfield 102, 3) := by decide +kernel
theorem dX10_monitor_51 : decode cX10_monitor 51 = .ok (.aload_n 0, 1) := by decide +kernel
theorem dX10_monitor_52 : decode cX10_monitor 52 = .ok (.invokevirtual 264, 3) := by decide +kernel
theorem dX10_monitor_55 : decode cX10_monitor 55 = .ok (.ireturn, 1) := by decide +kernel
theorem dX10_next_0 : decode cX10_next 0 = .ok (.iload_n 1, 1) := by decide +kernel
theorem dX10_next_1 : decode cX10_next 1 = .ok (.ifCond .ge 9, 3) := by decide +kernel
theorem dX10_next_4 : decode cX10_next 4 = .ok (.aload_n 0, 1) := by decide +kernel
theorem dX10_next_5 : decode cX10_next 5 = .ok (.iconst 1, 1) := by decide +kernel
theorem dX10_next_6 : decode cX10_next 6 = .ok (.invokevirtual 66, 3) := by decide +kernel
theorem dX10_next_9 : decode cX10_next 9 = .ok (.ireturn, 1) := by decide +kernel
theorem dX10_next_10 : decode cX10_next 10 = .ok (.aload_n 0, 1) := by decide +kernel
theorem dX10_next_11 : decode cX10_next 11 = .ok (.aload_n 0, 1) := by decide +kernel
theorem dX10_next_12 : decode cX10_next 12 = .ok (.getfield 31, 3) := by decide +kernel
theorem dX10_next_15 : decode cX10_next 15 = .ok (.iload_n 1, 1) := by decide +kernel
theorem dX10_next_16 : decode cX10_next 16 = .ok (.iload_n 2, 1) := by decide +kernel
theorem dX10_next_17 : decode cX10_next 17 = .ok (.invokevirtual 306, 3) := by decide +kernel
theorem dX10_next_20 : decode cX10_next 20 = .ok (.invokevirtual 300, 3) := by decide +kernel
theorem dX10_next_23 : decode cX10_next 23 = .ok (.ireturn, 1) := by decide +kernel
theorem dX10_notice_0 : decode cX10_notice 0 = .ok (.aload_n 0, 1) := by decide +kernel
theorem dX10_notice_1 : decode cX10_notice 1 = .ok (.getfield 19, 3) := by decide +kernel
theorem dX10_notice_4 : decode cX10_notice 4 = .ok (.getfield 86, 3) := by decide +kernel
theorem dX10_notice_7 : decode cX10_notice 7 = .ok (.invokevirtual 136, 3) := by decide +kernel
theorem dX10_notice_10 : decode cX10_notice 10 = .ok (.ifCond .eq 9, 3) := by decide +kernel
theorem dX10_notice_13 : decode cX10_notice 13 = .ok (.aload_n 0, 1) := by decide +kernel
theorem dX10_notice_14 : decode cX10_notice 14 = .ok (.iconst 3, 1) := by decide +kernel
theorem dX10_notice_15 : decode cX10_notice 15 = .ok (.invokevirtual 66, 3) := by decide +kernel
theorem dX10_notice_18 : decode cX10_notice 18 = .ok (.ireturn, 1) := by decide +kernel
theorem dX10_notice_19 : decode cX10_notice 19 = .ok (.aload_n 0, 1) := by decide +kernel
theorem dX10_notice_20 : decode cX10_notice 20 = .ok (.getfield 19, 3) := by decide +kernel
theorem dX10_notice_23 : decode cX10_notice 23 = .ok (.getfield 86, 3) := by decide +kernel
theorem dX10_notice_26 : decode cX10_notice 26 = .ok (.invokevirtual 284, 3) := by decide +kernel
theorem dX10_notice_29 : decode cX10_notice 29 = .ok (.ifCond .ne 9, 3) := by decide +kernel
theorem dX10_notice_32 : decode cX10_notice 32 = .ok (.aload_n 0, 1) := by decide +kernel
theorem dX10_notice_33 : decode cX10_notice 33 = .ok (.iconst 5, 1) := by decide +kernel
theorem dX10_notice_34 : decode cX10_notice 34 = .ok (.invokevirtual 66, 3) := by decide +kernel
theorem dX10_notice_37 : decode cX10_notice 37 = .ok (.ireturn, 1) := by decide +kernel
theorem dX10_notice_38 : decode cX10_notice 38 = .ok (.aload_n 0, 1) := by decide +kernel
theorem dX10_notice_39 : decode cX10_notice 39 = .ok (.getfield 19, 3) := by decide +kernel
theorem dX10_notice_42 : decode cX10_notice 42 = .ok (.getfield 120, 3) := by decide +kernel
theorem dX10_notice_45 : decode cX10_notice 45 = .ok (.getfield 124, 3) := by decide +kernel
theorem dX10_notice_48 : decode cX10_notice 48 = .ok (.iconst 1, 1) := by decide +kernel
theorem dX10_notice_49 : decode cX10_notice 49 = .ok (.if_icmp .eq 10, 3) := by decide +kernel
theorem dX10_notice_52 : decode cX10_notice 52 = .ok (.aload_n 0, 1) := by decide +kernel
theorem dX10_notice_53 : decode cX10_notice 53 = .ok (.bipush 6, 2) := by decide +kernel
theorem dX10_notice_55 : decode cX10_notice 55 = .ok (.invokevirtual 66, 3) := by decide +kernel
theorem dX10_notice_58 : decode cX10_notice 58 = .ok (.ireturn, 1) := by decide +kernel
theorem dX10_notice_59 : decode cX10_notice 59 = .ok (.aload_n 0, 1) := by decide +kernel
theorem dX10_notice_60 : decode cX10_notice 60 = .ok (.aload_n 0, 1) := by decide +kernel
theorem dX10_notice_61 : decode cX10_notice 61 = .ok (.getfield 19, 3) := by decide +kernel
theorem dX10_notice_64 : decode cX10_notice 64 = .ok (.getfield 86, 3) := by decide +kernel
theorem dX10_notice_67 : decode cX10_notice 67 = .ok (.invokevirtual 287, 3) := by decide +kernel
theorem dX10_notice_70 : decode cX10_notice 70 = .ok (.invokevirtual 95, 3) := by decide +kernel
theorem dX10_notice_73 : decode cX10_notice 73 = .ok (.ireturn, 1) := by decide +kernel
theorem dX10_off_0 : decode cX10_off 0 = .ok (.aload_n 0, 1) := by decide +kernel
theorem dX10_off_1 : decode cX10_off 1 = .ok (.getfield 19, 3) := by decide +kernel
theorem dX10_off_4 : decode cX10_off 4 = .ok (.getfield 86, 3) := by decide +kernel
theorem dX10_off_7 : decode cX10_off 7 = .ok (.iload_n 1, 1) := by decide +kernel
theorem dX10_off_8 : decode cX10_off 8 = .ok (.invokevirtual 146, 3) := by decide +kernel
theorem dX10_off_11 : decode cX10_off 11 = .ok (.ifCond .ne 9, 3) := by decide +kernel
theorem dX10_off_14 : decode cX10_off 14 = .ok (.aload_n 0, 1) := by decide +kernel
theorem dX10_off_15 : decode cX10_off 15 = .ok (.iconst 2, 1) := by decide +kernel
theorem dX10_off_16 : decode cX10_off 16 = .ok (.invokevirtual 258, 3) := by decide +kernel
theorem dX10_off_19 : decode cX10_off 19 = .ok (.ireturn, 1) := by decide +kernel
theorem dX10_off_20 : decode cX10_off 20 = .ok (.aload_n 0, 1) := by decide +kernel
theorem dX10_off_21 : decode cX10_off 21 = .ok (.getfield 19, 3) := by decide +kernel
theorem dX10_off_24 : decode cX10_off 24 = .ok (.getfield 86, 3) := by decide +kernel
theorem dX10_off_27 : decode cX10_off 27 = .ok (.iload_n 1, 1) := by decide +kernel
theorem dX10_off_28 : decode cX10_off 28 = .ok (.invokevirtual 226, 3) := by decide +kernel
theorem dX10_off_31 : decode cX10_off 31 = .ok (.ifCond .ne 9, 3) := by decide +kernel
theorem dX10_off_34 : decode cX10_off 34 = .ok (.aload_n 0, 1) := by decide +kernel
theorem dX10_off_35 : decode cX10_off 35 = .ok (.iconst 4, 1) := by decide +kernel
theorem dX10_off_36 : decode cX10_off 36 = .ok (.invokevirtual 258, 3) := by decide +kernel
theorem dX10_off_39 : decode cX10_off 39 = .ok (.ireturn, 1) := by decide +kernel
theorem dX10_off_40 : decode cX10_off 40 = .ok (.aload_n 0, 1) := by decide +kernel
theorem dX10_off_41 : decode cX10_off 41 = .ok (.getfield 19, 3) := by decide +kernel
theorem dX10_off_44 : decode cX10_off 44 = .ok (.iload_n 1, 1) := by decide +kernel
theorem dX10_off_45 : decode cX10_off 45 = .ok (.invokevirtual 261, 3) := by decide +kernel
theorem dX10_off_48 : decode cX10_off 48 = .ok (.aload_n 0, 1) := by decide +kernel
theorem dX10_off_49 : decode cX10_off 49 = .ok (.getfield 19, 3) := by decide +kernel
theorem dX10_off_52 : decode cX10_off 52 = .ok (.invokevirtual 239, 3) := by decide +kernel
theorem dX10_off_55 : decode cX10_off 55 = .ok (.aload_n 0, 1) := by decide +kernel
theorem dX10_off_56 : decode cX10_off 56 = .ok (.invokevirtual 264, 3) := by decide +kernel
theorem dX10_off_59 : decode cX10_off 59 = .ok (.ireturn, 1) := by decide +kernel
theorem dX10_on_0 : decode cX10_on 0 = .ok (.aload_n 0, 1) := by decide +kernel
theorem dX10_on_1 : decode cX10_on 1 = .ok (.getfield 19, 3) := by decide +kernel
theorem dX10_on_4 : decode cX10_on 4 = .ok (.getfield 86, 3) := by decide +kernel
theorem dX10_on_7 : decode cX10_on 7 = .ok (.iload_n 1, 1) := by decide +kernel
theorem dX10_on_8 : decode cX10_on 8 = .ok (.invokevirtual 146, 3) := by decide +kernel
theorem dX10_on_11 : decode cX10_on 11 = .ok (.ifCond .ne 9, 3) := by decide +kernel
theorem dX10_on_14 : decode cX10_on 14 = .ok (.aload_n 0, 1) := by decide +kernel
theorem dX10_on_15 : decode cX10_on 15 = .ok (.iconst 2, 1) := by decide +kernel
theorem dX10_on_16 : decode cX10_on 16 = .ok (.invokevirtual 258, 3) := by decide +kernel
theorem dX10_on_19 : decode cX10_on 19 = .ok (.ireturn, 1) := by decide +kernel
theorem dX10_on_20 : decode cX10_on 20 = .ok (.aload_n 0, 1) := by decide +kernel
theorem dX10_on_21 : decode cX10_on 21 = .ok (.getfield 19, 3) := by decide +kernel
theorem dX10_on_24 : decode cX10_on 24 = .ok (.getfield 86, 3) := by decide +kernel
theorem dX10_on_27 : decode cX10_on 27 = .ok (.iload_n 1, 1) := by decide +kernel
theorem dX10_on_28 : decode cX10_on 28 = .ok (.invokevirtual 226, 3) := by decide +kernel
theorem dX10_on_31 : decode cX10_on 31 = .ok (.ifCond .eq 9, 3) := by decide +kernel
theorem dX10_on_34 : decode cX10_on 34 = .ok (.aload_n 0, 1) := by decide +kernel
theorem dX10_on_35 : decode cX10_on 35 = .ok (.iconst 4, 1) := by decide +kernel
theorem dX10_on_36 : decode cX10_on 36 = .ok (.invokevirtual 258, 3) := by decide +kernel
theorem dX10_on_39 : decode cX10_on 39 = .ok (.ireturn, 1) := by decide +kernel
theorem dX10_on_40 : decode cX10_on 40 = .ok (.aload_n 0, 1) := by decide +kernel
theorem dX10_on_41 : decode cX10_on 41 = .ok (.getfield 19, 3) := by decide +kernel
theorem dX10_on_44 : decode cX10_on 44 = .ok (.getfield 86, 3) := by decide +kernel
theorem dX10_on_47 : decode cX10_on 47 = .ok (.iload_n 1, 1) := by decide +kernel
theorem dX10_on_48 : decode cX10_on 48 = .ok (.invokevirtual 267, 3) := by decide +kernel
theorem dX10_on_51 : decode cX10_on 51 = .ok (.aload_n 0, 1) := by decide +kernel
theorem dX10_on_52 : decode cX10_on 52 = .ok (.getfield 19, 3) := by decide +kernel
theorem dX10_on_55 : decode cX10_on 55 = .ok (.invokevirtual 239, 3) := by decide +kernel
theorem dX10_on_58 : decode cX10_on 58 = .ok (.aload_n 0, 1) := by decide +kernel
theorem dX10_on_59 : decode cX10_on 59 = .ok (.invokevirtual 264, 3) := by decide +kernel
theorem dX10_on_62 : decode cX10_on 62 = .ok (.ireturn, 1) := by decide +kernel
theorem dX10_peak_0 : decode cX10_peak 0 = .ok (.aload_n 0, 1) := by decide +kernel
theorem dX10_peak_1 : decode cX10_peak 1 = .ok (.aload_n 0, 1) := by decide +kernel
theorem dX10_peak_2 : decode cX10_peak 2 = .ok (.getfield 31, 3) := by decide +kernel
theorem dX10_peak_5 : decode cX10_peak 5 = .ok (.invokevirtual 310, 3) := by decide +kernel
theorem dX10_peak_8 : decode cX10_peak 8 = .ok (.invokevirtual 300, 3) := by decide +kernel
theorem dX10_peak_11 : decode cX10_peak 11 = .ok (.ireturn, 1) := by decide +kernel
theorem dX10_purged_0 : decode cX10_purged 0 = .ok (.aload_n 0, 1) := by decide +kernel
theorem dX10_purged_1 : decode cX10_purged 1 = .ok (.aload_n 0, 1) := by decide +kernel
theorem dX10_purged_2 : decode cX10_purged 2 = .ok (.getfield 31, 3) := by decide +kernel
theorem dX10_purged_5 : decode cX10_purged 5 = .ok (.iconst 4, 1) := by decide +kernel
theorem dX10_purged_6 : decode cX10_purged 6 = .ok (.iconst (-1), 1) := by decide +kernel
theorem dX10_purged_7 : decode cX10_purged 7 = .ok (.iconst 0, 1) := by decide +kernel
theorem dX10_purged_8 : decode cX10_purged 8 = .ok (.invokevirtual 296, 3) := by decide +kernel
theorem dX10_purged_11 : decode cX10_purged 11 = .ok (.invokevirtual 300, 3) := by decide +kernel
theorem dX10_purged_14 : decode cX10_purged 14 = .ok (.ireturn, 1) := by decide +kernel
theorem dX10_quiet_0 : decode cX10_quiet 0 = .ok (.aload_n 0, 1) := by decide +kernel
theorem dX10_quiet_1 : decode cX10_quiet 1 = .ok (.aload_n 0, 1) := by decide +kernel
theorem dX10_quiet_2 : decode cX10_quiet 2 = .ok (.getfield 31, 3) := by decide +kernel
theorem dX10_quiet_5 : decode cX10_quiet 5 = .ok (.iconst 0, 1) := by decide +kernel
theorem dX10_quiet_6 : decode cX10_quiet 6 = .ok (.iconst (-1), 1) := by decide +kernel
theorem dX10_quiet_7 : decode cX10_quiet 7 = .ok (.iload_n 1, 1) := by decide +kernel
theorem dX10_quiet_8 : decode cX10_quiet 8 = .ok (.invokevirtual 296, 3) := by decide +kernel
theorem dX10_quiet_11 : decode cX10_quiet 11 = .ok (.invokevirtual 300, 3) := by decide +kernel
theorem dX10_quiet_14 : decode cX10_quiet 14 = .ok (.ireturn, 1) := by decide +kernel
theorem dX10_raise_0 : decode cX10_raise 0 = .ok (.iload_n 2, 1) := by decide +kernel
theorem dX10_raise_1 : decode cX10_raise 1 = .ok (.ifCond .lt 12, 3) := by decide +kernel
theorem dX10_raise_4 : decode cX10_raise 4 = .ok (.iload_n 3, 1) := by decide +kernel
theorem dX10_raise_5 : decode cX10_raise 5 = .ok (.ifCond .lt 8, 3) := by decide +kernel
theorem dX10_raise_8 : decode cX10_raise 8 = .ok (.iload_n 3, 1) := by decide +kernel
theorem dX10_raise_9 : decode cX10_raise 9 = .ok (.iconst 1, 1) := by decide +kernel
theorem dX10_raise_10 : decode cX10_raise 10 = .ok (.if_icmp .le 9, 3) := by decide +kernel
theorem dX10_raise_13 : decode cX10_raise 13 = .ok (.aload_n 0, 1) := by decide +kernel
theorem dX10_raise_14 : decode cX10_raise 14 = .ok (.iconst 1, 1) := by decide +kernel
theorem dX10_raise_15 : decode cX10_raise 15 = .ok (.invokevirtual 66, 3) := by decide +kernel
theorem dX10_raise_18 : decode cX10_raise 18 = .ok (.ireturn, 1) := by decide +kernel
theorem dX10_raise_19 : decode cX10_raise 19 = .ok (.aload_n 0, 1) := by decide +kernel
theorem dX10_raise_20 : decode cX10_raise 20 = .ok (.getfield 19, 3) := by decide +kernel
theorem dX10_raise_23 : decode cX10_raise 23 = .ok (.getfield 86, 3) := by decide +kernel
theorem dX10_raise_26 : decode cX10_raise 26 = .ok (.iload_n 1, 1) := by decide +kernel
theorem dX10_raise_27 : decode cX10_raise 27 = .ok (.invokevirtual 146, 3) := by decide +kernel
theorem dX10_raise_30 : decode cX10_raise 30 = .ok (.ifCond .ne 9, 3) := by decide +kernel
theorem dX10_raise_33 : decode cX10_raise 33 = .ok (.aload_n 0, 1) := by decide +kernel
theorem dX10_raise_34 : decode cX10_raise 34 = .ok (.iconst 2, 1) := by decide +kernel
theorem dX10_raise_35 : decode cX10_raise 35 = .ok (.invokevirtual 66, 3) := by decide +kernel
theorem dX10_raise_38 : decode cX10_raise 38 = .ok (.ireturn, 1) := by decide +kernel
theorem dX10_raise_39 : decode cX10_raise 39 = .ok (.iload_n 2, 1) := by decide +kernel
theorem dX10_raise_40 : decode cX10_raise 40 = .ok (.aload_n 0, 1) := by decide +kernel
theorem dX10_raise_41 : decode cX10_raise 41 = .ok (.getfield 19, 3) := by decide +kernel
theorem dX10_raise_44 : decode cX10_raise 44 = .ok (.getfield 192, 3) := by decide +kernel
theorem dX10_raise_47 : decode cX10_raise 47 = .ok (.iload_n 1, 1) := by decide +kernel
theorem dX10_raise_48 : decode cX10_raise 48 = .ok (.invokevirtual 196, 3) := by decide +kernel
theorem dX10_raise_51 : decode cX10_raise 51 = .ok (.if_icmp .lt 9, 3) := by decide +kernel
theorem dX10_raise_54 : decode cX10_raise 54 = .ok (.aload_n 0, 1) := by decide +kernel
theorem dX10_raise_55 : decode cX10_raise 55 = .ok (.iconst 5, 1) := by decide +kernel
theorem dX10_raise_56 : decode cX10_raise 56 = .ok (.invokevirtual 66, 3) := by decide +kernel
theorem dX10_raise_59 : decode cX10_raise 59 = .ok (.ireturn, 1) := by decide +kernel
theorem dX10_raise_60 : decode cX10_raise 60 = .ok (.aload_n 0, 1) := by decide +kernel
theorem dX10_raise_61 : decode cX10_raise 61 = .ok (.iload_n 3, 1) := by decide +kernel
theorem dX10_raise_62 : decode cX10_raise 62 = .ok (.ifCond .ne 18, 3) := by decide +kernel
theorem dX10_raise_65 : decode cX10_raise 65 = .ok (.aload_n 0, 1) := by decide +kernel
theorem dX10_raise_66 : decode cX10_raise 66 = .ok (.getfield 19, 3) := by decide +kernel
theorem dX10_raise_69 : decode cX10_raise 69 = .ok (.getfield 192, 3) := by decide +kernel
theorem dX10_raise_72 : decode cX10_raise 72 = .ok (.iload_n 1, 1) := by decide +kernel
theorem dX10_raise_73 : decode cX10_raise 73 = .ok (.iload_n 2, 1) := by decide +kernel
theorem dX10_raise_74 : decode cX10_raise 74 = .ok (.invokevirtual 201, 3) := by decide +kernel
theorem dX10_raise_77 : decode cX10_raise 77 = .ok (.goto 15, 3) := by decide +kernel
theorem dX10_raise_80 : decode cX10_raise 80 = .ok (.aload_n 0, 1) := by decide +kernel
theorem dX10_raise_81 : decode cX10_raise 81 = .ok (.getfield 19, 3) := by decide +kernel
theorem dX10_raise_84 : decode cX10_raise 84 = .ok (.getfield 192, 3) := by decide +kernel
theorem dX10_raise_87 : decode cX10_raise 87 = .ok (.iload_n 1, 1) := by decide +kernel
theorem dX10_raise_88 : decode cX10_raise 88 = .ok (.iload_n 2, 1) := by decide +kernel
theorem dX10_raise_89 : decode cX10_raise 89 = .ok (.invokevirtual 204, 3) := by decide +kernel
theorem dX10_raise_92 : decode cX10_raise 92 = .ok (.invokevirtual 95, 3) := by decide +kernel
theorem dX10_raise_95 : decode cX10_raise 95 = .ok (.ireturn, 1) := by decide +kernel
theorem dX10_ranks_0 : decode cX10_ranks 0 = .ok (.iload_n 1, 1) := by decide +kernel
theorem dX10_ranks_1 : decode cX10_ranks 1 = .ok (.ifCond .lt 18, 3) := by decide +kernel
theorem dX10_ranks_4 : decode cX10_ranks 4 = .ok (.iload_n 1, 1) := by decide +kernel
theorem dX10_ranks_5 : decode cX10_ranks 5 = .ok (.bipush 8, 2) := by decide +kernel
theorem dX10_ranks_7 : decode cX10_ranks 7 = .ok (.if_icmp .ge 12, 3) := by decide +kernel
theorem dX10_ranks_10 : decode cX10_ranks 10 = .ok (.iload_n 2, 1) := by decide +kernel
theorem dX10_ranks_11 : decode cX10_ranks 11 = .ok (.ifCond .lt 8, 3) := by decide +kernel
theorem dX10_ranks_14 : decode cX10_ranks 14 = .ok (.iload_n 2, 1) := by decide +kernel
theorem dX10_ranks_15 : decode cX10_ranks 15 = .ok (.iconst 2, 1) := by decide +kernel
theorem dX10_ranks_16 : decode cX10_ranks 16 = .ok (.if_icmp .le 9, 3) := by decide +kernel
theorem dX10_ranks_19 : decode cX10_ranks 19 = .ok (.aload_n 0, 1) := by decide +kernel
theorem dX10_ranks_20 : decode cX10_ranks 20 = .ok (.iconst 1, 1) := by decide +kernel
theorem dX10_ranks_21 : decode cX10_ranks 21 = .ok (.invokevirtual 66, 3) := by decide +kernel
theorem dX10_ranks_24 : decode cX10_ranks 24 = .ok (.ireturn, 1) := by decide +kernel
theorem dX10_ranks_25 : decode cX10_ranks 25 = .ok (.iload_n 2, 1) := by decide +kernel
theorem dX10_ranks_26 : decode cX10_ranks 26 = .ok (.ifCond .ne 19, 3) := by decide +kernel
theorem dX10_ranks_29 : decode cX10_ranks 29 = .ok (.aload_n 0, 1) := by decide +kernel
theorem dX10_ranks_30 : decode cX10_ranks 30 = .ok (.aload_n 0, 1) := by decide +kernel
theorem dX10_ranks_31 : decode cX10_ranks 31 = .ok (.getfield 19, 3) := by decide +kernel
theorem dX10_ranks_34 : decode cX10_ranks 34 = .ok (.getfield 105, 3) := by decide +kernel
theorem dX10_ranks_37 : decode cX10_ranks 37 = .ok (.iload_n 1, 1) := by decide +kernel
theorem dX10_ranks_38 : decode cX10_ranks 38 = .ok (.invokevirtual 213, 3) := by decide +kernel
theorem dX10_ranks_41 : decode cX10_ranks 41 = .ok (.invokevirtual 95, 3) := by decide +kernel
theorem dX10_ranks_44 : decode cX10_ranks 44 = .ok (.ireturn, 1) := by decide +kernel
theorem dX10_ranks_45 : decode cX10_ranks 45 = .ok (.aload_n 0, 1) := by decide +kernel
theorem dX10_ranks_46 : decode cX10_ranks 46 = .ok (.iload_n 2, 1) := by decide +kernel
theorem dX10_ranks_47 : decode cX10_ranks 47 = .ok (.iconst 1, 1) := by decide +kernel
theorem dX10_ranks_48 : decode cX10_ranks 48 = .ok (.if_icmp .ne 17, 3) := by decide +kernel
theorem dX10_ranks_51 : decode cX10_ranks 51 = .ok (.aload_n 0, 1) := by decide +kernel
theorem dX10_ranks_52 : decode cX10_ranks 52 = .ok (.getfield 19, 3) := by decide +kernel
theorem dX10_ranks_55 : decode cX10_ranks 55 = .ok (.getfield 180, 3) := by decide +kernel
theorem dX10_ranks_58 : decode cX10_ranks 58 = .ok (.iload_n 1, 1) := by decide +kernel
theorem dX10_ranks_59 : decode cX10_ranks 59 = .ok (.invokevirtual 216, 3) := by decide +kernel
theorem dX10_ranks_62 : decode cX10_ranks 62 = .ok (.goto 14, 3) := by decide +kernel
theorem dX10_ranks_65 : decode cX10_ranks 65 = .ok (.aload_n 0, 1) := by decide +kernel
theorem dX10_ranks_66 : decode cX10_ranks 66 = .ok (.getfield 19, 3) := by decide +kernel
theorem dX10_ranks_69 : decode cX10_ranks 69 = .ok (.getfield 180, 3) := by decide +kernel
theorem dX10_ranks_72 : decode cX10_ranks 72 = .ok (.iload_n 1, 1) := by decide +kernel
theorem dX10_ranks_73 : decode cX10_ranks 73 = .ok (.invokevirtual 219, 3) := by decide +kernel
theorem dX10_ranks_76 : decode cX10_ranks 76 = .ok (.invokevirtual 95, 3) := by decide +kernel
theorem dX10_ranks_79 : decode cX10_ranks 79 = .ok (.ireturn, 1) := by decide +kernel
theorem dX10_refuse_0 : decode cX10_refuse 0 = .ok (.aload_n 0, 1) := by decide +kernel
theorem dX10_refuse_1 : decode cX10_refuse 1 = .ok (.iload_n 1, 1) := by decide +kernel
theorem dX10_refuse_2 : decode cX10_refuse 2 = .ok (.putfield 56, 3) := by decide +kernel
theorem dX10_refuse_5 : decode cX10_refuse 5 = .ok (.iconst 0, 1) := by decide +kernel
theorem dX10_refuse_6 : decode cX10_refuse 6 = .ok (.ireturn, 1) := by decide +kernel
theorem dX10_run_0 : decode cX10_run 0 = .ok (.iload_n 1, 1) := by decide +kernel
theorem dX10_run_1 : decode cX10_run 1 = .ok (.iconst 1, 1) := by decide +kernel
theorem dX10_run_2 : decode cX10_run 2 = .ok (.if_icmp .lt 31, 3) := by decide +kernel
theorem dX10_run_5 : decode cX10_run 5 = .ok (.iload_n 1, 1) := by decide +kernel
theorem dX10_run_6 : decode cX10_run 6 = .ok (.sipush 500, 3) := by decide +kernel
theorem dX10_run_9 : decode cX10_run 9 = .ok (.if_icmp .gt 24, 3) := by decide +kernel
theorem dX10_run_12 : decode cX10_run 12 = .ok (.iload_n 2, 1) := by decide +kernel
theorem dX10_run_13 : decode cX10_run 13 = .ok (.ifCond .lt 20, 3) := by decide +kernel
theorem dX10_run_16 : decode cX10_run 16 = .ok (.iload_n 2, 1) := by decide +kernel
theorem dX10_run_17 : decode cX10_run 17 = .ok (.sipush 9999, 3) := by decide +kernel
theorem dX10_run_20 : decode cX10_run 20 = .ok (.if_icmp .gt 13, 3) := by decide +kernel
theorem dX10_run_23 : decode cX10_run 23 = .ok (.iload_n 3, 1) := by decide +kernel
theorem dX10_run_24 : decode cX10_run 24 = .ok (.ifCond .lt 9, 3) := by decide +kernel
theorem dX10_run_27 : decode cX10_run 27 = .ok (.iload_n 3, 1) := by decide +kernel
theorem dX10_run_28 : decode cX10_run 28 = .ok (.bipush 16, 2) := by decide +kernel
theorem dX10_run_30 : decode cX10_run 30 = .ok (.if_icmp .le 9, 3) := by decide +kernel
theorem dX10_run_33 : decode cX10_run 33 = .ok (.aload_n 0, 1) := by decide +kernel
theorem dX10_run_34 : decode cX10_run 34 = .ok (.iconst 1, 1) := by decide +kernel
theorem dX10_run_35 : decode cX10_run 35 = .ok (.invokevirtual 66, 3) := by decide +kernel
theorem dX10_run_38 : decode cX10_run 38 = .ok (.ireturn, 1) := by decide +kernel
theorem dX10_run_39 : decode cX10_run 39 = .ok (.aload_n 0, 1) := by decide +kernel
theorem dX10_run_40 : decode cX10_run 40 = .ok (.getfield 19, 3) := by decide +kernel
theorem dX10_run_43 : decode cX10_run 43 = .ok (.getfield 180, 3) := by decide +kernel
theorem dX10_run_46 : decode cX10_run 46 = .ok (.iconst 0, 1) := by decide +kernel
theorem dX10_run_47 : decode cX10_run 47 = .ok (.invokevirtual 184, 3) := by decide +kernel
theorem dX10_run_50 : decode cX10_run 50 = .ok (.istore 4, 2) := by decide +kernel
theorem dX10_run_52 : decode cX10_run 52 = .ok (.iload_n 2, 1) := by decide +kernel
theorem dX10_run_53 : decode cX10_run 53 = .ok (.istore 5, 2) := by decide +kernel
theorem dX10_run_55 : decode cX10_run 55 = .ok (.iconst 0, 1) := by decide +kernel
theorem dX10_run_56 : decode cX10_run 56 = .ok (.istore 6, 2) := by decide +kernel
theorem dX10_run_58 : decode cX10_run 58 = .ok (.iload 6, 2) := by decide +kernel
theorem dX10_run_60 : decode cX10_run 60 = .ok (.iload_n 1, 1) := by decide +kernel
theorem dX10_run_61 : decode cX10_run 61 = .ok (.if_icmp .ge 29, 3) := by decide +kernel
theorem dX10_run_64 : decode cX10_run 64 = .ok (.aload_n 0, 1) := by decide +kernel
theorem dX10_run_65 : decode cX10_run 65 = .ok (.getfield 19, 3) := by decide +kernel
theorem dX10_run_68 : decode cX10_run 68 = .ok (.iload 5, 2) := by decide +kernel
theorem dX10_run_70 : decode cX10_run 70 = .ok (.iload_n 3, 1) := by decide +kernel
theorem dX10_run_71 : decode cX10_run 71 = .ok (.invokevirtual 281, 3) := by decide +kernel
theorem dX10_run_74 : decode cX10_run 74 = .ok (.istore 5, 2) := by decide +kernel
theorem dX10_run_76 : decode cX10_run 76 = .ok (.aload_n 0, 1) := by decide +kernel
theorem dX10_run_77 : decode cX10_run 77 = .ok (.getfield 19, 3) := by decide +kernel
theorem dX10_run_80 : decode cX10_run 80 = .ok (.iconst 0, 1) := by decide +kernel
theorem dX10_run_81 : decode cX10_run 81 = .ok (.invokevirtual 277, 3) := by decide +kernel
theorem dX10_run_84 : decode cX10_run 84 = .ok (.iinc 6 1, 3) := by decide +kernel
theorem dX10_run_87 : decode cX10_run 87 = .ok (.goto (-29), 3) := by decide +kernel
theorem dX10_run_90 : decode cX10_run 90 = .ok (.aload_n 0, 1) := by decide +kernel
theorem dX10_run_91 : decode cX10_run 91 = .ok (.aload_n 0, 1) := by decide +kernel
theorem dX10_run_92 : decode cX10_run 92 = .ok (.getfield 19, 3) := by decide +kernel
theorem dX10_run_95 : decode cX10_run 95 = .ok (.getfield 180, 3) := by decide +kernel
theorem dX10_run_98 : decode cX10_run 98 = .ok (.iconst 0, 1) := by decide +kernel
theorem dX10_run_99 : decode cX10_run 99 = .ok (.invokevirtual 184, 3) := by decide +kernel
theorem dX10_run_102 : decode cX10_run 102 = .ok (.iload 4, 2) := by decide +kernel
theorem dX10_run_104 : decode cX10_run 104 = .ok (.isub, 1) := by decide +kernel
theorem dX10_run_105 : decode cX10_run 105 = .ok (.invokevirtual 95, 3) := by decide +kernel
theorem dX10_run_108 : decode cX10_run 108 = .ok (.ireturn, 1) := by decide +kernel
theorem dX10_send_0 : decode cX10_send 0 = .ok (.iload_n 3, 1) := by decide +kernel
theorem dX10_send_1 : decode cX10_send 1 = .ok (.ifCond .lt 9, 3) := by decide +kernel
theorem dX10_send_4 : decode cX10_send 4 = .ok (.iload_n 3, 1) := by decide +kernel
theorem dX10_send_5 : decode cX10_send 5 = .ok (.bipush 8, 2) := by decide +kernel
theorem dX10_send_7 : decode cX10_send 7 = .ok (.if_icmp .lt 9, 3) := by decide +kernel
theorem dX10_send_10 : decode cX10_send 10 = .ok (.aload_n 0, 1) := by decide +kernel
theorem dX10_send_11 : decode cX10_send 11 = .ok (.iconst 1, 1) := by decide +kernel
theorem dX10_send_12 : decode cX10_send 12 = .ok (.invokevirtual 66, 3) := by decide +kernel
theorem dX10_send_15 : decode cX10_send 15 = .ok (.ireturn, 1) := by decide +kernel
theorem dX10_send_16 : decode cX10_send 16 = .ok (.aload_n 0, 1) := by decide +kernel
theorem dX10_send_17 : decode cX10_send 17 = .ok (.getfield 19, 3) := by decide +kernel
theorem dX10_send_20 : decode cX10_send 20 = .ok (.getfield 86, 3) := by decide +kernel
theorem dX10_send_23 : decode cX10_send 23 = .ok (.iload_n 1, 1) := by decide +kernel
theorem dX10_send_24 : decode cX10_send 24 = .ok (.invokevirtual 146, 3) := by decide +kernel
theorem dX10_send_27 : decode cX10_send 27 = .ok (.ifCond .eq 17, 3) := by decide +kernel
theorem dX10_send_30 : decode cX10_send 30 = .ok (.aload_n 0, 1) := by decide +kernel
theorem dX10_send_31 : decode cX10_send 31 = .ok (.getfield 19, 3) := by decide +kernel
theorem dX10_send_34 : decode cX10_send 34 = .ok (.getfield 86, 3) := by decide +kernel
theorem dX10_send_37 : decode cX10_send 37 = .ok (.iload_n 2, 1) := by decide +kernel
theorem dX10_send_38 : decode cX10_send 38 = .ok (.invokevirtual 146, 3) := by decide +kernel
theorem dX10_send_41 : decode cX10_send 41 = .ok (.ifCond .ne 9, 3) := by decide +kernel
theorem dX10_send_44 : decode cX10_send 44 = .ok (.aload_n 0, 1) := by decide +kernel
theorem dX10_send_45 : decode cX10_send 45 = .ok (.iconst 2, 1) := by decide +kernel
theorem dX10_send_46 : decode cX10_send 46 = .ok (.invokevirtual 66, 3) := by decide +kernel
theorem dX10_send_49 : decode cX10_send 49 = .ok (.ireturn, 1) := by decide +kernel
theorem dX10_send_50 : decode cX10_send 50 = .ok (.aload_n 0, 1) := by decide +kernel
theorem dX10_send_51 : decode cX10_send 51 = .ok (.getfield 19, 3) := by decide +kernel
theorem dX10_send_54 : decode cX10_send 54 = .ok (.getfield 105, 3) := by decide +kernel
theorem dX10_send_57 : decode cX10_send 57 = .ok (.iload_n 1, 1) := by decide +kernel
theorem dX10_send_58 : decode cX10_send 58 = .ok (.invokevirtual 242, 3) := by decide +kernel
theorem dX10_send_61 : decode cX10_send 61 = .ok (.ifCond .eq 9, 3) := by decide +kernel
theorem dX10_send_64 : decode cX10_send 64 = .ok (.aload_n 0, 1) := by decide +kernel
theorem dX10_send_65 : decode cX10_send 65 = .ok (.iconst 3, 1) := by decide +kernel
theorem dX10_send_66 : decode cX10_send 66 = .ok (.invokevirtual 66, 3) := by decide +kernel
theorem dX10_send_69 : decode cX10_send 69 = .ok (.ireturn, 1) := by decide +kernel
theorem dX10_send_70 : decode cX10_send 70 = .ok (.iload_n 1, 1) := by decide +kernel
theorem dX10_send_71 : decode cX10_send 71 = .ok (.iload_n 2, 1) := by decide +kernel
theorem dX10_send_72 : decode cX10_send 72 = .ok (.if_icmp .ne 10, 3) := by decide +kernel
theorem dX10_send_75 : decode cX10_send 75 = .ok (.aload_n 0, 1) := by decide +kernel
theorem dX10_send_76 : decode cX10_send 76 = .ok (.bipush 8, 2) := by decide +kernel
theorem dX10_send_78 : decode cX10_send 78 = .ok (.invokevirtual 66, 3) := by decide +kernel
theorem dX10_send_81 : decode cX10_send 81 = .ok (.ireturn, 1) := by decide +kernel
theorem dX10_send_82 : decode cX10_send 82 = .ok (.aload_n 0, 1) := by decide +kernel
theorem dX10_send_83 : decode cX10_send 83 = .ok (.aload_n 0, 1) := by decide +kernel
theorem dX10_send_84 : decode cX10_send 84 = .ok (.getfield 19, 3) := by decide +kernel
theorem dX10_send_87 : decode cX10_send 87 = .ok (.iload_n 1, 1) := by decide +kernel
theorem dX10_send_88 : decode cX10_send 88 = .ok (.iload_n 2, 1) := by decide +kernel
theorem dX10_send_89 : decode cX10_send 89 = .ok (.iload_n 3, 1) := by decide +kernel
theorem dX10_send_90 : decode cX10_send 90 = .ok (.invokevirtual 245, 3) := by decide +kernel
theorem dX10_send_93 : decode cX10_send 93 = .ok (.invokevirtual 95, 3) := by decide +kernel
theorem dX10_send_96 : decode cX10_send 96 = .ok (.ireturn, 1) := by decide +kernel
theorem dX10_shed_0 : decode cX10_shed 0 = .ok (.iload_n 2, 1) := by decide +kernel
theorem dX10_shed_1 : decode cX10_shed 1 = .ok (.ifCond .lt 9, 3) := by decide +kernel
theorem dX10_shed_4 : decode cX10_shed 4 = .ok (.iload_n 2, 1) := by decide +kernel
theorem dX10_shed_5 : decode cX10_shed 5 = .ok (.bipush 8, 2) := by decide +kernel
theorem dX10_shed_7 : decode cX10_shed 7 = .ok (.if_icmp .le 9, 3) := by decide +kernel
theorem dX10_shed_10 : decode cX10_shed 10 = .ok (.aload_n 0, 1) := by decide +kernel
theorem dX10_shed_11 : decode cX10_shed 11 = .ok (.iconst 1, 1) := by decide +kernel
theorem dX10_shed_12 : decode cX10_shed 12 = .ok (.invokevirtual 66, 3) := by decide +kernel
theorem dX10_shed_15 : decode cX10_shed 15 = .ok (.ireturn, 1) := by decide +kernel
theorem dX10_shed_16 : decode cX10_shed 16 = .ok (.aload_n 0, 1) := by decide +kernel
theorem dX10_shed_17 : decode cX10_shed 17 = .ok (.getfield 19, 3) := by decide +kernel
theorem dX10_shed_20 : decode cX10_shed 20 = .ok (.getfield 86, 3) := by decide +kernel
theorem dX10_shed_23 : decode cX10_shed 23 = .ok (.iload_n 1, 1) := by decide +kernel
theorem dX10_shed_24 : decode cX10_shed 24 = .ok (.invokevirtual 146, 3) := by decide +kernel
theorem dX10_shed_27 : decode cX10_shed 27 = .ok (.ifCond .ne 9, 3) := by decide +kernel
theorem dX10_shed_30 : decode cX10_shed 30 = .ok (.aload_n 0, 1) := by decide +kernel
theorem dX10_shed_31 : decode cX10_shed 31 = .ok (.iconst 2, 1) := by decide +kernel
theorem dX10_shed_32 : decode cX10_shed 32 = .ok (.invokevirtual 66, 3) := by decide +kernel
theorem dX10_shed_35 : decode cX10_shed 35 = .ok (.ireturn, 1) := by decide +kernel
theorem dX10_shed_36 : decode cX10_shed 36 = .ok (.aload_n 0, 1) := by decide +kernel
theorem dX10_shed_37 : decode cX10_shed 37 = .ok (.aload_n 0, 1) := by decide +kernel
theorem dX10_shed_38 : decode cX10_shed 38 = .ok (.getfield 19, 3) := by decide +kernel
theorem dX10_shed_41 : decode cX10_shed 41 = .ok (.getfield 105, 3) := by decide +kernel
theorem dX10_shed_44 : decode cX10_shed 44 = .ok (.iload_n 1, 1) := by decide +kernel
theorem dX10_shed_45 : decode cX10_shed 45 = .ok (.iload_n 2, 1) := by decide +kernel
theorem dX10_shed_46 : decode cX10_shed 46 = .ok (.invokevirtual 255, 3) := by decide +kernel
theorem dX10_shed_49 : decode cX10_shed 49 = .ok (.invokevirtual 95, 3) := by decide +kernel
theorem dX10_shed_52 : decode cX10_shed 52 = .ok (.ireturn, 1) := by decide +kernel
theorem dX10_snap_0 : decode cX10_snap 0 = .ok (.iload_n 2, 1) := by decide +kernel
theorem dX10_snap_1 : decode cX10_snap 1 = .ok (.ifCond .lt 8, 3) := by decide +kernel
theorem dX10_snap_4 : decode cX10_snap 4 = .ok (.iload_n 2, 1) := by decide +kernel
theorem dX10_snap_5 : decode cX10_snap 5 = .ok (.iconst 3, 1) := by decide +kernel
theorem dX10_snap_6 : decode cX10_snap 6 = .ok (.if_icmp .lt 9, 3) := by decide +kernel
theorem dX10_snap_9 : decode cX10_snap 9 = .ok (.aload_n 0, 1) := by decide +kernel
theorem dX10_snap_10 : decode cX10_snap 10 = .ok (.iconst 1, 1) := by decide +kernel
theorem dX10_snap_11 : decode cX10_snap 11 = .ok (.invokevirtual 258, 3) := by decide +kernel
theorem dX10_snap_14 : decode cX10_snap 14 = .ok (.ireturn, 1) := by decide +kernel
theorem dX10_snap_15 : decode cX10_snap 15 = .ok (.aload_n 0, 1) := by decide +kernel
theorem dX10_snap_16 : decode cX10_snap 16 = .ok (.getfield 19, 3) := by decide +kernel
theorem dX10_snap_19 : decode cX10_snap 19 = .ok (.getfield 86, 3) := by decide +kernel
theorem dX10_snap_22 : decode cX10_snap 22 = .ok (.iload_n 1, 1) := by decide +kernel
theorem dX10_snap_23 : decode cX10_snap 23 = .ok (.invokevirtual 146, 3) := by decide +kernel
theorem dX10_snap_26 : decode cX10_snap 26 = .ok (.ifCond .ne 9, 3) := by decide +kernel
theorem dX10_snap_29 : decode cX10_snap 29 = .ok (.aload_n 0, 1) := by decide +kernel
theorem dX10_snap_30 : decode cX10_snap 30 = .ok (.iconst 2, 1) := by decide +kernel
theorem dX10_snap_31 : decode cX10_snap 31 = .ok (.invokevirtual 258, 3) := by decide +kernel
theorem dX10_snap_34 : decode cX10_snap 34 = .ok (.ireturn, 1) := by decide +kernel
theorem dX10_snap_35 : decode cX10_snap 35 = .ok (.aload_n 0, 1) := by decide +kernel
theorem dX10_snap_36 : decode cX10_snap 36 = .ok (.getfield 19, 3) := by decide +kernel
theorem dX10_snap_39 : decode cX10_snap 39 = .ok (.getfield 86, 3) := by decide +kernel
theorem dX10_snap_42 : decode cX10_snap 42 = .ok (.getfield 140, 3) := by decide +kernel
theorem dX10_snap_45 : decode cX10_snap 45 = .ok (.iconst (-1), 1) := by decide +kernel
theorem dX10_snap_46 : decode cX10_snap 46 = .ok (.if_icmp .eq 9, 3) := by decide +kernel
theorem dX10_snap_49 : decode cX10_snap 49 = .ok (.aload_n 0, 1) := by decide +kernel
theorem dX10_snap_50 : decode cX10_snap 50 = .ok (.iconst 3, 1) := by decide +kernel
theorem dX10_snap_51 : decode cX10_snap 51 = .ok (.invokevirtual 258, 3) := by decide +kernel
theorem dX10_snap_54 : decode cX10_snap 54 = .ok (.ireturn, 1) := by decide +kernel
theorem dX10_snap_55 : decode cX10_snap 55 = .ok (.aload_n 0, 1) := by decide +kernel
theorem dX10_snap_56 : decode cX10_snap 56 = .ok (.getfield 19, 3) := by decide +kernel
theorem dX10_snap_59 : decode cX10_snap 59 = .ok (.getfield 86, 3) := by decide +kernel
theorem dX10_snap_62 : decode cX10_snap 62 = .ok (.iload_n 1, 1) := by decide +kernel
theorem dX10_snap_63 : decode cX10_snap 63 = .ok (.iload_n 2, 1) := by decide +kernel
theorem dX10_snap_64 : decode cX10_snap 64 = .ok (.invokevirtual 273, 3) := by decide +kernel
theorem dX10_snap_67 : decode cX10_snap 67 = .ok (.aload_n 0, 1) := by decide +kernel
theorem dX10_snap_68 : decode cX10_snap 68 = .ok (.getfield 19, 3) := by decide +kernel
theorem dX10_snap_71 : decode cX10_snap 71 = .ok (.invokevirtual 239, 3) := by decide +kernel
theorem dX10_snap_74 : decode cX10_snap 74 = .ok (.aload_n 0, 1) := by decide +kernel
theorem dX10_snap_75 : decode cX10_snap 75 = .ok (.invokevirtual 264, 3) := by decide +kernel
theorem dX10_snap_78 : decode cX10_snap 78 = .ok (.ireturn, 1) := by decide +kernel
theorem dX10_stale_0 : decode cX10_stale 0 = .ok (.aload_n 0, 1) := by decide +kernel
theorem dX10_stale_1 : decode cX10_stale 1 = .ok (.aload_n 0, 1) := by decide +kernel
theorem dX10_stale_2 : decode cX10_stale 2 = .ok (.getfield 19, 3) := by decide +kernel
theorem dX10_stale_5 : decode cX10_stale 5 = .ok (.getfield 86, 3) := by decide +kernel
theorem dX10_stale_8 : decode cX10_stale 8 = .ok (.invokevirtual 290, 3) := by decide +kernel
theorem dX10_stale_11 : decode cX10_stale 11 = .ok (.invokevirtual 95, 3) := by decide +kernel
theorem dX10_stale_14 : decode cX10_stale 14 = .ok (.ireturn, 1) := by decide +kernel
theorem dX10_station_0 : decode cX10_station 0 = .ok (.iload_n 2, 1) := by decide +kernel
theorem dX10_station_1 : decode cX10_station 1 = .ok (.ifCond .lt 9, 3) := by decide +kernel
theorem dX10_station_4 : decode cX10_station 4 = .ok (.iload_n 2, 1) := by decide +kernel
theorem dX10_station_5 : decode cX10_station 5 = .ok (.bipush 9, 2) := by decide +kernel
theorem dX10_station_7 : decode cX10_station 7 = .ok (.if_icmp .le 9, 3) := by decide +kernel
theorem dX10_station_10 : decode cX10_station 10 = .ok (.aload_n 0, 1) := by decide +kernel
theorem dX10_station_11 : decode cX10_station 11 = .ok (.iconst 1, 1) := by decide +kernel
theorem dX10_station_12 : decode cX10_station 12 = .ok (.invokevirtual 66, 3) := by decide +kernel
theorem dX10_station_15 : decode cX10_station 15 = .ok (.ireturn, 1) := by decide +kernel
theorem dX10_station_16 : decode cX10_station 16 = .ok (.aload_n 0, 1) := by decide +kernel
theorem dX10_station_17 : decode cX10_station 17 = .ok (.getfield 19, 3) := by decide +kernel
theorem dX10_station_20 : decode cX10_station 20 = .ok (.getfield 86, 3) := by decide +kernel
theorem dX10_station_23 : decode cX10_station 23 = .ok (.iload_n 1, 1) := by decide +kernel
theorem dX10_station_24 : decode cX10_station 24 = .ok (.invokevirtual 146, 3) := by decide +kernel
theorem dX10_station_27 : decode cX10_station 27 = .ok (.ifCond .ne 9, 3) := by decide +kernel
theorem dX10_station_30 : decode cX10_station 30 = .ok (.aload_n 0, 1) := by decide +kernel
theorem dX10_station_31 : decode cX10_station 31 = .ok (.iconst 2, 1) := by decide +kernel
theorem dX10_station_32 : decode cX10_station 32 = .ok (.invokevirtual 66, 3) := by decide +kernel
theorem dX10_station_35 : decode cX10_station 35 = .ok (.ireturn, 1) := by decide +kernel
theorem dX10_station_36 : decode cX10_station 36 = .ok (.aload_n 0, 1) := by decide +kernel
theorem dX10_station_37 : decode cX10_station 37 = .ok (.aload_n 0, 1) := by decide +kernel
theorem dX10_station_38 : decode cX10_station 38 = .ok (.getfield 19, 3) := by decide +kernel
theorem dX10_station_41 : decode cX10_station 41 = .ok (.iload_n 1, 1) := by decide +kernel
theorem dX10_station_42 : decode cX10_station 42 = .ok (.iload_n 2, 1) := by decide +kernel
theorem dX10_station_43 : decode cX10_station 43 = .ok (.invokevirtual 149, 3) := by decide +kernel
theorem dX10_station_46 : decode cX10_station 46 = .ok (.invokevirtual 95, 3) := by decide +kernel
theorem dX10_station_49 : decode cX10_station 49 = .ok (.ireturn, 1) := by decide +kernel
theorem dX10_status_0 : decode cX10_status 0 = .ok (.aload_n 0, 1) := by decide +kernel
theorem dX10_status_1 : decode cX10_status 1 = .ok (.getfield 56, 3) := by decide +kernel
theorem dX10_status_4 : decode cX10_status 4 = .ok (.ireturn, 1) := by decide +kernel
theorem dX10_succeed_0 : decode cX10_succeed 0 = .ok (.aload_n 0, 1) := by decide +kernel
theorem dX10_succeed_1 : decode cX10_succeed 1 = .ok (.iconst 0, 1) := by decide +kernel
theorem dX10_succeed_2 : decode cX10_succeed 2 = .ok (.putfield 56, 3) := by decide +kernel
theorem dX10_succeed_5 : decode cX10_succeed 5 = .ok (.iconst 1, 1) := by decide +kernel
theorem dX10_succeed_6 : decode cX10_succeed 6 = .ok (.ireturn, 1) := by decide +kernel
theorem dX10_take_0 : decode cX10_take 0 = .ok (.iload_n 1, 1) := by decide +kernel
theorem dX10_take_1 : decode cX10_take 1 = .ok (.ifCond .ge 9, 3) := by decide +kernel
theorem dX10_take_4 : decode cX10_take 4 = .ok (.aload_n 0, 1) := by decide +kernel
theorem dX10_take_5 : decode cX10_take 5 = .ok (.iconst 1, 1) := by decide +kernel
theorem dX10_take_6 : decode cX10_take 6 = .ok (.invokevirtual 66, 3) := by decide +kernel
theorem dX10_take_9 : decode cX10_take 9 = .ok (.ireturn, 1) := by decide +kernel
theorem dX10_take_10 : decode cX10_take 10 = .ok (.aload_n 0, 1) := by decide +kernel
theorem dX10_take_11 : decode cX10_take 11 = .ok (.getfield 19, 3) := by decide +kernel
theorem dX10_take_14 : decode cX10_take 14 = .ok (.getfield 105, 3) := by decide +kernel
theorem dX10_take_17 : decode cX10_take 17 = .ok (.iload_n 1, 1) := by decide +kernel
theorem dX10_take_18 : decode cX10_take 18 = .ok (.invokevirtual 249, 3) := by decide +kernel
theorem dX10_take_21 : decode cX10_take 21 = .ok (.istore_n 2, 1) := by decide +kernel
theorem dX10_take_22 : decode cX10_take 22 = .ok (.iload_n 2, 1) := by decide +kernel
theorem dX10_take_23 : decode cX10_take 23 = .ok (.iconst (-1), 1) := by decide +kernel
theorem dX10_take_24 : decode cX10_take 24 = .ok (.if_icmp .ne 9, 3) := by decide +kernel
theorem dX10_take_27 : decode cX10_take 27 = .ok (.aload_n 0, 1) := by decide +kernel
theorem dX10_take_28 : decode cX10_take 28 = .ok (.iconst 5, 1) := by decide +kernel
theorem dX10_take_29 : decode cX10_take 29 = .ok (.invokevirtual 66, 3) := by decide +kernel
theorem dX10_take_32 : decode cX10_take 32 = .ok (.ireturn, 1) := by decide +kernel
theorem dX10_take_33 : decode cX10_take 33 = .ok (.aload_n 0, 1) := by decide +kernel
theorem dX10_take_34 : decode cX10_take 34 = .ok (.getfield 19, 3) := by decide +kernel
theorem dX10_take_37 : decode cX10_take 37 = .ok (.getfield 105, 3) := by decide +kernel
theorem dX10_take_40 : decode cX10_take 40 = .ok (.iload_n 2, 1) := by decide +kernel
theorem dX10_take_41 : decode cX10_take 41 = .ok (.invokevirtual 252, 3) := by decide +kernel
theorem dX10_take_44 : decode cX10_take 44 = .ok (.aload_n 0, 1) := by decide +kernel
theorem dX10_take_45 : decode cX10_take 45 = .ok (.iload_n 2, 1) := by decide +kernel
theorem dX10_take_46 : decode cX10_take 46 = .ok (.bipush 6, 2) := by decide +kernel
theorem dX10_take_48 : decode cX10_take 48 = .ok (.idiv, 1) := by decide +kernel
theorem dX10_take_49 : decode cX10_take 49 = .ok (.invokevirtual 95, 3) := by decide +kernel
theorem dX10_take_52 : decode cX10_take 52 = .ok (.ireturn, 1) := by decide +kernel
theorem dX10_tick_0 : decode cX10_tick 0 = .ok (.iload_n 1, 1) := by decide +kernel
theorem dX10_tick_1 : decode cX10_tick 1 = .ok (.iconst 1, 1) := by decide +kernel
theorem dX10_tick_2 : decode cX10_tick 2 = .ok (.if_icmp .lt 10, 3) := by decide +kernel
theorem dX10_tick_5 : decode cX10_tick 5 = .ok (.iload_n 1, 1) := by decide +kernel
theorem dX10_tick_6 : decode cX10_tick 6 = .ok (.sipush 500, 3) := by decide +kernel
theorem dX10_tick_9 : decode cX10_tick 9 = .ok (.if_icmp .le 9, 3) := by decide +kernel
theorem dX10_tick_12 : decode cX10_tick 12 = .ok (.aload_n 0, 1) := by decide +kernel
theorem dX10_tick_13 : decode cX10_tick 13 = .ok (.iconst 1, 1) := by decide +kernel
theorem dX10_tick_14 : decode cX10_tick 14 = .ok (.invokevirtual 66, 3) := by decide +kernel
theorem dX10_tick_17 : decode cX10_tick 17 = .ok (.ireturn, 1) := by decide +kernel
theorem dX10_tick_18 : decode cX10_tick 18 = .ok (.iconst 0, 1) := by decide +kernel
theorem dX10_tick_19 : decode cX10_tick 19 = .ok (.istore_n 2, 1) := by decide +kernel
theorem dX10_tick_20 : decode cX10_tick 20 = .ok (.iload_n 2, 1) := by decide +kernel
theorem dX10_tick_21 : decode cX10_tick 21 = .ok (.iload_n 1, 1) := by decide +kernel
theorem dX10_tick_22 : decode cX10_tick 22 = .ok (.if_icmp .ge 17, 3) := by decide +kernel
theorem dX10_tick_25 : decode cX10_tick 25 = .ok (.aload_n 0, 1) := by decide +kernel
theorem dX10_tick_26 : decode cX10_tick 26 = .ok (.getfield 19, 3) := by decide +kernel
theorem dX10_tick_29 : decode cX10_tick 29 = .ok (.iconst 0, 1) := by decide +kernel
theorem dX10_tick_30 : decode cX10_tick 30 = .ok (.invokevirtual 277, 3) := by decide +kernel
theorem dX10_tick_33 : decode cX10_tick 33 = .ok (.iinc 2 1, 3) := by decide +kernel
theorem dX10_tick_36 : decode cX10_tick 36 = .ok (.goto (-16), 3) := by decide +kernel
theorem dX10_tick_39 : decode cX10_tick 39 = .ok (.aload_n 0, 1) := by decide +kernel
theorem dX10_tick_40 : decode cX10_tick 40 = .ok (.aload_n 0, 1) := by decide +kernel
theorem dX10_tick_41 : decode cX10_tick 41 = .ok (.getfield 19, 3) := by decide +kernel
theorem dX10_tick_44 : decode cX10_tick 44 = .ok (.getfield 117, 3) := by decide +kernel
theorem dX10_tick_47 : decode cX10_tick 47 = .ok (.invokevirtual 95, 3) := by decide +kernel
theorem dX10_tick_50 : decode cX10_tick 50 = .ok (.ireturn, 1) := by decide +kernel
theorem dX10_waits_0 : decode cX10_waits 0 = .ok (.iload_n 2, 1) := by decide +kernel
theorem dX10_waits_1 : decode cX10_waits 1 = .ok (.ifCond .lt 12, 3) := by decide +kernel
theorem dX10_waits_4 : decode cX10_waits 4 = .ok (.iload_n 3, 1) := by decide +kernel
theorem dX10_waits_5 : decode cX10_waits 5 = .ok (.ifCond .lt 8, 3) := by decide +kernel
theorem dX10_waits_8 : decode cX10_waits 8 = .ok (.iload_n 3, 1) := by decide +kernel
theorem dX10_waits_9 : decode cX10_waits 9 = .ok (.iconst 2, 1) := by decide +kernel
theorem dX10_waits_10 : decode cX10_waits 10 = .ok (.if_icmp .le 9, 3) := by decide +kernel
theorem dX10_waits_13 : decode cX10_waits 13 = .ok (.aload_n 0, 1) := by decide +kernel
theorem dX10_waits_14 : decode cX10_waits 14 = .ok (.iconst 1, 1) := by decide +kernel
theorem dX10_waits_15 : decode cX10_waits 15 = .ok (.invokevirtual 66, 3) := by decide +kernel
theorem dX10_waits_18 : decode cX10_waits 18 = .ok (.ireturn, 1) := by decide +kernel
theorem dX10_waits_19 : decode cX10_waits 19 = .ok (.aload_n 0, 1) := by decide +kernel
theorem dX10_waits_20 : decode cX10_waits 20 = .ok (.getfield 19, 3) := by decide +kernel
theorem dX10_waits_23 : decode cX10_waits 23 = .ok (.getfield 86, 3) := by decide +kernel
theorem dX10_waits_26 : decode cX10_waits 26 = .ok (.iload_n 1, 1) := by decide +kernel
theorem dX10_waits_27 : decode cX10_waits 27 = .ok (.invokevirtual 146, 3) := by decide +kernel
theorem dX10_waits_30 : decode cX10_waits 30 = .ok (.ifCond .ne 9, 3) := by decide +kernel
theorem dX10_waits_33 : decode cX10_waits 33 = .ok (.aload_n 0, 1) := by decide +kernel
theorem dX10_waits_34 : decode cX10_waits 34 = .ok (.iconst 2, 1) := by decide +kernel
theorem dX10_waits_35 : decode cX10_waits 35 = .ok (.invokevirtual 66, 3) := by decide +kernel
theorem dX10_waits_38 : decode cX10_waits 38 = .ok (.ireturn, 1) := by decide +kernel
theorem dX10_waits_39 : decode cX10_waits 39 = .ok (.iload_n 2, 1) := by decide +kernel
theorem dX10_waits_40 : decode cX10_waits 40 = .ok (.aload_n 0, 1) := by decide +kernel
theorem dX10_waits_41 : decode cX10_waits 41 = .ok (.getfield 19, 3) := by decide +kernel
theorem dX10_waits_44 : decode cX10_waits 44 = .ok (.getfield 105, 3) := by decide +kernel
theorem dX10_waits_47 : decode cX10_waits 47 = .ok (.iload_n 1, 1) := by decide +kernel
theorem dX10_waits_48 : decode cX10_waits 48 = .ok (.invokevirtual 153, 3) := by decide +kernel
theorem dX10_waits_51 : decode cX10_waits 51 = .ok (.if_icmp .lt 9, 3) := by decide +kernel
theorem dX10_waits_54 : decode cX10_waits 54 = .ok (.aload_n 0, 1) := by decide +kernel
theorem dX10_waits_55 : decode cX10_waits 55 = .ok (.iconst 5, 1) := by decide +kernel
theorem dX10_waits_56 : decode cX10_waits 56 = .ok (.invokevirtual 66, 3) := by decide +kernel
theorem dX10_waits_59 : decode cX10_waits 59 = .ok (.ireturn, 1) := by decide +kernel
theorem dX10_waits_60 : decode cX10_waits 60 = .ok (.aload_n 0, 1) := by decide +kernel
theorem dX10_waits_61 : decode cX10_waits 61 = .ok (.getfield 19, 3) := by decide +kernel
theorem dX10_waits_64 : decode cX10_waits 64 = .ok (.getfield 105, 3) := by decide +kernel
theorem dX10_waits_67 : decode cX10_waits 67 = .ok (.iload_n 1, 1) := by decide +kernel
theorem dX10_waits_68 : decode cX10_waits 68 = .ok (.iload_n 2, 1) := by decide +kernel
theorem dX10_waits_69 : decode cX10_waits 69 = .ok (.invokevirtual 156, 3) := by decide +kernel
theorem dX10_waits_72 : decode cX10_waits 72 = .ok (.istore 4, 2) := by decide +kernel
theorem dX10_waits_74 : decode cX10_waits 74 = .ok (.iload_n 3, 1) := by decide +kernel
theorem dX10_waits_75 : decode cX10_waits 75 = .ok (.ifCond .ne 20, 3) := by decide +kernel
theorem dX10_waits_78 : decode cX10_waits 78 = .ok (.aload_n 0, 1) := by decide +kernel
theorem dX10_waits_79 : decode cX10_waits 79 = .ok (.aload_n 0, 1) := by decide +kernel
theorem dX10_waits_80 : decode cX10_waits 80 = .ok (.getfield 19, 3) := by decide +kernel
theorem dX10_waits_83 : decode cX10_waits 83 = .ok (.getfield 105, 3) := by decide +kernel
theorem dX10_waits_86 : decode cX10_waits 86 = .ok (.iload 4, 2) := by decide +kernel
theorem dX10_waits_88 : decode cX10_waits 88 = .ok (.invokevirtual 159, 3) := by decide +kernel
theorem dX10_waits_91 : decode cX10_waits 91 = .ok (.invokevirtual 95, 3) := by decide +kernel
theorem dX10_waits_94 : decode cX10_waits 94 = .ok (.ireturn, 1) := by decide +kernel
theorem dX10_waits_95 : decode cX10_waits 95 = .ok (.aload_n 0, 1) := by decide +kernel
theorem dX10_waits_96 : decode cX10_waits 96 = .ok (.iload_n 3, 1) := by decide +kernel
theorem dX10_waits_97 : decode cX10_waits 97 = .ok (.iconst 1, 1) := by decide +kernel
theorem dX10_waits_98 : decode cX10_waits 98 = .ok (.if_icmp .ne 18, 3) := by decide +kernel
theorem dX10_waits_101 : decode cX10_waits 101 = .ok (.aload_n 0, 1) := by decide +kernel
theorem dX10_waits_102 : decode cX10_waits 102 = .ok (.getfield 19, 3) := by decide +kernel
theorem dX10_waits_105 : decode cX10_waits 105 = .ok (.getfield 105, 3) := by decide +kernel
theorem dX10_waits_108 : decode cX10_waits 108 = .ok (.iload 4, 2) := by decide +kernel
theorem dX10_waits_110 : decode cX10_waits 110 = .ok (.invokevirtual 162, 3) := by decide +kernel
theorem dX10_waits_113 : decode cX10_waits 113 = .ok (.goto 15, 3) := by decide +kernel
theorem dX10_waits_116 : decode cX10_waits 116 = .ok (.aload_n 0, 1) := by decide +kernel
theorem dX10_waits_117 : decode cX10_waits 117 = .ok (.getfield 19, 3) := by decide +kernel
theorem dX10_waits_120 : decode cX10_waits 120 = .ok (.getfield 105, 3) := by decide +kernel
theorem dX10_waits_123 : decode cX10_waits 123 = .ok (.iload 4, 2) := by decide +kernel
theorem dX10_waits_125 : decode cX10_waits 125 = .ok (.invokevirtual 165, 3) := by decide +kernel
theorem dX10_waits_128 : decode cX10_waits 128 = .ok (.invokevirtual 95, 3) := by decide +kernel
theorem dX10_waits_131 : decode cX10_waits 131 = .ok (.ireturn, 1) := by decide +kernel
theorem dX10_way_0 : decode cX10_way 0 = .ok (.iload_n 1, 1) := by decide +kernel
theorem dX10_way_1 : decode cX10_way 1 = .ok (.ifCond .lt 9, 3) := by decide +kernel
theorem dX10_way_4 : decode cX10_way 4 = .ok (.iload_n 1, 1) := by decide +kernel
theorem dX10_way_5 : decode cX10_way 5 = .ok (.bipush 9, 2) := by decide +kernel
theorem dX10_way_7 : decode cX10_way 7 = .ok (.if_icmp .le 9, 3) := by decide +kernel
theorem dX10_way_10 : decode cX10_way 10 = .ok (.aload_n 0, 1) := by decide +kernel
theorem dX10_way_11 : decode cX10_way 11 = .ok (.iconst 1, 1) := by decide +kernel
theorem dX10_way_12 : decode cX10_way 12 = .ok (.invokevirtual 66, 3) := by decide +kernel
theorem dX10_way_15 : decode cX10_way 15 = .ok (.ireturn, 1) := by decide +kernel
theorem dX10_way_16 : decode cX10_way 16 = .ok (.aload_n 0, 1) := by decide +kernel
theorem dX10_way_17 : decode cX10_way 17 = .ok (.getfield 19, 3) := by decide +kernel
theorem dX10_way_20 : decode cX10_way 20 = .ok (.getfield 120, 3) := by decide +kernel
theorem dX10_way_23 : decode cX10_way 23 = .ok (.getfield 124, 3) := by decide +kernel
theorem dX10_way_26 : decode cX10_way 26 = .ok (.istore_n 2, 1) := by decide +kernel
theorem dX10_way_27 : decode cX10_way 27 = .ok (.iload_n 1, 1) := by decide +kernel
theorem dX10_way_28 : decode cX10_way 28 = .ok (.iconst 1, 1) := by decide +kernel
theorem dX10_way_29 : decode cX10_way 29 = .ok (.if_icmp .lt 7, 3) := by decide +kernel
theorem dX10_way_32 : decode cX10_way 32 = .ok (.iload_n 2, 1) := by decide +kernel
theorem dX10_way_33 : decode cX10_way 33 = .ok (.ifCond .eq 13, 3) := by decide +kernel
theorem dX10_way_36 : decode cX10_way 36 = .ok (.iload_n 1, 1) := by decide +kernel
theorem dX10_way_37 : decode cX10_way 37 = .ok (.iconst 5, 1) := by decide +kernel
theorem dX10_way_38 : decode cX10_way 38 = .ok (.if_icmp .lt 15, 3) := by decide +kernel
theorem dX10_way_41 : decode cX10_way 41 = .ok (.iload_n 2, 1) := by decide +kernel
theorem dX10_way_42 : decode cX10_way 42 = .ok (.iconst 2, 1) := by decide +kernel
theorem dX10_way_43 : decode cX10_way 43 = .ok (.if_icmp .eq 10, 3) := by decide +kernel
theorem dX10_way_46 : decode cX10_way 46 = .ok (.aload_n 0, 1) := by decide +kernel
theorem dX10_way_47 : decode cX10_way 47 = .ok (.bipush 6, 2) := by decide +kernel
theorem dX10_way_49 : decode cX10_way 49 = .ok (.invokevirtual 66, 3) := by decide +kernel
theorem dX10_way_52 : decode cX10_way 52 = .ok (.ireturn, 1) := by decide +kernel
theorem dX10_way_53 : decode cX10_way 53 = .ok (.aload_n 0, 1) := by decide +kernel
theorem dX10_way_54 : decode cX10_way 54 = .ok (.aload_n 0, 1) := by decide +kernel
theorem dX10_way_55 : decode cX10_way 55 = .ok (.getfield 19, 3) := by decide +kernel
theorem dX10_way_58 : decode cX10_way 58 = .ok (.getfield 120, 3) := by decide +kernel
theorem dX10_way_61 : decode cX10_way 61 = .ok (.iload_n 1, 1) := by decide +kernel
theorem dX10_way_62 : decode cX10_way 62 = .ok (.invokevirtual 168, 3) := by decide +kernel
theorem dX10_way_65 : decode cX10_way 65 = .ok (.invokevirtual 95, 3) := by decide +kernel
theorem dX10_way_68 : decode cX10_way 68 = .ok (.ireturn, 1) := by decide +kernel
theorem dX10_when_0 : decode cX10_when 0 = .ok (.iload_n 1, 1) := by decide +kernel
theorem dX10_when_1 : decode cX10_when 1 = .ok (.ifCond .ge 9, 3) := by decide +kernel
theorem dX10_when_4 : decode cX10_when 4 = .ok (.aload_n 0, 1) := by decide +kernel
theorem dX10_when_5 : decode cX10_when 5 = .ok (.iconst 1, 1) := by decide +kernel
theorem dX10_when_6 : decode cX10_when 6 = .ok (.invokevirtual 66, 3) := by decide +kernel
theorem dX10_when_9 : decode cX10_when 9 = .ok (.ireturn, 1) := by decide +kernel
theorem dX10_when_10 : decode cX10_when 10 = .ok (.aload_n 0, 1) := by decide +kernel
theorem dX10_when_11 : decode cX10_when 11 = .ok (.getfield 19, 3) := by decide +kernel
theorem dX10_when_14 : decode cX10_when 14 = .ok (.iload_n 1, 1) := by decide +kernel
theorem dX10_when_15 : decode cX10_when 15 = .ok (.invokevirtual 303, 3) := by decide +kernel
theorem dX10_when_18 : decode cX10_when 18 = .ok (.ifCond .ne 9, 3) := by decide +kernel
theorem dX10_when_21 : decode cX10_when 21 = .ok (.aload_n 0, 1) := by decide +kernel
theorem dX10_when_22 : decode cX10_when 22 = .ok (.iconst 5, 1) := by decide +kernel
theorem dX10_when_23 : decode cX10_when 23 = .ok (.invokevirtual 66, 3) := by decide +kernel
theorem dX10_when_26 : decode cX10_when 26 = .ok (.ireturn, 1) := by decide +kernel
theorem dX10_when_27 : decode cX10_when 27 = .ok (.aload_n 0, 1) := by decide +kernel
theorem dX10_when_28 : decode cX10_when 28 = .ok (.aload_n 0, 1) := by decide +kernel
theorem dX10_when_29 : decode cX10_when 29 = .ok (.getfield 31, 3) := by decide +kernel
theorem dX10_when_32 : decode cX10_when 32 = .ok (.iconst 1, 1) := by decide +kernel
theorem dX10_when_33 : decode cX10_when 33 = .ok (.iload_n 1, 1) := by decide +kernel
theorem dX10_when_34 : decode cX10_when 34 = .ok (.iload_n 2, 1) := by decide +kernel
theorem dX10_when_35 : decode cX10_when 35 = .ok (.invokevirtual 296, 3) := by decide +kernel
theorem dX10_when_38 : decode cX10_when 38 = .ok (.invokevirtual 300, 3) := by decide +kernel
theorem dX10_when_41 : decode cX10_when 41 = .ok (.ireturn, 1) := by decide +kernel
theorem dX1_greatestLevel_0 : decode cX1_greatestLevel 0 = .ok (.aload_n 0, 1) := by decide +kernel
theorem dX1_greatestLevel_1 : decode cX1_greatestLevel 1 = .ok (.getfield 22, 3) := by decide +kernel
theorem dX1_greatestLevel_4 : decode cX1_greatestLevel 4 = .ok (.aload_n 0, 1) := by decide +kernel
theorem dX1_greatestLevel_5 : decode cX1_greatestLevel 5 = .ok (.getfield 18, 3) := by decide +kernel
theorem dX1_greatestLevel_8 : decode cX1_greatestLevel 8 = .ok (.invokevirtual 25, 3) := by decide +kernel
theorem dX1_greatestLevel_11 : decode cX1_greatestLevel 11 = .ok (.iconst 0, 1) := by decide +kernel
theorem dX1_greatestLevel_12 : decode cX1_greatestLevel 12 = .ok (.istore_n 1, 1) := by decide +kernel
theorem dX1_greatestLevel_13 : decode cX1_greatestLevel 13 = .ok (.iconst 0, 1) := by decide +kernel
theorem dX1_greatestLevel_14 : decode cX1_greatestLevel 14 = .ok (.istore_n 2, 1) := by decide +kernel
theorem dX1_greatestLevel_15 : decode cX1_greatestLevel 15 = .ok (.iload_n 2, 1) := by decide +kernel
theorem dX1_greatestLevel_16 : decode cX1_greatestLevel 16 = .ok (.sipush 3000, 3) := by decide +kernel
theorem dX1_greatestLevel_19 : decode cX1_greatestLevel 19 = .ok (.if_icmp .gt 57, 3) := by decide +kernel
theorem dX1_greatestLevel_22 : decode cX1_greatestLevel 22 = .ok (.aload_n 0, 1) := by decide +kernel
theorem dX1_greatestLevel_23 : decode cX1_greatestLevel 23 = .ok (.getfield 22, 3) := by decide +kernel
theorem dX1_greatestLevel_26 : decode cX1_greatestLevel 26 = .ok (.getfield 56, 3) := by decide +kernel
theorem dX1_greatestLevel_29 : decode cX1_greatestLevel 29 = .ok (.getfield 60, 3) := by decide +kernel
theorem dX1_greatestLevel_32 : decode cX1_greatestLevel 32 = .ok (.ifCond .eq 18, 3) := by decide +kernel
theorem dX1_greatestLevel_35 : decode cX1_greatestLevel 35 = .ok (.iload_n 1, 1) := by decide +kernel
theorem dX1_greatestLevel_36 : decode cX1_greatestLevel 36 = .ok (.aload_n 0, 1) := by decide +kernel
theorem dX1_greatestLevel_37 : decode cX1_greatestLevel 37 = .ok (.getfield 22, 3) := by decide +kernel
theorem dX1_greatestLevel_40 : decode cX1_greatestLevel 40 = .ok (.getfield 56, 3) := by decide +kernel
theorem dX1_greatestLevel_43 : decode cX1_greatestLevel 43 = .ok (.getfield 72, 3) := by decide +kernel
theorem dX1_greatestLevel_46 : decode cX1_greatestLevel 46 = .ok (.invokestatic 75, 3) := by decide +kernel
theorem dX1_greatestLevel_49 : decode cX1_greatestLevel 49 = .ok (.istore_n 1, 1) := by decide +kernel
theorem dX1_greatestLevel_50 : decode cX1_greatestLevel 50 = .ok (.aload_n 0, 1) := by decide +kernel
theorem dX1_greatestLevel_51 : decode cX1_greatestLevel 51 = .ok (.getfield 22, 3) := by decide +kernel
theorem dX1_greatestLevel_54 : decode cX1_greatestLevel 54 = .ok (.invokevirtual 39, 3) := by decide +kernel
theorem dX1_greatestLevel_57 : decode cX1_greatestLevel 57 = .ok (.ifCond .eq 5, 3) := by decide +kernel
theorem dX1_greatestLevel_60 : decode cX1_greatestLevel 60 = .ok (.iload_n 1, 1) := by decide +kernel
theorem dX1_greatestLevel_61 : decode cX1_greatestLevel 61 = .ok (.ireturn, 1) := by decide +kernel
theorem dX1_greatestLevel_62 : decode cX1_greatestLevel 62 = .ok (.aload_n 0, 1) := by decide +kernel
theorem dX1_greatestLevel_63 : decode cX1_greatestLevel 63 = .ok (.getfield 22, 3) := by decide +kernel
theorem dX1_greatestLevel_66 : decode cX1_greatestLevel 66 = .ok (.iconst 0, 1) := by decide +kernel
theorem dX1_greatestLevel_67 : decode cX1_greatestLevel 67 = .ok (.invokevirtual 35, 3) := by decide +kernel
theorem dX1_greatestLevel_70 : decode cX1_greatestLevel 70 = .ok (.iinc 2 1, 3) := by decide +kernel
theorem dX1_greatestLevel_73 : decode cX1_greatestLevel 73 = .ok (.goto (-58), 3) := by decide +kernel
theorem dX1_greatestLevel_76 : decode cX1_greatestLevel 76 = .ok (.iconst (-1), 1) := by decide +kernel
theorem dX1_greatestLevel_77 : decode cX1_greatestLevel 77 = .ok (.ireturn, 1) := by decide +kernel
theorem dX1_hasCome_0 : decode cX1_hasCome 0 = .ok (.iload_n 1, 1) := by decide +kernel
theorem dX1_hasCome_1 : decode cX1_hasCome 1 = .ok (.tableswitch 120 0 5 #[39, 47, 64, 75, 95, 103], 39) := by decide +kernel
theorem dX1_hasCome_40 : decode cX1_hasCome 40 = .ok (.aload_n 0, 1) := by decide +kernel
theorem dX1_hasCome_41 : decode cX1_hasCome 41 = .ok (.getfield 22, 3) := by decide +kernel
theorem dX1_hasCome_44 : decode cX1_hasCome 44 = .ok (.invokevirtual 39, 3) := by decide +kernel
theorem dX1_hasCome_47 : decode cX1_hasCome 47 = .ok (.ireturn, 1) := by decide +kernel
theorem dX1_hasCome_48 : decode cX1_hasCome 48 = .ok (.aload_n 0, 1) := by decide +kernel
theorem dX1_hasCome_49 : decode cX1_hasCome 49 = .ok (.getfield 22, 3) := by decide +kernel
theorem dX1_hasCome_52 : decode cX1_hasCome 52 = .ok (.getfield 43, 3) := by decide +kernel
theorem dX1_hasCome_55 : decode cX1_hasCome 55 = .ok (.iload_n 2, 1) := by decide +kernel
theorem dX1_hasCome_56 : decode cX1_hasCome 56 = .ok (.if_icmp .ne 7, 3) := by decide +kernel
theorem dX1_hasCome_59 : decode cX1_hasCome 59 = .ok (.iconst 1, 1) := by decide +kernel
theorem dX1_hasCome_60 : decode cX1_hasCome 60 = .ok (.goto 4, 3) := by decide +kernel
theorem dX1_hasCome_63 : decode cX1_hasCome 63 = .ok (.iconst 0, 1) := by decide +kernel
theorem dX1_hasCome_64 : decode cX1_hasCome 64 = .ok (.ireturn, 1) := by decide +kernel
theorem dX1_hasCome_65 : decode cX1_hasCome 65 = .ok (.aload_n 0, 1) := by decide +kernel
theorem dX1_hasCome_66 : decode cX1_hasCome 66 = .ok (.getfield 22, 3) := by decide +kernel
theorem dX1_hasCome_69 : decode cX1_hasCome 69 = .ok (.getfield 47, 3) := by decide +kernel
theorem dX1_hasCome_72 : decode cX1_hasCome 72 = .ok (.invokevirtual 51, 3) := by decide +kernel
theorem dX1_hasCome_75 : decode cX1_hasCome 75 = .ok (.ireturn, 1) := by decide +kernel
theorem dX1_hasCome_76 : decode cX1_hasCome 76 = .ok (.aload_n 0, 1) := by decide +kernel
theorem dX1_hasCome_77 : decode cX1_hasCome 77 = .ok (.getfield 22, 3) := by decide +kernel
theorem dX1_hasCome_80 : decode cX1_hasCome 80 = .ok (.getfield 56, 3) := by decide +kernel
theorem dX1_hasCome_83 : decode cX1_hasCome 83 = .ok (.getfield 60, 3) := by decide +kernel
theorem dX1_hasCome_86 : decode cX1_hasCome 86 = .ok (.iconst 1, 1) := by decide +kernel
theorem dX1_hasCome_87 : decode cX1_hasCome 87 = .ok (.if_icmp .ne 7, 3) := by decide +kernel
theorem dX1_hasCome_90 : decode cX1_hasCome 90 = .ok (.iconst 1, 1) := by decide +kernel
theorem dX1_hasCome_91 : decode cX1_hasCome 91 = .ok (.goto 4, 3) := by decide +kernel
theorem dX1_hasCome_94 : decode cX1_hasCome 94 = .ok (.iconst 0, 1) := by decide +kernel
theorem dX1_hasCome_95 : decode cX1_hasCome 95 = .ok (.ireturn, 1) := by decide +kernel
theorem dX1_hasCome_96 : decode cX1_hasCome 96 = .ok (.aload_n 0, 1) := by decide +kernel
theorem dX1_hasCome_97 : decode cX1_hasCome 97 = .ok (.getfield 22, 3) := by decide +kernel
theorem dX1_hasCome_100 : decode cX1_hasCome 100 = .ok (.getfield 65, 3) := by decide +kernel
theorem dX1_hasCome_103 : decode cX1_hasCome 103 = .ok (.ireturn, 1) := by decide +kernel
theorem dX1_hasCome_104 : decode cX1_hasCome 104 = .ok (.aload_n 0, 1) := by decide +kernel
theorem dX1_hasCome_105 : decode cX1_hasCome 105 = .ok (.getfield 22, 3) := by decide +kernel
theorem dX1_hasCome_108 : decode cX1_hasCome 108 = .ok (.getfield 69, 3) := by decide +kernel
theorem dX1_hasCome_111 : decode cX1_hasCome 111 = .ok (.iconst (-1), 1) := by decide +kernel
theorem dX1_hasCome_112 : decode cX1_hasCome 112 = .ok (.if_icmp .eq 7, 3) := by decide +kernel
theorem dX1_hasCome_115 : decode cX1_hasCome 115 = .ok (.iconst 1, 1) := by decide +kernel
theorem dX1_hasCome_116 : decode cX1_hasCome 116 = .ok (.goto 4, 3) := by decide +kernel
theorem dX1_hasCome_119 : decode cX1_hasCome 119 = .ok (.iconst 0, 1) := by decide +kernel
theorem dX1_hasCome_120 : decode cX1_hasCome 120 = .ok (.ireturn, 1) := by decide +kernel
theorem dX1_hasCome_121 : decode cX1_hasCome 121 = .ok (.iconst 0, 1) := by decide +kernel
theorem dX1_hasCome_122 : decode cX1_hasCome 122 = .ok (.ireturn, 1) := by decide +kernel
theorem dX1_noteGot_0 : decode cX1_noteGot 0 = .ok (.iload_n 1, 1) := by decide +kernel
theorem dX1_noteGot_1 : decode cX1_noteGot 1 = .ok (.ifCond .eq 10, 3) := by decide +kernel
theorem dX1_noteGot_4 : decode cX1_noteGot 4 = .ok (.aload_n 0, 1) := by decide +kernel
theorem dX1_noteGot_5 : decode cX1_noteGot 5 = .ok (.getfield 15, 3) := by decide +kernel
theorem dX1_noteGot_8 : decode cX1_noteGot 8 = .ok (.goto 7, 3) := by decide +kernel
theorem dX1_noteGot_11 : decode cX1_noteGot 11 = .ok (.aload_n 0, 1) := by decide +kernel
theorem dX1_noteGot_12 : decode cX1_noteGot 12 = .ok (.getfield 9, 3) := by decide +kernel
theorem dX1_noteGot_15 : decode cX1_noteGot 15 = .ok (.astore_n 2, 1) := by decide +kernel
theorem dX1_noteGot_16 : decode cX1_noteGot 16 = .ok (.aload_n 2, 1) := by decide +kernel
theorem dX1_noteGot_17 : decode cX1_noteGot 17 = .ok (.iconst (-1), 1) := by decide +kernel
theorem dX1_noteGot_18 : decode cX1_noteGot 18 = .ok (.invokestatic 81, 3) := by decide +kernel
theorem dX1_noteGot_21 : decode cX1_noteGot 21 = .ok (.aload_n 0, 1) := by decide +kernel
theorem dX1_noteGot_22 : decode cX1_noteGot 22 = .ok (.getfield 22, 3) := by decide +kernel
theorem dX1_noteGot_25 : decode cX1_noteGot 25 = .ok (.aload_n 0, 1) := by decide +kernel
theorem dX1_noteGot_26 : decode cX1_noteGot 26 = .ok (.getfield 18, 3) := by decide +kernel
theorem dX1_noteGot_29 : decode cX1_noteGot 29 = .ok (.invokevirtual 25, 3) := by decide +kernel
theorem dX1_noteGot_32 : decode cX1_noteGot 32 = .ok (.iconst 1, 1) := by decide +kernel
theorem dX1_noteGot_33 : decode cX1_noteGot 33 = .ok (.istore_n 3, 1) := by decide +kernel
theorem dX1_noteGot_34 : decode cX1_noteGot 34 = .ok (.iload_n 3, 1) := by decide +kernel
theorem dX1_noteGot_35 : decode cX1_noteGot 35 = .ok (.sipush 3000, 3) := by decide +kernel
theorem dX1_noteGot_38 : decode cX1_noteGot 38 = .ok (.if_icmp .gt 68, 3) := by decide +kernel
theorem dX1_noteGot_41 : decode cX1_noteGot 41 = .ok (.aload_n 0, 1) := by decide +kernel
theorem dX1_noteGot_42 : decode cX1_noteGot 42 = .ok (.getfield 22, 3) := by decide +kernel
theorem dX1_noteGot_45 : decode cX1_noteGot 45 = .ok (.iload_n 1, 1) := by decide +kernel
theorem dX1_noteGot_46 : decode cX1_noteGot 46 = .ok (.invokevirtual 35, 3) := by decide +kernel
theorem dX1_noteGot_49 : decode cX1_noteGot 49 = .ok (.aload_n 0, 1) := by decide +kernel
theorem dX1_noteGot_50 : decode cX1_noteGot 50 = .ok (.getfield 22, 3) := by decide +kernel
theorem dX1_noteGot_53 : decode cX1_noteGot 53 = .ok (.getfield 43, 3) := by decide +kernel
theorem dX1_noteGot_56 : decode cX1_noteGot 56 = .ok (.iconst (-1), 1) := by decide +kernel
theorem dX1_noteGot_57 : decode cX1_noteGot 57 = .ok (.if_icmp .ne 7, 3) := by decide +kernel
theorem dX1_noteGot_60 : decode cX1_noteGot 60 = .ok (.iconst (-1), 1) := by decide +kernel
theorem dX1_noteGot_61 : decode cX1_noteGot 61 = .ok (.goto 20, 3) := by decide +kernel
theorem dX1_noteGot_64 : decode cX1_noteGot 64 = .ok (.aload_n 0, 1) := by decide +kernel
theorem dX1_noteGot_65 : decode cX1_noteGot 65 = .ok (.getfield 18, 3) := by decide +kernel
theorem dX1_noteGot_68 : decode cX1_noteGot 68 = .ok (.getfield 87, 3) := by decide +kernel
theorem dX1_noteGot_71 : decode cX1_noteGot 71 = .ok (.aload_n 0, 1) := by decide +kernel
theorem dX1_noteGot_72 : decode cX1_noteGot 72 = .ok (.getfield 22, 3) := by decide +kernel
theorem dX1_noteGot_75 : decode cX1_noteGot 75 = .ok (.getfield 43, 3) := by decide +kernel
theorem dX1_noteGot_78 : decode cX1_noteGot 78 = .ok (.invokevirtual 91, 3) := by decide +kernel
theorem dX1_noteGot_81 : decode cX1_noteGot 81 = .ok (.istore 4, 2) := by decide +kernel
theorem dX1_noteGot_83 : decode cX1_noteGot 83 = .ok (.iload 4, 2) := by decide +kernel
theorem dX1_noteGot_85 : decode cX1_noteGot 85 = .ok (.ifCond .lt 15, 3) := by decide +kernel
theorem dX1_noteGot_88 : decode cX1_noteGot 88 = .ok (.iload 4, 2) := by decide +kernel
theorem dX1_noteGot_90 : decode cX1_noteGot 90 = .ok (.aload_n 2, 1) := by decide +kernel
theorem dX1_noteGot_91 : decode cX1_noteGot 91 = .ok (.arraylength, 1) := by decide +kernel
theorem dX1_noteGot_92 : decode cX1_noteGot 92 = .ok (.if_icmp .ge 8, 3) := by decide +kernel
theorem dX1_noteGot_95 : decode cX1_noteGot 95 = .ok (.aload_n 2, 1) := by decide +kernel
theorem dX1_noteGot_96 : decode cX1_noteGot 96 = .ok (.iload 4, 2) := by decide +kernel
theorem dX1_noteGot_98 : decode cX1_noteGot 98 = .ok (.iload_n 3, 1) := by decide +kernel
theorem dX1_noteGot_99 : decode cX1_noteGot 99 = .ok (.iastore, 1) := by decide +kernel
theorem dX1_noteGot_100 : decode cX1_noteGot 100 = .ok (.iinc 3 1, 3) := by decide +kernel
theorem dX1_noteGot_103 : decode cX1_noteGot 103 = .ok (.goto (-69), 3) := by decide +kernel
theorem dX1_noteGot_106 : decode cX1_noteGot 106 = .ok (.return_, 1) := by decide +kernel
theorem dX1_numberGot_0 : decode cX1_numberGot 0 = .ok (.aload_n 0, 1) := by decide +kernel
theorem dX1_numberGot_1 : decode cX1_numberGot 1 = .ok (.getfield 22, 3) := by decide +kernel
theorem dX1_numberGot_4 : decode cX1_numberGot 4 = .ok (.aload_n 0, 1) := by decide +kernel
theorem dX1_numberGot_5 : decode cX1_numberGot 5 = .ok (.getfield 18, 3) := by decide +kernel
theorem dX1_numberGot_8 : decode cX1_numberGot 8 = .ok (.invokevirtual 25, 3) := by decide +kernel
theorem dX1_numberGot_11 : decode cX1_numberGot 11 = .ok (.iconst 0, 1) := by decide +kernel
theorem dX1_numberGot_12 : decode cX1_numberGot 12 = .ok (.istore_n 3, 1) := by decide +kernel
theorem dX1_numberGot_13 : decode cX1_numberGot 13 = .ok (.iconst 1, 1) := by decide +kernel
theorem dX1_numberGot_14 : decode cX1_numberGot 14 = .ok (.istore 4, 2) := by decide +kernel
theorem dX1_numberGot_16 : decode cX1_numberGot 16 = .ok (.iload 4, 2) := by decide +kernel
theorem dX1_numberGot_18 : decode cX1_numberGot 18 = .ok (.sipush 3000, 3) := by decide +kernel
theorem dX1_numberGot_21 : decode cX1_numberGot 21 = .ok (.if_icmp .gt 44, 3) := by decide +kernel
theorem dX1_numberGot_24 : decode cX1_numberGot 24 = .ok (.aload_n 0, 1) := by decide +kernel
theorem dX1_numberGot_25 : decode cX1_numberGot 25 = .ok (.getfield 22, 3) := by decide +kernel
theorem dX1_numberGot_28 : decode cX1_numberGot 28 = .ok (.iload_n 2, 1) := by decide +kernel
theorem dX1_numberGot_29 : decode cX1_numberGot 29 = .ok (.invokevirtual 35, 3) := by decide +kernel
theorem dX1_numberGot_32 : decode cX1_numberGot 32 = .ok (.aload_n 0, 1) := by decide +kernel
theorem dX1_numberGot_33 : decode cX1_numberGot 33 = .ok (.getfield 22, 3) := by decide +kernel
theorem dX1_numberGot_36 : decode cX1_numberGot 36 = .ok (.getfield 43, 3) := by decide +kernel
theorem dX1_numberGot_39 : decode cX1_numberGot 39 = .ok (.iconst (-1), 1) := by decide +kernel
theorem dX1_numberGot_40 : decode cX1_numberGot 40 = .ok (.if_icmp .eq 19, 3) := by decide +kernel
theorem dX1_numberGot_43 : decode cX1_numberGot 43 = .ok (.iload_n 3, 1) := by decide +kernel
theorem dX1_numberGot_44 : decode cX1_numberGot 44 = .ok (.iload_n 1, 1) := by decide +kernel
theorem dX1_numberGot_45 : decode cX1_numberGot 45 = .ok (.if_icmp .ne 11, 3) := by decide +kernel
theorem dX1_numberGot_48 : decode cX1_numberGot 48 = .ok (.aload_n 0, 1) := by decide +kernel
theorem dX1_numberGot_49 : decode cX1_numberGot 49 = .ok (.getfield 22, 3) := by decide +kernel
theorem dX1_numberGot_52 : decode cX1_numberGot 52 = .ok (.getfield 43, 3) := by decide +kernel
theorem dX1_numberGot_55 : decode cX1_numberGot 55 = .ok (.ireturn, 1) := by decide +kernel
theorem dX1_numberGot_56 : decode cX1_numberGot 56 = .ok (.iinc 3 1, 3) := by decide +kernel
theorem dX1_numberGot_59 : decode cX1_numberGot 59 = .ok (.iinc 4 1, 3) := by decide +kernel
theorem dX1_numberGot_62 : decode cX1_numberGot 62 = .ok (.goto (-46), 3) := by decide +kernel
theorem dX1_numberGot_65 : decode cX1_numberGot 65 = .ok (.iconst (-1), 1) := by decide +kernel
theorem dX1_numberGot_66 : decode cX1_numberGot 66 = .ok (.ireturn, 1) := by decide +kernel
theorem dX1_ticksGained_0 : decode cX1_ticksGained 0 = .ok (.iconst 0, 1) := by decide +kernel
theorem dX1_ticksGained_1 : decode cX1_ticksGained 1 = .ok (.istore_n 1, 1) := by decide +kernel
theorem dX1_ticksGained_2 : decode cX1_ticksGained 2 = .ok (.iconst 0, 1) := by decide +kernel
theorem dX1_ticksGained_3 : decode cX1_ticksGained 3 = .ok (.istore_n 2, 1) := by decide +kernel
theorem dX1_ticksGained_4 : decode cX1_ticksGained 4 = .ok (.iload_n 2, 1) := by decide +kernel
theorem dX1_ticksGained_5 : decode cX1_ticksGained 5 = .ok (.bipush 48, 2) := by decide +kernel
theorem dX1_ticksGained_7 : decode cX1_ticksGained 7 = .ok (.if_icmp .ge 45, 3) := by decide +kernel
theorem dX1_ticksGained_10 : decode cX1_ticksGained 10 = .ok (.aload_n 0, 1) := by decide +kernel
theorem dX1_ticksGained_11 : decode cX1_ticksGained 11 = .ok (.getfield 9, 3) := by decide +kernel
theorem dX1_ticksGained_14 : decode cX1_ticksGained 14 = .ok (.iload_n 2, 1) := by decide +kernel
theorem dX1_ticksGained_15 : decode cX1_ticksGained 15 = .ok (.iaload, 1) := by decide +kernel
theorem dX1_ticksGained_16 : decode cX1_ticksGained 16 = .ok (.iconst (-1), 1) := by decide +kernel
theorem dX1_ticksGained_17 : decode cX1_ticksGained 17 = .ok (.if_icmp .eq 29, 3) := by decide +kernel
theorem dX1_ticksGained_20 : decode cX1_ticksGained 20 = .ok (.aload_n 0, 1) := by decide +kernel
theorem dX1_ticksGained_21 : decode cX1_ticksGained 21 = .ok (.getfield 15, 3) := by decide +kernel
theorem dX1_ticksGained_24 : decode cX1_ticksGained 24 = .ok (.iload_n 2, 1) := by decide +kernel
theorem dX1_ticksGained_25 : decode cX1_ticksGained 25 = .ok (.iaload, 1) := by decide +kernel
theorem dX1_ticksGained_26 : decode cX1_ticksGained 26 = .ok (.iconst (-1), 1) := by decide +kernel
theorem dX1_ticksGained_27 : decode cX1_ticksGained 27 = .ok (.if_icmp .eq 19, 3) := by decide +kernel
theorem dX1_ticksGained_30 : decode cX1_ticksGained 30 = .ok (.iload_n 1, 1) := by decide +kernel
theorem dX1_ticksGained_31 : decode cX1_ticksGained 31 = .ok (.aload_n 0, 1) := by decide +kernel
theorem dX1_ticksGained_32 : decode cX1_ticksGained 32 = .ok (.getfield 15, 3) := by decide +kernel
theorem dX1_ticksGained_35 : decode cX1_ticksGained 35 = .ok (.iload_n 2, 1) := by decide +kernel
theorem dX1_ticksGained_36 : decode cX1_ticksGained 36 = .ok (.iaload, 1) := by decide +kernel
theorem dX1_ticksGained_37 : decode cX1_ticksGained 37 = .ok (.aload_n 0, 1) := by decide +kernel
theorem dX1_ticksGained_38 : decode cX1_ticksGained 38 = .ok (.getfield 9, 3) := by decide +kernel
theorem dX1_ticksGained_41 : decode cX1_ticksGained 41 = .ok (.iload_n 2, 1) := by decide +kernel
theorem dX1_ticksGained_42 : decode cX1_ticksGained 42 = .ok (.iaload, 1) := by decide +kernel
theorem dX1_ticksGained_43 : decode cX1_ticksGained 43 = .ok (.isub, 1) := by decide +kernel
theorem dX1_ticksGained_44 : decode cX1_ticksGained 44 = .ok (.iadd, 1) := by decide +kernel
theorem dX1_ticksGained_45 : decode cX1_ticksGained 45 = .ok (.istore_n 1, 1) := by decide +kernel
theorem dX1_ticksGained_46 : decode cX1_ticksGained 46 = .ok (.iinc 2 1, 3) := by decide +kernel
theorem dX1_ticksGained_49 : decode cX1_ticksGained 49 = .ok (.goto (-45), 3) := by decide +kernel
theorem dX1_ticksGained_52 : decode cX1_ticksGained 52 = .ok (.iload_n 1, 1) := by decide +kernel
theorem dX1_ticksGained_53 : decode cX1_ticksGained 53 = .ok (.ireturn, 1) := by decide +kernel
theorem dX1_ticksTill_0 : decode cX1_ticksTill 0 = .ok (.aload_n 0, 1) := by decide +kernel
theorem dX1_ticksTill_1 : decode cX1_ticksTill 1 = .ok (.getfield 22, 3) := by decide +kernel
theorem dX1_ticksTill_4 : decode cX1_ticksTill 4 = .ok (.aload_n 0, 1) := by decide +kernel
theorem dX1_ticksTill_5 : decode cX1_ticksTill 5 = .ok (.getfield 18, 3) := by decide +kernel
theorem dX1_ticksTill_8 : decode cX1_ticksTill 8 = .ok (.invokevirtual 25, 3) := by decide +kernel
theorem dX1_ticksTill_11 : decode cX1_ticksTill 11 = .ok (.iconst 0, 1) := by decide +kernel
theorem dX1_ticksTill_12 : decode cX1_ticksTill 12 = .ok (.istore 4, 2) := by decide +kernel
theorem dX1_ticksTill_14 : decode cX1_ticksTill 14 = .ok (.iload 4, 2) := by decide +kernel
theorem dX1_ticksTill_16 : decode cX1_ticksTill 16 = .ok (.sipush 3000, 3) := by decide +kernel
theorem dX1_ticksTill_19 : decode cX1_ticksTill 19 = .ok (.if_icmp .gt 29, 3) := by decide +kernel
theorem dX1_ticksTill_22 : decode cX1_ticksTill 22 = .ok (.aload_n 0, 1) := by decide +kernel
theorem dX1_ticksTill_23 : decode cX1_ticksTill 23 = .ok (.iload_n 1, 1) := by decide +kernel
theorem dX1_ticksTill_24 : decode cX1_ticksTill 24 = .ok (.iload_n 2, 1) := by decide +kernel
theorem dX1_ticksTill_25 : decode cX1_ticksTill 25 = .ok (.invokevirtual 31, 3) := by decide +kernel
theorem dX1_ticksTill_28 : decode cX1_ticksTill 28 = .ok (.ifCond .eq 6, 3) := by decide +kernel
theorem dX1_ticksTill_31 : decode cX1_ticksTill 31 = .ok (.iload 4, 2) := by decide +kernel
theorem dX1_ticksTill_33 : decode cX1_ticksTill 33 = .ok (.ireturn, 1) := by decide +kernel
theorem dX1_ticksTill_34 : decode cX1_ticksTill 34 = .ok (.aload_n 0, 1) := by decide +kernel
theorem dX1_ticksTill_35 : decode cX1_ticksTill 35 = .ok (.getfield 22, 3) := by decide +kernel
theorem dX1_ticksTill_38 : decode cX1_ticksTill 38 = .ok (.iload_n 3, 1) := by decide +kernel
theorem dX1_ticksTill_39 : decode cX1_ticksTill 39 = .ok (.invokevirtual 35, 3) := by decide +kernel
theorem dX1_ticksTill_42 : decode cX1_ticksTill 42 = .ok (.iinc 4 1, 3) := by decide +kernel
theorem dX1_ticksTill_45 : decode cX1_ticksTill 45 = .ok (.goto (-31), 3) := by decide +kernel
theorem dX1_ticksTill_48 : decode cX1_ticksTill 48 = .ok (.iconst (-1), 1) := by decide +kernel
theorem dX1_ticksTill_49 : decode cX1_ticksTill 49 = .ok (.ireturn, 1) := by decide +kernel
theorem dX2_append_0 : decode cX2_append 0 = .ok (.aload_n 0, 1) := by decide +kernel
theorem dX2_append_1 : decode cX2_append 1 = .ok (.iload_n 1, 1) := by decide +kernel
theorem dX2_append_2 : decode cX2_append 2 = .ok (.aload_n 0, 1) := by decide +kernel
theorem dX2_append_3 : decode cX2_append 3 = .ok (.iload_n 1, 1) := by decide +kernel
theorem dX2_append_4 : decode cX2_append 4 = .ok (.invokevirtual 39, 3) := by decide +kernel
theorem dX2_append_7 : decode cX2_append 7 = .ok (.invokevirtual 43, 3) := by decide +kernel
theorem dX2_append_10 : decode cX2_append 10 = .ok (.istore 6, 2) := by decide +kernel
theorem dX2_append_12 : decode cX2_append 12 = .ok (.iload_n 1, 1) := by decide +kernel
theorem dX2_append_13 : decode cX2_append 13 = .ok (.ifCond .lt 29, 3) := by decide +kernel
theorem dX2_append_16 : decode cX2_append 16 = .ok (.iload_n 1, 1) := by decide +kernel
theorem dX2_append_17 : decode cX2_append 17 = .ok (.bipush 8, 2) := by decide +kernel
theorem dX2_append_19 : decode cX2_append 19 = .ok (.if_icmp .ge 23, 3) := by decide +kernel
theorem dX2_append_22 : decode cX2_append 22 = .ok (.aload_n 0, 1) := by decide +kernel
theorem dX2_append_23 : decode cX2_append 23 = .ok (.iload_n 1, 1) := by decide +kernel
theorem dX2_append_24 : decode cX2_append 24 = .ok (.invokevirtual 47, 3) := by decide +kernel
theorem dX2_append_27 : decode cX2_append 27 = .ok (.ifCond .ne 15, 3) := by decide +kernel
theorem dX2_append_30 : decode cX2_append 30 = .ok (.iload 6, 2) := by decide +kernel
theorem dX2_append_32 : decode cX2_append 32 = .ok (.ifCond .lt 10, 3) := by decide +kernel
theorem dX2_append_35 : decode cX2_append 35 = .ok (.iload 6, 2) := by decide +kernel
theorem dX2_append_37 : decode cX2_append 37 = .ok (.bipush 48, 2) := by decide +kernel
theorem dX2_append_39 : decode cX2_append 39 = .ok (.if_icmp .lt 4, 3) := by decide +kernel
theorem dX2_append_42 : decode cX2_append 42 = .ok (.return_, 1) := by decide +kernel
theorem dX2_append_43 : decode cX2_append 43 = .ok (.aload_n 0, 1) := by decide +kernel
theorem dX2_append_44 : decode cX2_append 44 = .ok (.getfield 9, 3) := by decide +kernel
theorem dX2_append_47 : decode cX2_append 47 = .ok (.iload 6, 2) := by decide +kernel
theorem dX2_append_49 : decode cX2_append 49 = .ok (.iload_n 2, 1) := by decide +kernel
theorem dX2_append_50 : decode cX2_append 50 = .ok (.iastore, 1) := by decide +kernel
theorem dX2_append_51 : decode cX2_append 51 = .ok (.aload_n 0, 1) := by decide +kernel
theorem dX2_append_52 : decode cX2_append 52 = .ok (.getfield 15, 3) := by decide +kernel
theorem dX2_append_55 : decode cX2_append 55 = .ok (.iload 6, 2) := by decide +kernel
theorem dX2_append_57 : decode cX2_append 57 = .ok (.iload_n 3, 1) := by decide +kernel
theorem dX2_append_58 : decode cX2_append 58 = .ok (.iastore, 1) := by decide +kernel
theorem dX2_append_59 : decode cX2_append 59 = .ok (.aload_n 0, 1) := by decide +kernel
theorem dX2_append_60 : decode cX2_append 60 = .ok (.getfield 18, 3) := by decide +kernel
theorem dX2_append_63 : decode cX2_append 63 = .ok (.iload 6, 2) := by decide +kernel
theorem dX2_append_65 : decode cX2_append 65 = .ok (.iload 4, 2) := by decide +kernel
theorem dX2_append_67 : decode cX2_append 67 = .ok (.iastore, 1) := by decide +kernel
theorem dX2_append_68 : decode cX2_append 68 = .ok (.aload_n 0, 1) := by decide +kernel
theorem dX2_append_69 : decode cX2_append 69 = .ok (.getfield 21, 3) := by decide +kernel
theorem dX2_append_72 : decode cX2_append 72 = .ok (.iload 6, 2) := by decide +kernel
theorem dX2_append_74 : decode cX2_append 74 = .ok (.iload 5, 2) := by decide +kernel
theorem dX2_append_76 : decode cX2_append 76 = .ok (.iastore, 1) := by decide +kernel
theorem dX2_append_77 : decode cX2_append 77 = .ok (.aload_n 0, 1) := by decide +kernel
theorem dX2_append_78 : decode cX2_append 78 = .ok (.getfield 24, 3) := by decide +kernel
theorem dX2_append_81 : decode cX2_append 81 = .ok (.iload_n 1, 1) := by decide +kernel
theorem dX2_append_82 : decode cX2_append 82 = .ok (.dup2, 1) := by decide +kernel
theorem dX2_append_83 : decode cX2_append 83 = .ok (.iaload, 1) := by decide +kernel
theorem dX2_append_84 : decode cX2_append 84 = .ok (.iconst 1, 1) := by decide +kernel
theorem dX2_append_85 : decode cX2_append 85 = .ok (.iadd, 1) := by decide +kernel
theorem dX2_append_86 : decode cX2_append 86 = .ok (.iastore, 1) := by decide +kernel
theorem dX2_append_87 : decode cX2_append 87 = .ok (.return_, 1) := by decide +kernel
theorem dX2_birthIn_0 : decode cX2_birthIn 0 = .ok (.iload_n 1, 1) := by decide +kernel
theorem dX2_birthIn_1 : decode cX2_birthIn 1 = .ok (.ifCond .lt 18, 3) := by decide +kernel
theorem dX2_birthIn_4 : decode cX2_birthIn 4 = .ok (.iload_n 1, 1) := by decide +kernel
theorem dX2_birthIn_5 : decode cX2_birthIn 5 = .ok (.bipush 48, 2) := by decide +kernel
theorem dX2_birthIn_7 : decode cX2_birthIn 7 = .ok (.if_icmp .ge 12, 3) := by decide +kernel
theorem dX2_birthIn_10 : decode cX2_birthIn 10 = .ok (.aload_n 0, 1) := by decide +kernel
theorem dX2_birthIn_11 : decode cX2_birthIn 11 = .ok (.getfield 21, 3) := by decide +kernel
theorem dX2_birthIn_14 : decode cX2_birthIn 14 = .ok (.iload_n 1, 1) := by decide +kernel
theorem dX2_birthIn_15 : decode cX2_birthIn 15 = .ok (.iaload, 1) := by decide +kernel
theorem dX2_birthIn_16 : decode cX2_birthIn 16 = .ok (.goto 4, 3) := by decide +kernel
theorem dX2_birthIn_19 : decode cX2_birthIn 19 = .ok (.iconst (-1), 1) := by decide +kernel
theorem dX2_birthIn_20 : decode cX2_birthIn 20 = .ok (.ireturn, 1) := by decide +kernel
theorem dX2_clear_0 : decode cX2_clear 0 = .ok (.aload_n 0, 1) := by decide +kernel
theorem dX2_clear_1 : decode cX2_clear 1 = .ok (.getfield 24, 3) := by decide +kernel
theorem dX2_clear_4 : decode cX2_clear 4 = .ok (.iconst 0, 1) := by decide +kernel
theorem dX2_clear_5 : decode cX2_clear 5 = .ok (.invokestatic 27, 3) := by decide +kernel
theorem dX2_clear_8 : decode cX2_clear 8 = .ok (.return_, 1) := by decide +kernel
theorem dX2_copyFrom_0 : decode cX2_copyFrom 0 = .ok (.aload_n 1, 1) := by decide +kernel
theorem dX2_copyFrom_1 : decode cX2_copyFrom 1 = .ok (.getfield 9, 3) := by decide +kernel
theorem dX2_copyFrom_4 : decode cX2_copyFrom 4 = .ok (.iconst 0, 1) := by decide +kernel
theorem dX2_copyFrom_5 : decode cX2_copyFrom 5 = .ok (.aload_n 0, 1) := by decide +kernel
theorem dX2_copyFrom_6 : decode cX2_copyFrom 6 = .ok (.getfield 9, 3) := by decide +kernel
theorem dX2_copyFrom_9 : decode cX2_copyFrom 9 = .ok (.iconst 0, 1) := by decide +kernel
theorem dX2_copyFrom_10 : decode cX2_copyFrom 10 = .ok (.bipush 48, 2) := by decide +kernel
theorem dX2_copyFrom_12 : decode cX2_copyFrom 12 = .ok (.invokestatic 33, 3) := by decide +kernel
theorem dX2_copyFrom_15 : decode cX2_copyFrom 15 = .ok (.aload_n 1, 1) := by decide +kernel
theorem dX2_copyFrom_16 : decode cX2_copyFrom 16 = .ok (.getfield 15, 3) := by decide +kernel
theorem dX2_copyFrom_19 : decode cX2_copyFrom 19 = .ok (.iconst 0, 1) := by decide +kernel
theorem dX2_copyFrom_20 : decode cX2_copyFrom 20 = .ok (.aload_n 0, 1) := by decide +kernel
theorem dX2_copyFrom_21 : decode cX2_copyFrom 21 = .ok (.getfield 15, 3) := by decide +kernel
theorem dX2_copyFrom_24 : decode cX2_copyFrom 24 = .ok (.iconst 0, 1) := by decide +kernel
theorem dX2_copyFrom_25 : decode cX2_copyFrom 25 = .ok (.bipush 48, 2) := by decide +kernel
theorem dX2_copyFrom_27 : decode cX2_copyFrom 27 = .ok (.invokestatic 33, 3) := by decide +kernel
theorem dX2_copyFrom_30 : decode cX2_copyFrom 30 = .ok (.aload_n 1, 1) := by decide +kernel
theorem dX2_copyFrom_31 : decode cX2_copyFrom 31 = .ok (.getfield 18, 3) := by decide +kernel
theorem dX2_copyFrom_34 : decode cX2_copyFrom 34 = .ok (.iconst 0, 1) := by decide +kernel
theorem dX2_copyFrom_35 : decode cX2_copyFrom 35 = .ok (.aload_n 0, 1) := by decide +kernel
theorem dX2_copyFrom_36 : decode cX2_copyFrom 36 = .ok (.getfield 18, 3) := by decide +kernel
theorem dX2_copyFrom_39 : decode cX2_copyFrom 39 = .ok (.iconst 0, 1) := by decide +kernel
theorem dX2_copyFrom_40 : decode cX2_copyFrom 40 = .ok (.bipush 48, 2) := by decide +kernel
theorem dX2_copyFrom_42 : decode cX2_copyFrom 42 = .ok (.invokestatic 33, 3) := by decide +kernel
theorem dX2_copyFrom_45 : decode cX2_copyFrom 45 = .ok (.aload_n 1, 1) := by decide +kernel
theorem dX2_copyFrom_46 : decode cX2_copyFrom 46 = .ok (.getfield 21, 3) := by decide +kernel
theorem dX2_copyFrom_49 : decode cX2_copyFrom 49 = .ok (.iconst 0, 1) := by decide +kernel
theorem dX2_copyFrom_50 : decode cX2_copyFrom 50 = .ok (.aload_n 0, 1) := by decide +kernel
theorem dX2_copyFrom_51 : decode cX2_copyFrom 51 = .ok (.getfield 21, 3) := by decide +kernel
theorem dX2_copyFrom_54 : decode cX2_copyFrom 54 = .ok (.iconst 0, 1) := by decide +kernel
theorem dX2_copyFrom_55 : decode cX2_copyFrom 55 = .ok (.bipush 48, 2) := by decide +kernel
theorem dX2_copyFrom_57 : decode cX2_copyFrom 57 = .ok (.invokestatic 33, 3) := by decide +kernel
theorem dX2_copyFrom_60 : decode cX2_copyFrom 60 = .ok (.aload_n 1, 1) := by decide +kernel
theorem dX2_copyFrom_61 : decode cX2_copyFrom 61 = .ok (.getfield 24, 3) := by decide +kernel
theorem dX2_copyFrom_64 : decode cX2_copyFrom 64 = .ok (.iconst 0, 1) := by decide +kernel
theorem dX2_copyFrom_65 : decode cX2_copyFrom 65 = .ok (.aload_n 0, 1) := by decide +kernel
theorem dX2_copyFrom_66 : decode cX2_copyFrom 66 = .ok (.getfield 24, 3) := by decide +kernel
theorem dX2_copyFrom_69 : decode cX2_copyFrom 69 = .ok (.iconst 0, 1) := by decide +kernel
theorem dX2_copyFrom_70 : decode cX2_copyFrom 70 = .ok (.bipush 8, 2) := by decide +kernel
theorem dX2_copyFrom_72 : decode cX2_copyFrom 72 = .ok (.invokestatic 33, 3) := by decide +kernel
theorem dX2_copyFrom_75 : decode cX2_copyFrom 75 = .ok (.return_, 1) := by decide +kernel
theorem dX2_firstRank_0 : decode cX2_firstRank 0 = .ok (.aload_n 0, 1) := by decide +kernel
theorem dX2_firstRank_1 : decode cX2_firstRank 1 = .ok (.aload_n 0, 1) := by decide +kernel
theorem dX2_firstRank_2 : decode cX2_firstRank 2 = .ok (.iload_n 1, 1) := by decide +kernel
theorem dX2_firstRank_3 : decode cX2_firstRank 3 = .ok (.invokevirtual 54, 3) := by decide +kernel
theorem dX2_firstRank_6 : decode cX2_firstRank 6 = .ok (.invokevirtual 51, 3) := by decide +kernel
theorem dX2_firstRank_9 : decode cX2_firstRank 9 = .ok (.ireturn, 1) := by decide +kernel
theorem dX2_firstSlot_0 : decode cX2_firstSlot 0 = .ok (.iconst (-1), 1) := by decide +kernel
theorem dX2_firstSlot_1 : decode cX2_firstSlot 1 = .ok (.istore_n 2, 1) := by decide +kernel
theorem dX2_firstSlot_2 : decode cX2_firstSlot 2 = .ok (.iconst (-1), 1) := by decide +kernel
theorem dX2_firstSlot_3 : decode cX2_firstSlot 3 = .ok (.istore_n 3, 1) := by decide +kernel
theorem dX2_firstSlot_4 : decode cX2_firstSlot 4 = .ok (.iconst 0, 1) := by decide +kernel
theorem dX2_firstSlot_5 : decode cX2_firstSlot 5 = .ok (.istore 4, 2) := by decide +kernel
theorem dX2_firstSlot_7 : decode cX2_firstSlot 7 = .ok (.iload 4, 2) := by decide +kernel
theorem dX2_firstSlot_9 : decode cX2_firstSlot 9 = .ok (.aload_n 0, 1) := by decide +kernel
theorem dX2_firstSlot_10 : decode cX2_firstSlot 10 = .ok (.iload_n 1, 1) := by decide +kernel
theorem dX2_firstSlot_11 : decode cX2_firstSlot 11 = .ok (.invokevirtual 39, 3) := by decide +kernel
theorem dX2_firstSlot_14 : decode cX2_firstSlot 14 = .ok (.if_icmp .ge 39, 3) := by decide +kernel
theorem dX2_firstSlot_17 : decode cX2_firstSlot 17 = .ok (.aload_n 0, 1) := by decide +kernel
theorem dX2_firstSlot_18 : decode cX2_firstSlot 18 = .ok (.aload_n 0, 1) := by decide +kernel
theorem dX2_firstSlot_19 : decode cX2_firstSlot 19 = .ok (.iload_n 1, 1) := by decide +kernel
theorem dX2_firstSlot_20 : decode cX2_firstSlot 20 = .ok (.iload 4, 2) := by decide +kernel
theorem dX2_firstSlot_22 : decode cX2_firstSlot 22 = .ok (.invokevirtual 43, 3) := by decide +kernel
theorem dX2_firstSlot_25 : decode cX2_firstSlot 25 = .ok (.invokevirtual 51, 3) := by decide +kernel
theorem dX2_firstSlot_28 : decode cX2_firstSlot 28 = .ok (.istore 5, 2) := by decide +kernel
theorem dX2_firstSlot_30 : decode cX2_firstSlot 30 = .ok (.iload 5, 2) := by decide +kernel
theorem dX2_firstSlot_32 : decode cX2_firstSlot 32 = .ok (.iload_n 3, 1) := by decide +kernel
theorem dX2_firstSlot_33 : decode cX2_firstSlot 33 = .ok (.if_icmp .le 14, 3) := by decide +kernel
theorem dX2_firstSlot_36 : decode cX2_firstSlot 36 = .ok (.aload_n 0, 1) := by decide +kernel
theorem dX2_firstSlot_37 : decode cX2_firstSlot 37 = .ok (.iload_n 1, 1) := by decide +kernel
theorem dX2_firstSlot_38 : decode cX2_firstSlot 38 = .ok (.iload 4, 2) := by decide +kernel
theorem dX2_firstSlot_40 : decode cX2_firstSlot 40 = .ok (.invokevirtual 43, 3) := by decide +kernel
theorem dX2_firstSlot_43 : decode cX2_firstSlot 43 = .ok (.istore_n 2, 1) := by decide +kernel
theorem dX2_firstSlot_44 : decode cX2_firstSlot 44 = .ok (.iload 5, 2) := by decide +kernel
theorem dX2_firstSlot_46 : decode cX2_firstSlot 46 = .ok (.istore_n 3, 1) := by decide +kernel
theorem dX2_firstSlot_47 : decode cX2_firstSlot 47 = .ok (.iinc 4 1, 3) := by decide +kernel
theorem dX2_firstSlot_50 : decode cX2_firstSlot 50 = .ok (.goto (-43), 3) := by decide +kernel
theorem dX2_firstSlot_53 : decode cX2_firstSlot 53 = .ok (.iload_n 2, 1) := by decide +kernel
theorem dX2_firstSlot_54 : decode cX2_firstSlot 54 = .ok (.ireturn, 1) := by decide +kernel
theorem dX2_isFull_0 : decode cX2_isFull 0 = .ok (.aload_n 0, 1) := by decide +kernel
theorem dX2_isFull_1 : decode cX2_isFull 1 = .ok (.iload_n 1, 1) := by decide +kernel
theorem dX2_isFull_2 : decode cX2_isFull 2 = .ok (.invokevirtual 39, 3) := by decide +kernel
theorem dX2_isFull_5 : decode cX2_isFull 5 = .ok (.bipush 6, 2) := by decide +kernel
theorem dX2_isFull_7 : decode cX2_isFull 7 = .ok (.if_icmp .lt 7, 3) := by decide +kernel
theorem dX2_isFull_10 : decode cX2_isFull 10 = .ok (.iconst 1, 1) := by decide +kernel
theorem dX2_isFull_11 : decode cX2_isFull 11 = .ok (.goto 4, 3) := by decide +kernel
theorem dX2_isFull_14 : decode cX2_isFull 14 = .ok (.iconst 0, 1) := by decide +kernel
theorem dX2_isFull_15 : decode cX2_isFull 15 = .ok (.ireturn, 1) := by decide +kernel
theorem dX2_moveSlot_0 : decode cX2_moveSlot 0 = .ok (.iload_n 1, 1) := by decide +kernel
theorem dX2_moveSlot_1 : decode cX2_moveSlot 1 = .ok (.ifCond .lt 67, 3) := by decide +kernel
theorem dX2_moveSlot_4 : decode cX2_moveSlot 4 = .ok (.iload_n 1, 1) := by decide +kernel
theorem dX2_moveSlot_5 : decode cX2_moveSlot 5 = .ok (.bipush 48, 2) := by decide +kernel
theorem dX2_moveSlot_7 : decode cX2_moveSlot 7 = .ok (.if_icmp .ge 61, 3) := by decide +kernel
theorem dX2_moveSlot_10 : decode cX2_moveSlot 10 = .ok (.iload_n 2, 1) := by decide +kernel
theorem dX2_moveSlot_11 : decode cX2_moveSlot 11 = .ok (.ifCond .lt 57, 3) := by decide +kernel
theorem dX2_moveSlot_14 : decode cX2_moveSlot 14 = .ok (.iload_n 2, 1) := by decide +kernel
theorem dX2_moveSlot_15 : decode cX2_moveSlot 15 = .ok (.bipush 48, 2) := by decide +kernel
theorem dX2_moveSlot_17 : decode cX2_moveSlot 17 = .ok (.if_icmp .ge 51, 3) := by decide +kernel
theorem dX2_moveSlot_20 : decode cX2_moveSlot 20 = .ok (.aload_n 0, 1) := by decide +kernel
theorem dX2_moveSlot_21 : decode cX2_moveSlot 21 = .ok (.getfield 9, 3) := by decide +kernel
theorem dX2_moveSlot_24 : decode cX2_moveSlot 24 = .ok (.iload_n 2, 1) := by decide +kernel
theorem dX2_moveSlot_25 : decode cX2_moveSlot 25 = .ok (.aload_n 0, 1) := by decide +kernel
theorem dX2_moveSlot_26 : decode cX2_moveSlot 26 = .ok (.getfield 9, 3) := by decide +kernel
theorem dX2_moveSlot_29 : decode cX2_moveSlot 29 = .ok (.iload_n 1, 1) := by decide +kernel
theorem dX2_moveSlot_30 : decode cX2_moveSlot 30 = .ok (.iaload, 1) := by decide +kernel
theorem dX2_moveSlot_31 : decode cX2_moveSlot 31 = .ok (.iastore, 1) := by decide +kernel
theorem dX2_moveSlot_32 : decode cX2_moveSlot 32 = .ok (.aload_n 0, 1) := by decide +kernel
theorem dX2_moveSlot_33 : decode cX2_moveSlot 33 = .ok (.getfield 15, 3) := by decide +kernel
theorem dX2_moveSlot_36 : decode cX2_moveSlot 36 = .ok (.iload_n 2, 1) := by decide +kernel
theorem dX2_moveSlot_37 : decode cX2_moveSlot 37 = .ok (.aload_n 0, 1) := by decide +kernel
theorem dX2_moveSlot_38 : decode cX2_moveSlot 38 = .ok (.getfield 15, 3) := by decide +kernel
theorem dX2_moveSlot_41 : decode cX2_moveSlot 41 = .ok (.iload_n 1, 1) := by decide +kernel
theorem dX2_moveSlot_42 : decode cX2_moveSlot 42 = .ok (.iaload, 1) := by decide +kernel
theorem dX2_moveSlot_43 : decode cX2_moveSlot 43 = .ok (.iastore, 1) := by decide +kernel
theorem dX2_moveSlot_44 : decode cX2_moveSlot 44 = .ok (.aload_n 0, 1) := by decide +kernel
theorem dX2_moveSlot_45 : decode cX2_moveSlot 45 = .ok (.getfield 18, 3) := by decide +kernel
theorem dX2_moveSlot_48 : decode cX2_moveSlot 48 = .ok (.iload_n 2, 1) := by decide +kernel
theorem dX2_moveSlot_49 : decode cX2_moveSlot 49 = .ok (.aload_n 0, 1) := by decide +kernel
theorem dX2_moveSlot_50 : decode cX2_moveSlot 50 = .ok (.getfield 18, 3) := by decide +kernel
theorem dX2_moveSlot_53 : decode cX2_moveSlot 53 = .ok (.iload_n 1, 1) := by decide +kernel
theorem dX2_moveSlot_54 : decode cX2_moveSlot 54 = .ok (.iaload, 1) := by decide +kernel
theorem dX2_moveSlot_55 : decode cX2_moveSlot 55 = .ok (.iastore, 1) := by decide +kernel
theorem dX2_moveSlot_56 : decode cX2_moveSlot 56 = .ok (.aload_n 0, 1) := by decide +kernel
theorem dX2_moveSlot_57 : decode cX2_moveSlot 57 = .ok (.getfield 21, 3) := by decide +kernel
theorem dX2_moveSlot_60 : decode cX2_moveSlot 60 = .ok (.iload_n 2, 1) := by decide +kernel
theorem dX2_moveSlot_61 : decode cX2_moveSlot 61 = .ok (.aload_n 0, 1) := by decide +kernel
theorem dX2_moveSlot_62 : decode cX2_moveSlot 62 = .ok (.getfield 21, 3) := by decide +kernel
theorem dX2_moveSlot_65 : decode cX2_moveSlot 65 = .ok (.iload_n 1, 1) := by decide +kernel
theorem dX2_moveSlot_66 : decode cX2_moveSlot 66 = .ok (.iaload, 1) := by decide +kernel
theorem dX2_moveSlot_67 : decode cX2_moveSlot 67 = .ok (.iastore, 1) := by decide +kernel
theorem dX2_moveSlot_68 : decode cX2_moveSlot 68 = .ok (.return_, 1) := by decide +kernel
theorem dX2_numberIn_0 : decode cX2_numberIn 0 = .ok (.iload_n 1, 1) := by decide +kernel
theorem dX2_numberIn_1 : decode cX2_numberIn 1 = .ok (.ifCond .lt 18, 3) := by decide +kernel
theorem dX2_numberIn_4 : decode cX2_numberIn 4 = .ok (.iload_n 1, 1) := by decide +kernel
theorem dX2_numberIn_5 : decode cX2_numberIn 5 = .ok (.bipush 48, 2) := by decide +kernel
theorem dX2_numberIn_7 : decode cX2_numberIn 7 = .ok (.if_icmp .ge 12, 3) := by decide +kernel
theorem dX2_numberIn_10 : decode cX2_numberIn 10 = .ok (.aload_n 0, 1) := by decide +kernel
theorem dX2_numberIn_11 : decode cX2_numberIn 11 = .ok (.getfield 9, 3) := by decide +kernel
theorem dX2_numberIn_14 : decode cX2_numberIn 14 = .ok (.iload_n 1, 1) := by decide +kernel
theorem dX2_numberIn_15 : decode cX2_numberIn 15 = .ok (.iaload, 1) := by decide +kernel
theorem dX2_numberIn_16 : decode cX2_numberIn 16 = .ok (.goto 4, 3) := by decide +kernel
theorem dX2_numberIn_19 : decode cX2_numberIn 19 = .ok (.iconst (-1), 1) := by decide +kernel
theorem dX2_numberIn_20 : decode cX2_numberIn 20 = .ok (.ireturn, 1) := by decide +kernel
theorem dX2_rankIn_0 : decode cX2_rankIn 0 = .ok (.iload_n 1, 1) := by decide +kernel
theorem dX2_rankIn_1 : decode cX2_rankIn 1 = .ok (.ifCond .lt 18, 3) := by decide +kernel
theorem dX2_rankIn_4 : decode cX2_rankIn 4 = .ok (.iload_n 1, 1) := by decide +kernel
theorem dX2_rankIn_5 : decode cX2_rankIn 5 = .ok (.bipush 48, 2) := by decide +kernel
theorem dX2_rankIn_7 : decode cX2_rankIn 7 = .ok (.if_icmp .ge 12, 3) := by decide +kernel
theorem dX2_rankIn_10 : decode cX2_rankIn 10 = .ok (.aload_n 0, 1) := by decide +kernel
theorem dX2_rankIn_11 : decode cX2_rankIn 11 = .ok (.getfield 18, 3) := by decide +kernel
theorem dX2_rankIn_14 : decode cX2_rankIn 14 = .ok (.iload_n 1, 1) := by decide +kernel
theorem dX2_rankIn_15 : decode cX2_rankIn 15 = .ok (.iaload, 1) := by decide +kernel
theorem dX2_rankIn_16 : decode cX2_rankIn 16 = .ok (.goto 4, 3) := by decide +kernel
theorem dX2_rankIn_19 : decode cX2_rankIn 19 = .ok (.iconst (-1), 1) := by decide +kernel
theorem dX2_rankIn_20 : decode cX2_rankIn 20 = .ok (.ireturn, 1) := by decide +kernel
theorem dX2_removeBelow_0 : decode cX2_removeBelow 0 = .ok (.aload_n 0, 1) := by decide +kernel
theorem dX2_removeBelow_1 : decode cX2_removeBelow 1 = .ok (.iload_n 1, 1) := by decide +kernel
theorem dX2_removeBelow_2 : decode cX2_removeBelow 2 = .ok (.invokevirtual 39, 3) := by decide +kernel
theorem dX2_removeBelow_5 : decode cX2_removeBelow 5 = .ok (.istore_n 3, 1) := by decide +kernel
theorem dX2_removeBelow_6 : decode cX2_removeBelow 6 = .ok (.iconst 0, 1) := by decide +kernel
theorem dX2_removeBelow_7 : decode cX2_removeBelow 7 = .ok (.istore 4, 2) := by decide +kernel
theorem dX2_removeBelow_9 : decode cX2_removeBelow 9 = .ok (.iconst 0, 1) := by decide +kernel
theorem dX2_removeBelow_10 : decode cX2_removeBelow 10 = .ok (.istore 5, 2) := by decide +kernel
theorem dX2_removeBelow_12 : decode cX2_removeBelow 12 = .ok (.iload 5, 2) := by decide +kernel
theorem dX2_removeBelow_14 : decode cX2_removeBelow 14 = .ok (.iload_n 3, 1) := by decide +kernel
theorem dX2_removeBelow_15 : decode cX2_removeBelow 15 = .ok (.if_icmp .ge 45, 3) := by decide +kernel
theorem dX2_removeBelow_18 : decode cX2_removeBelow 18 = .ok (.aload_n 0, 1) := by decide +kernel
theorem dX2_removeBelow_19 : decode cX2_removeBelow 19 = .ok (.aload_n 0, 1) := by decide +kernel
theorem dX2_removeBelow_20 : decode cX2_removeBelow 20 = .ok (.iload_n 1, 1) := by decide +kernel
theorem dX2_removeBelow_21 : decode cX2_removeBelow 21 = .ok (.iload 5, 2) := by decide +kernel
theorem dX2_removeBelow_23 : decode cX2_removeBelow 23 = .ok (.invokevirtual 43, 3) := by decide +kernel
theorem dX2_removeBelow_26 : decode cX2_removeBelow 26 = .ok (.invokevirtual 51, 3) := by decide +kernel
theorem dX2_removeBelow_29 : decode cX2_removeBelow 29 = .ok (.iload_n 2, 1) := by decide +kernel
theorem dX2_removeBelow_30 : decode cX2_removeBelow 30 = .ok (.if_icmp .lt 24, 3) := by decide +kernel
theorem dX2_removeBelow_33 : decode cX2_removeBelow 33 = .ok (.aload_n 0, 1) := by decide +kernel
theorem dX2_removeBelow_34 : decode cX2_removeBelow 34 = .ok (.aload_n 0, 1) := by decide +kernel
theorem dX2_removeBelow_35 : decode cX2_removeBelow 35 = .ok (.iload_n 1, 1) := by decide +kernel
theorem dX2_removeBelow_36 : decode cX2_removeBelow 36 = .ok (.iload 5, 2) := by decide +kernel
theorem dX2_removeBelow_38 : decode cX2_removeBelow 38 = .ok (.invokevirtual 43, 3) := by decide +kernel
theorem dX2_removeBelow_41 : decode cX2_removeBelow 41 = .ok (.aload_n 0, 1) := by decide +kernel
theorem dX2_removeBelow_42 : decode cX2_removeBelow 42 = .ok (.iload_n 1, 1) := by decide +kernel
theorem dX2_removeBelow_43 : decode cX2_removeBelow 43 = .ok (.iload 4, 2) := by decide +kernel
theorem dX2_removeBelow_45 : decode cX2_removeBelow 45 = .ok (.invokevirtual 43, 3) := by decide +kernel
theorem dX2_removeBelow_48 : decode cX2_removeBelow 48 = .ok (.invokevirtual 60, 3) := by decide +kernel
theorem dX2_removeBelow_51 : decode cX2_removeBelow 51 = .ok (.iinc 4 1, 3) := by decide +kernel
theorem dX2_removeBelow_54 : decode cX2_removeBelow 54 = .ok (.iinc 5 1, 3) := by decide +kernel
theorem dX2_removeBelow_57 : decode cX2_removeBelow 57 = .ok (.goto (-45), 3) := by decide +kernel
theorem dX2_removeBelow_60 : decode cX2_removeBelow 60 = .ok (.iload_n 1, 1) := by decide +kernel
theorem dX2_removeBelow_61 : decode cX2_removeBelow 61 = .ok (.ifCond .lt 17, 3) := by decide +kernel
theorem dX2_removeBelow_64 : decode cX2_removeBelow 64 = .ok (.iload_n 1, 1) := by decide +kernel
theorem dX2_removeBelow_65 : decode cX2_removeBelow 65 = .ok (.bipush 8, 2) := by decide +kernel
theorem dX2_removeBelow_67 : decode cX2_removeBelow 67 = .ok (.if_icmp .ge 11, 3) := by decide +kernel
theorem dX2_removeBelow_70 : decode cX2_removeBelow 70 = .ok (.aload_n 0, 1) := by decide +kernel
theorem dX2_removeBelow_71 : decode cX2_removeBelow 71 = .ok (.getfield 24, 3) := by decide +kernel
theorem dX2_removeBelow_74 : decode cX2_removeBelow 74 = .ok (.iload_n 1, 1) := by decide +kernel
theorem dX2_removeBelow_75 : decode cX2_removeBelow 75 = .ok (.iload 4, 2) := by decide +kernel
theorem dX2_removeBelow_77 : decode cX2_removeBelow 77 = .ok (.iastore, 1) := by decide +kernel
theorem dX2_removeBelow_78 : decode cX2_removeBelow 78 = .ok (.iload_n 3, 1) := by decide +kernel
theorem dX2_removeBelow_79 : decode cX2_removeBelow 79 = .ok (.iload 4, 2) := by decide +kernel
theorem dX2_removeBelow_81 : decode cX2_removeBelow 81 = .ok (.isub, 1) := by decide +kernel
theorem dX2_removeBelow_82 : decode cX2_removeBelow 82 = .ok (.ireturn, 1) := by decide +kernel
theorem dX2_removeSlot_0 : decode cX2_removeSlot 0 = .ok (.iload_n 1, 1) := by decide +kernel
theorem dX2_removeSlot_1 : decode cX2_removeSlot 1 = .ok (.ifCond .lt 9, 3) := by decide +kernel
theorem dX2_removeSlot_4 : decode cX2_removeSlot 4 = .ok (.iload_n 1, 1) := by decide +kernel
theorem dX2_removeSlot_5 : decode cX2_removeSlot 5 = .ok (.bipush 48, 2) := by decide +kernel
theorem dX2_removeSlot_7 : decode cX2_removeSlot 7 = .ok (.if_icmp .lt 4, 3) := by decide +kernel
theorem dX2_removeSlot_10 : decode cX2_removeSlot 10 = .ok (.return_, 1) := by decide +kernel
theorem dX2_removeSlot_11 : decode cX2_removeSlot 11 = .ok (.iload_n 1, 1) := by decide +kernel
theorem dX2_removeSlot_12 : decode cX2_removeSlot 12 = .ok (.bipush 6, 2) := by decide +kernel
theorem dX2_removeSlot_14 : decode cX2_removeSlot 14 = .ok (.idiv, 1) := by decide +kernel
theorem dX2_removeSlot_15 : decode cX2_removeSlot 15 = .ok (.istore_n 2, 1) := by decide +kernel
theorem dX2_removeSlot_16 : decode cX2_removeSlot 16 = .ok (.aload_n 0, 1) := by decide +kernel
theorem dX2_removeSlot_17 : decode cX2_removeSlot 17 = .ok (.iload_n 2, 1) := by decide +kernel
theorem dX2_removeSlot_18 : decode cX2_removeSlot 18 = .ok (.aload_n 0, 1) := by decide +kernel
theorem dX2_removeSlot_19 : decode cX2_removeSlot 19 = .ok (.iload_n 2, 1) := by decide +kernel
theorem dX2_removeSlot_20 : decode cX2_removeSlot 20 = .ok (.invokevirtual 39, 3) := by decide +kernel
theorem dX2_removeSlot_23 : decode cX2_removeSlot 23 = .ok (.invokevirtual 43, 3) := by decide +kernel
theorem dX2_removeSlot_26 : decode cX2_removeSlot 26 = .ok (.istore_n 3, 1) := by decide +kernel
theorem dX2_removeSlot_27 : decode cX2_removeSlot 27 = .ok (.iload_n 1, 1) := by decide +kernel
theorem dX2_removeSlot_28 : decode cX2_removeSlot 28 = .ok (.iload_n 3, 1) := by decide +kernel
theorem dX2_removeSlot_29 : decode cX2_removeSlot 29 = .ok (.if_icmp .lt 4, 3) := by decide +kernel
theorem dX2_removeSlot_32 : decode cX2_removeSlot 32 = .ok (.return_, 1) := by decide +kernel
theorem dX2_removeSlot_33 : decode cX2_removeSlot 33 = .ok (.iload_n 1, 1) := by decide +kernel
theorem dX2_removeSlot_34 : decode cX2_removeSlot 34 = .ok (.iconst 1, 1) := by decide +kernel
theorem dX2_removeSlot_35 : decode cX2_removeSlot 35 = .ok (.iadd, 1) := by decide +kernel
theorem dX2_removeSlot_36 : decode cX2_removeSlot 36 = .ok (.istore 4, 2) := by decide +kernel
theorem dX2_removeSlot_38 : decode cX2_removeSlot 38 = .ok (.iload 4, 2) := by decide +kernel
theorem dX2_removeSlot_40 : decode cX2_removeSlot 40 = .ok (.iload_n 3, 1) := by decide +kernel
theorem dX2_removeSlot_41 : decode cX2_removeSlot 41 = .ok (.if_icmp .ge 19, 3) := by decide +kernel
theorem dX2_removeSlot_44 : decode cX2_removeSlot 44 = .ok (.aload_n 0, 1) := by decide +kernel
theorem dX2_removeSlot_45 : decode cX2_removeSlot 45 = .ok (.iload 4, 2) := by decide +kernel
theorem dX2_removeSlot_47 : decode cX2_removeSlot 47 = .ok (.iload 4, 2) := by decide +kernel
theorem dX2_removeSlot_49 : decode cX2_removeSlot 49 = .ok (.iconst 1, 1) := by decide +kernel
theorem dX2_removeSlot_50 : decode cX2_removeSlot 50 = .ok (.isub, 1) := by decide +kernel
theorem dX2_removeSlot_51 : decode cX2_removeSlot 51 = .ok (.invokevirtual 60, 3) := by decide +kernel
theorem dX2_removeSlot_54 : decode cX2_removeSlot 54 = .ok (.iinc 4 1, 3) := by decide +kernel
theorem dX2_removeSlot_57 : decode cX2_removeSlot 57 = .ok (.goto (-19), 3) := by decide +kernel
theorem dX2_removeSlot_60 : decode cX2_removeSlot 60 = .ok (.aload_n 0, 1) := by decide +kernel
theorem dX2_removeSlot_61 : decode cX2_removeSlot 61 = .ok (.getfield 24, 3) := by decide +kernel
theorem dX2_removeSlot_64 : decode cX2_removeSlot 64 = .ok (.iload_n 2, 1) := by decide +kernel
theorem dX2_removeSlot_65 : decode cX2_removeSlot 65 = .ok (.dup2, 1) := by decide +kernel
theorem dX2_removeSlot_66 : decode cX2_removeSlot 66 = .ok (.iaload, 1) := by decide +kernel
theorem dX2_removeSlot_67 : decode cX2_removeSlot 67 = .ok (.iconst 1, 1) := by decide +kernel
theorem dX2_removeSlot_68 : decode cX2_removeSlot 68 = .ok (.isub, 1) := by decide +kernel
theorem dX2_removeSlot_69 : decode cX2_removeSlot 69 = .ok (.iastore, 1) := by decide +kernel
theorem dX2_removeSlot_70 : decode cX2_removeSlot 70 = .ok (.return_, 1) := by decide +kernel
theorem dX2_sizeOf_0 : decode cX2_sizeOf 0 = .ok (.iload_n 1, 1) := by decide +kernel
theorem dX2_sizeOf_1 : decode cX2_sizeOf 1 = .ok (.ifCond .lt 18, 3) := by decide +kernel
theorem dX2_sizeOf_4 : decode cX2_sizeOf 4 = .ok (.iload_n 1, 1) := by decide +kernel
theorem dX2_sizeOf_5 : decode cX2_sizeOf 5 = .ok (.bipush 8, 2) := by decide +kernel
theorem dX2_sizeOf_7 : decode cX2_sizeOf 7 = .ok (.if_icmp .ge 12, 3) := by decide +kernel
theorem dX2_sizeOf_10 : decode cX2_sizeOf 10 = .ok (.aload_n 0, 1) := by decide +kernel
theorem dX2_sizeOf_11 : decode cX2_sizeOf 11 = .ok (.getfield 24, 3) := by decide +kernel
theorem dX2_sizeOf_14 : decode cX2_sizeOf 14 = .ok (.iload_n 1, 1) := by decide +kernel
theorem dX2_sizeOf_15 : decode cX2_sizeOf 15 = .ok (.iaload, 1) := by decide +kernel
theorem dX2_sizeOf_16 : decode cX2_sizeOf 16 = .ok (.goto 4, 3) := by decide +kernel
theorem dX2_sizeOf_19 : decode cX2_sizeOf 19 = .ok (.iconst 0, 1) := by decide +kernel
theorem dX2_sizeOf_20 : decode cX2_sizeOf 20 = .ok (.ireturn, 1) := by decide +kernel
theorem dX2_slotAt_0 : decode cX2_slotAt 0 = .ok (.iload_n 1, 1) := by decide +kernel
theorem dX2_slotAt_1 : decode cX2_slotAt 1 = .ok (.bipush 6, 2) := by decide +kernel
theorem dX2_slotAt_3 : decode cX2_slotAt 3 = .ok (.imul, 1) := by decide +kernel
theorem dX2_slotAt_4 : decode cX2_slotAt 4 = .ok (.iload_n 2, 1) := by decide +kernel
theorem dX2_slotAt_5 : decode cX2_slotAt 5 = .ok (.iadd, 1) := by decide +kernel
theorem dX2_slotAt_6 : decode cX2_slotAt 6 = .ok (.ireturn, 1) := by decide +kernel
theorem dX2_slotOf_0 : decode cX2_slotOf 0 = .ok (.iconst 0, 1) := by decide +kernel
theorem dX2_slotOf_1 : decode cX2_slotOf 1 = .ok (.istore_n 2, 1) := by decide +kernel
theorem dX2_slotOf_2 : decode cX2_slotOf 2 = .ok (.iload_n 2, 1) := by decide +kernel
theorem dX2_slotOf_3 : decode cX2_slotOf 3 = .ok (.bipush 8, 2) := by decide +kernel
theorem dX2_slotOf_5 : decode cX2_slotOf 5 = .ok (.if_icmp .ge 48, 3) := by decide +kernel
theorem dX2_slotOf_8 : decode cX2_slotOf 8 = .ok (.iconst 0, 1) := by decide +kernel
theorem dX2_slotOf_9 : decode cX2_slotOf 9 = .ok (.istore_n 3, 1) := by decide +kernel
theorem dX2_slotOf_10 : decode cX2_slotOf 10 = .ok (.iload_n 3, 1) := by decide +kernel
theorem dX2_slotOf_11 : decode cX2_slotOf 11 = .ok (.aload_n 0, 1) := by decide +kernel
theorem dX2_slotOf_12 : decode cX2_slotOf 12 = .ok (.getfield 24, 3) := by decide +kernel
theorem dX2_slotOf_15 : decode cX2_slotOf 15 = .ok (.iload_n 2, 1) := by decide +kernel
theorem dX2_slotOf_16 : decode cX2_slotOf 16 = .ok (.iaload, 1) := by decide +kernel
theorem dX2_slotOf_17 : decode cX2_slotOf 17 = .ok (.if_icmp .ge 30, 3) := by decide +kernel
theorem dX2_slotOf_20 : decode cX2_slotOf 20 = .ok (.aload_n 0, 1) := by decide +kernel
theorem dX2_slotOf_21 : decode cX2_slotOf 21 = .ok (.aload_n 0, 1) := by decide +kernel
theorem dX2_slotOf_22 : decode cX2_slotOf 22 = .ok (.iload_n 2, 1) := by decide +kernel
theorem dX2_slotOf_23 : decode cX2_slotOf 23 = .ok (.iload_n 3, 1) := by decide +kernel
theorem dX2_slotOf_24 : decode cX2_slotOf 24 = .ok (.invokevirtual 43, 3) := by decide +kernel
theorem dX2_slotOf_27 : decode cX2_slotOf 27 = .ok (.invokevirtual 57, 3) := by decide +kernel
theorem dX2_slotOf_30 : decode cX2_slotOf 30 = .ok (.iload_n 1, 1) := by decide +kernel
theorem dX2_slotOf_31 : decode cX2_slotOf 31 = .ok (.if_icmp .ne 10, 3) := by decide +kernel
theorem dX2_slotOf_34 : decode cX2_slotOf 34 = .ok (.aload_n 0, 1) := by decide +kernel
theorem dX2_slotOf_35 : decode cX2_slotOf 35 = .ok (.iload_n 2, 1) := by decide +kernel
theorem dX2_slotOf_36 : decode cX2_slotOf 36 = .ok (.iload_n 3, 1) := by decide +kernel
theorem dX2_slotOf_37 : decode cX2_slotOf 37 = .ok (.invokevirtual 43, 3) := by decide +kernel
theorem dX2_slotOf_40 : decode cX2_slotOf 40 = .ok (.ireturn, 1) := by decide +kernel
theorem dX2_slotOf_41 : decode cX2_slotOf 41 = .ok (.iinc 3 1, 3) := by decide +kernel
theorem dX2_slotOf_44 : decode cX2_slotOf 44 = .ok (.goto (-34), 3) := by decide +kernel
theorem dX2_slotOf_47 : decode cX2_slotOf 47 = .ok (.iinc 2 1, 3) := by decide +kernel
theorem dX2_slotOf_50 : decode cX2_slotOf 50 = .ok (.goto (-48), 3) := by decide +kernel
theorem dX2_slotOf_53 : decode cX2_slotOf 53 = .ok (.iconst (-1), 1) := by decide +kernel
theorem dX2_slotOf_54 : decode cX2_slotOf 54 = .ok (.ireturn, 1) := by decide +kernel
theorem dX2_toIn_0 : decode cX2_toIn 0 = .ok (.iload_n 1, 1) := by decide +kernel
theorem dX2_toIn_1 : decode cX2_toIn 1 = .ok (.ifCond .lt 18, 3) := by decide +kernel
theorem dX2_toIn_4 : decode cX2_toIn 4 = .ok (.iload_n 1, 1) := by decide +kernel
theorem dX2_toIn_5 : decode cX2_toIn 5 = .ok (.bipush 48, 2) := by decide +kernel
theorem dX2_toIn_7 : decode cX2_toIn 7 = .ok (.if_icmp .ge 12, 3) := by decide +kernel
theorem dX2_toIn_10 : decode cX2_toIn 10 = .ok (.aload_n 0, 1) := by decide +kernel
theorem dX2_toIn_11 : decode cX2_toIn 11 = .ok (.getfield 15, 3) := by decide +kernel
theorem dX2_toIn_14 : decode cX2_toIn 14 = .ok (.iload_n 1, 1) := by decide +kernel
theorem dX2_toIn_15 : decode cX2_toIn 15 = .ok (.iaload, 1) := by decide +kernel
theorem dX2_toIn_16 : decode cX2_toIn 16 = .ok (.goto 4, 3) := by decide +kernel
theorem dX2_toIn_19 : decode cX2_toIn 19 = .ok (.iconst (-1), 1) := by decide +kernel
theorem dX2_toIn_20 : decode cX2_toIn 20 = .ok (.ireturn, 1) := by decide +kernel
theorem dX2_total_0 : decode cX2_total 0 = .ok (.iconst 0, 1) := by decide +kernel
theorem dX2_total_1 : decode cX2_total 1 = .ok (.istore_n 1, 1) := by decide +kernel
theorem dX2_total_2 : decode cX2_total 2 = .ok (.iconst 0, 1) := by decide +kernel
theorem dX2_total_3 : decode cX2_total 3 = .ok (.istore_n 2, 1) := by decide +kernel
theorem dX2_total_4 : decode cX2_total 4 = .ok (.iload_n 2, 1) := by decide +kernel
theorem dX2_total_5 : decode cX2_total 5 = .ok (.bipush 8, 2) := by decide +kernel
theorem dX2_total_7 : decode cX2_total 7 = .ok (.if_icmp .ge 18, 3) := by decide +kernel
theorem dX2_total_10 : decode cX2_total 10 = .ok (.iload_n 1, 1) := by decide +kernel
theorem dX2_total_11 : decode cX2_total 11 = .ok (.aload_n 0, 1) := by decide +kernel
theorem dX2_total_12 : decode cX2_total 12 = .ok (.getfield 24, 3) := by decide +kernel
theorem dX2_total_15 : decode cX2_total 15 = .ok (.iload_n 2, 1) := by decide +kernel
theorem dX2_total_16 : decode cX2_total 16 = .ok (.iaload, 1) := by decide +kernel
theorem dX2_total_17 : decode cX2_total 17 = .ok (.iadd, 1) := by decide +kernel
theorem dX2_total_18 : decode cX2_total 18 = .ok (.istore_n 1, 1) := by decide +kernel
theorem dX2_total_19 : decode cX2_total 19 = .ok (.iinc 2 1, 3) := by decide +kernel
theorem dX2_total_22 : decode cX2_total 22 = .ok (.goto (-18), 3) := by decide +kernel
theorem dX2_total_25 : decode cX2_total 25 = .ok (.iload_n 1, 1) := by decide +kernel
theorem dX2_total_26 : decode cX2_total 26 = .ok (.ireturn, 1) := by decide +kernel
theorem dX2_totalOf_0 : decode cX2_totalOf 0 = .ok (.iconst 0, 1) := by decide +kernel
theorem dX2_totalOf_1 : decode cX2_totalOf 1 = .ok (.istore_n 2, 1) := by decide +kernel
theorem dX2_totalOf_2 : decode cX2_totalOf 2 = .ok (.iconst 0, 1) := by decide +kernel
theorem dX2_totalOf_3 : decode cX2_totalOf 3 = .ok (.istore_n 3, 1) := by decide +kernel
theorem dX2_totalOf_4 : decode cX2_totalOf 4 = .ok (.iload_n 3, 1) := by decide +kernel
theorem dX2_totalOf_5 : decode cX2_totalOf 5 = .ok (.bipush 8, 2) := by decide +kernel
theorem dX2_totalOf_7 : decode cX2_totalOf 7 = .ok (.if_icmp .ge 47, 3) := by decide +kernel
theorem dX2_totalOf_10 : decode cX2_totalOf 10 = .ok (.iconst 0, 1) := by decide +kernel
theorem dX2_totalOf_11 : decode cX2_totalOf 11 = .ok (.istore 4, 2) := by decide +kernel
theorem dX2_totalOf_13 : decode cX2_totalOf 13 = .ok (.iload 4, 2) := by decide +kernel
theorem dX2_totalOf_15 : decode cX2_totalOf 15 = .ok (.aload_n 0, 1) := by decide +kernel
theorem dX2_totalOf_16 : decode cX2_totalOf 16 = .ok (.getfield 24, 3) := by decide +kernel
theorem dX2_totalOf_19 : decode cX2_totalOf 19 = .ok (.iload_n 3, 1) := by decide +kernel
theorem dX2_totalOf_20 : decode cX2_totalOf 20 = .ok (.iaload, 1) := by decide +kernel
theorem dX2_totalOf_21 : decode cX2_totalOf 21 = .ok (.if_icmp .ge 27, 3) := by decide +kernel
theorem dX2_totalOf_24 : decode cX2_totalOf 24 = .ok (.aload_n 0, 1) := by decide +kernel
theorem dX2_totalOf_25 : decode cX2_totalOf 25 = .ok (.aload_n 0, 1) := by decide +kernel
theorem dX2_totalOf_26 : decode cX2_totalOf 26 = .ok (.iload_n 3, 1) := by decide +kernel
theorem dX2_totalOf_27 : decode cX2_totalOf 27 = .ok (.iload 4, 2) := by decide +kernel
theorem dX2_totalOf_29 : decode cX2_totalOf 29 = .ok (.invokevirtual 43, 3) := by decide +kernel
theorem dX2_totalOf_32 : decode cX2_totalOf 32 = .ok (.invokevirtual 51, 3) := by decide +kernel
theorem dX2_totalOf_35 : decode cX2_totalOf 35 = .ok (.iload_n 1, 1) := by decide +kernel
theorem dX2_totalOf_36 : decode cX2_totalOf 36 = .ok (.if_icmp .ne 6, 3) := by decide +kernel
theorem dX2_totalOf_39 : decode cX2_totalOf 39 = .ok (.iinc 2 1, 3) := by decide +kernel
theorem dX2_totalOf_42 : decode cX2_totalOf 42 = .ok (.iinc 4 1, 3) := by decide +kernel
theorem dX2_totalOf_45 : decode cX2_totalOf 45 = .ok (.goto (-32), 3) := by decide +kernel
theorem dX2_totalOf_48 : decode cX2_totalOf 48 = .ok (.iinc 3 1, 3) := by decide +kernel
theorem dX2_totalOf_51 : decode cX2_totalOf 51 = .ok (.goto (-47), 3) := by decide +kernel
theorem dX2_totalOf_54 : decode cX2_totalOf 54 = .ok (.iload_n 2, 1) := by decide +kernel
theorem dX2_totalOf_55 : decode cX2_totalOf 55 = .ok (.ireturn, 1) := by decide +kernel
theorem dX3_clear_0 : decode cX3_clear 0 = .ok (.aload_n 0, 1) := by decide +kernel
theorem dX3_clear_1 : decode cX3_clear 1 = .ok (.getfield 18, 3) := by decide +kernel
theorem dX3_clear_4 : decode cX3_clear 4 = .ok (.iconst 0, 1) := by decide +kernel
theorem dX3_clear_5 : decode cX3_clear 5 = .ok (.invokestatic 21, 3) := by decide +kernel
theorem dX3_clear_8 : decode cX3_clear 8 = .ok (.return_, 1) := by decide +kernel
theorem dX3_clearOf_0 : decode cX3_clearOf 0 = .ok (.iload_n 1, 1) := by decide +kernel
theorem dX3_clearOf_1 : decode cX3_clearOf 1 = .ok (.ifCond .lt 16, 3) := by decide +kernel
theorem dX3_clearOf_4 : decode cX3_clearOf 4 = .ok (.iload_n 1, 1) := by decide +kernel
theorem dX3_clearOf_5 : decode cX3_clearOf 5 = .ok (.bipush 8, 2) := by decide +kernel
theorem dX3_clearOf_7 : decode cX3_clearOf 7 = .ok (.if_icmp .ge 10, 3) := by decide +kernel
theorem dX3_clearOf_10 : decode cX3_clearOf 10 = .ok (.aload_n 0, 1) := by decide +kernel
theorem dX3_clearOf_11 : decode cX3_clearOf 11 = .ok (.getfield 18, 3) := by decide +kernel
theorem dX3_clearOf_14 : decode cX3_clearOf 14 = .ok (.iload_n 1, 1) := by decide +kernel
theorem dX3_clearOf_15 : decode cX3_clearOf 15 = .ok (.iconst 0, 1) := by decide +kernel
theorem dX3_clearOf_16 : decode cX3_clearOf 16 = .ok (.iastore, 1) := by decide +kernel
theorem dX3_clearOf_17 : decode cX3_clearOf 17 = .ok (.return_, 1) := by decide +kernel
theorem dX3_copyFrom_0 : decode cX3_copyFrom 0 = .ok (.aload_n 1, 1) := by decide +kernel
theorem dX3_copyFrom_1 : decode cX3_copyFrom 1 = .ok (.getfield 9, 3) := by decide +kernel
theorem dX3_copyFrom_4 : decode cX3_copyFrom 4 = .ok (.iconst 0, 1) := by decide +kernel
theorem dX3_copyFrom_5 : decode cX3_copyFrom 5 = .ok (.aload_n 0, 1) := by decide +kernel
theorem dX3_copyFrom_6 : decode cX3_copyFrom 6 = .ok (.getfield 9, 3) := by decide +kernel
theorem dX3_copyFrom_9 : decode cX3_copyFrom 9 = .ok (.iconst 0, 1) := by decide +kernel
theorem dX3_copyFrom_10 : decode cX3_copyFrom 10 = .ok (.bipush 64, 2) := by decide +kernel
theorem dX3_copyFrom_12 : decode cX3_copyFrom 12 = .ok (.invokestatic 27, 3) := by decide +kernel
theorem dX3_copyFrom_15 : decode cX3_copyFrom 15 = .ok (.aload_n 1, 1) := by decide +kernel
theorem dX3_copyFrom_16 : decode cX3_copyFrom 16 = .ok (.getfield 15, 3) := by decide +kernel
theorem dX3_copyFrom_19 : decode cX3_copyFrom 19 = .ok (.iconst 0, 1) := by decide +kernel
theorem dX3_copyFrom_20 : decode cX3_copyFrom 20 = .ok (.aload_n 0, 1) := by decide +kernel
theorem dX3_copyFrom_21 : decode cX3_copyFrom 21 = .ok (.getfield 15, 3) := by decide +kernel
theorem dX3_copyFrom_24 : decode cX3_copyFrom 24 = .ok (.iconst 0, 1) := by decide +kernel
theorem dX3_copyFrom_25 : decode cX3_copyFrom 25 = .ok (.bipush 64, 2) := by decide +kernel
theorem dX3_copyFrom_27 : decode cX3_copyFrom 27 = .ok (.invokestatic 27, 3) := by decide +kernel
theorem dX3_copyFrom_30 : decode cX3_copyFrom 30 = .ok (.aload_n 1, 1) := by decide +kernel
theorem dX3_copyFrom_31 : decode cX3_copyFrom 31 = .ok (.getfield 18, 3) := by decide +kernel
theorem dX3_copyFrom_34 : decode cX3_copyFrom 34 = .ok (.iconst 0, 1) := by decide +kernel
theorem dX3_copyFrom_35 : decode cX3_copyFrom 35 = .ok (.aload_n 0, 1) := by decide +kernel
theorem dX3_copyFrom_36 : decode cX3_copyFrom 36 = .ok (.getfield 18, 3) := by decide +kernel
theorem dX3_copyFrom_39 : decode cX3_copyFrom 39 = .ok (.iconst 0, 1) := by decide +kernel
theorem dX3_copyFrom_40 : decode cX3_copyFrom 40 = .ok (.bipush 8, 2) := by decide +kernel
theorem dX3_copyFrom_42 : decode cX3_copyFrom 42 = .ok (.invokestatic 27, 3) := by decide +kernel
theorem dX3_copyFrom_45 : decode cX3_copyFrom 45 = .ok (.return_, 1) := by decide +kernel
theorem dX3_depthOf_0 : decode cX3_depthOf 0 = .ok (.iload_n 1, 1) := by decide +kernel
theorem dX3_depthOf_1 : decode cX3_depthOf 1 = .ok (.ifCond .lt 18, 3) := by decide +kernel
theorem dX3_depthOf_4 : decode cX3_depthOf 4 = .ok (.iload_n 1, 1) := by decide +kernel
theorem dX3_depthOf_5 : decode cX3_depthOf 5 = .ok (.bipush 8, 2) := by decide +kernel
theorem dX3_depthOf_7 : decode cX3_depthOf 7 = .ok (.if_icmp .ge 12, 3) := by decide +kernel
theorem dX3_depthOf_10 : decode cX3_depthOf 10 = .ok (.aload_n 0, 1) := by decide +kernel
theorem dX3_depthOf_11 : decode cX3_depthOf 11 = .ok (.getfield 18, 3) := by decide +kernel
theorem dX3_depthOf_14 : decode cX3_depthOf 14 = .ok (.iload_n 1, 1) := by decide +kernel
theorem dX3_depthOf_15 : decode cX3_depthOf 15 = .ok (.iaload, 1) := by decide +kernel
theorem dX3_depthOf_16 : decode cX3_depthOf 16 = .ok (.goto 4, 3) := by decide +kernel
theorem dX3_depthOf_19 : decode cX3_depthOf 19 = .ok (.iconst 0, 1) := by decide +kernel
theorem dX3_depthOf_20 : decode cX3_depthOf 20 = .ok (.ireturn, 1) := by decide +kernel
theorem dX3_drop_0 : decode cX3_drop 0 = .ok (.aload_n 0, 1) := by decide +kernel
theorem dX3_drop_1 : decode cX3_drop 1 = .ok (.iload_n 1, 1) := by decide +kernel
theorem dX3_drop_2 : decode cX3_drop 2 = .ok (.invokevirtual 37, 3) := by decide +kernel
theorem dX3_drop_5 : decode cX3_drop 5 = .ok (.ifCond .le 13, 3) := by decide +kernel
theorem dX3_drop_8 : decode cX3_drop 8 = .ok (.aload_n 0, 1) := by decide +kernel
theorem dX3_drop_9 : decode cX3_drop 9 = .ok (.getfield 18, 3) := by decide +kernel
theorem dX3_drop_12 : decode cX3_drop 12 = .ok (.iload_n 1, 1) := by decide +kernel
theorem dX3_drop_13 : decode cX3_drop 13 = .ok (.dup2, 1) := by decide +kernel
theorem dX3_drop_14 : decode cX3_drop 14 = .ok (.iaload, 1) := by decide +kernel
theorem dX3_drop_15 : decode cX3_drop 15 = .ok (.iconst 1, 1) := by decide +kernel
theorem dX3_drop_16 : decode cX3_drop 16 = .ok (.isub, 1) := by decide +kernel
theorem dX3_drop_17 : decode cX3_drop 17 = .ok (.iastore, 1) := by decide +kernel
theorem dX3_drop_18 : decode cX3_drop 18 = .ok (.return_, 1) := by decide +kernel
theorem dX3_isEmpty_0 : decode cX3_isEmpty 0 = .ok (.iconst 0, 1) := by decide +kernel
theorem dX3_isEmpty_1 : decode cX3_isEmpty 1 = .ok (.istore_n 1, 1) := by decide +kernel
theorem dX3_isEmpty_2 : decode cX3_isEmpty 2 = .ok (.iload_n 1, 1) := by decide +kernel
theorem dX3_isEmpty_3 : decode cX3_isEmpty 3 = .ok (.bipush 8, 2) := by decide +kernel
theorem dX3_isEmpty_5 : decode cX3_isEmpty 5 = .ok (.if_icmp .ge 20, 3) := by decide +kernel
theorem dX3_isEmpty_8 : decode cX3_isEmpty 8 = .ok (.aload_n 0, 1) := by decide +kernel
theorem dX3_isEmpty_9 : decode cX3_isEmpty 9 = .ok (.getfield 18, 3) := by decide +kernel
theorem dX3_isEmpty_12 : decode cX3_isEmpty 12 = .ok (.iload_n 1, 1) := by decide +kernel
theorem dX3_isEmpty_13 : decode cX3_isEmpty 13 = .ok (.iaload, 1) := by decide +kernel
theorem dX3_isEmpty_14 : decode cX3_isEmpty 14 = .ok (.ifCond .le 5, 3) := by decide +kernel
theorem dX3_isEmpty_17 : decode cX3_isEmpty 17 = .ok (.iconst 0, 1) := by decide +kernel
theorem dX3_isEmpty_18 : decode cX3_isEmpty 18 = .ok (.ireturn, 1) := by decide +kernel
theorem dX3_isEmpty_19 : decode cX3_isEmpty 19 = .ok (.iinc 1 1, 3) := by decide +kernel
theorem dX3_isEmpty_22 : decode cX3_isEmpty 22 = .ok (.goto (-20), 3) := by decide +kernel
theorem dX3_isEmpty_25 : decode cX3_isEmpty 25 = .ok (.iconst 1, 1) := by decide +kernel
theorem dX3_isEmpty_26 : decode cX3_isEmpty 26 = .ok (.ireturn, 1) := by decide +kernel
theorem dX3_newAt_0 : decode cX3_newAt 0 = .ok (.aload_n 0, 1) := by decide +kernel
theorem dX3_newAt_1 : decode cX3_newAt 1 = .ok (.iload_n 1, 1) := by decide +kernel
theorem dX3_newAt_2 : decode cX3_newAt 2 = .ok (.iload_n 2, 1) := by decide +kernel
theorem dX3_newAt_3 : decode cX3_newAt 3 = .ok (.invokevirtual 33, 3) := by decide +kernel
theorem dX3_newAt_6 : decode cX3_newAt 6 = .ok (.istore_n 3, 1) := by decide +kernel
theorem dX3_newAt_7 : decode cX3_newAt 7 = .ok (.iload_n 3, 1) := by decide +kernel
theorem dX3_newAt_8 : decode cX3_newAt 8 = .ok (.ifCond .lt 21, 3) := by decide +kernel
theorem dX3_newAt_11 : decode cX3_newAt 11 = .ok (.iload_n 3, 1) := by decide +kernel
theorem dX3_newAt_12 : decode cX3_newAt 12 = .ok (.aload_n 0, 1) := by decide +kernel
theorem dX3_newAt_13 : decode cX3_newAt 13 = .ok (.getfield 15, 3) := by decide +kernel
theorem dX3_newAt_16 : decode cX3_newAt 16 = .ok (.arraylength, 1) := by decide +kernel
theorem dX3_newAt_17 : decode cX3_newAt 17 = .ok (.if_icmp .ge 12, 3) := by decide +kernel
theorem dX3_newAt_20 : decode cX3_newAt 20 = .ok (.aload_n 0, 1) := by decide +kernel
theorem dX3_newAt_21 : decode cX3_newAt 21 = .ok (.getfield 15, 3) := by decide +kernel
theorem dX3_newAt_24 : decode cX3_newAt 24 = .ok (.iload_n 3, 1) := by decide +kernel
theorem dX3_newAt_25 : decode cX3_newAt 25 = .ok (.iaload, 1) := by decide +kernel
theorem dX3_newAt_26 : decode cX3_newAt 26 = .ok (.goto 4, 3) := by decide +kernel
theorem dX3_newAt_29 : decode cX3_newAt 29 = .ok (.iconst (-1), 1) := by decide +kernel
theorem dX3_newAt_30 : decode cX3_newAt 30 = .ok (.ireturn, 1) := by decide +kernel
theorem dX3_oldAt_0 : decode cX3_oldAt 0 = .ok (.aload_n 0, 1) := by decide +kernel
theorem dX3_oldAt_1 : decode cX3_oldAt 1 = .ok (.iload_n 1, 1) := by decide +kernel
theorem dX3_oldAt_2 : decode cX3_oldAt 2 = .ok (.iload_n 2, 1) := by decide +kernel
theorem dX3_oldAt_3 : decode cX3_oldAt 3 = .ok (.invokevirtual 33, 3) := by decide +kernel
theorem dX3_oldAt_6 : decode cX3_oldAt 6 = .ok (.istore_n 3, 1) := by decide +kernel
theorem dX3_oldAt_7 : decode cX3_oldAt 7 = .ok (.iload_n 3, 1) := by decide +kernel
theorem dX3_oldAt_8 : decode cX3_oldAt 8 = .ok (.ifCond .lt 21, 3) := by decide +kernel
theorem dX3_oldAt_11 : decode cX3_oldAt 11 = .ok (.iload_n 3, 1) := by decide +kernel
theorem dX3_oldAt_12 : decode cX3_oldAt 12 = .ok (.aload_n 0, 1) := by decide +kernel
theorem dX3_oldAt_13 : decode cX3_oldAt 13 = .ok (.getfield 9, 3) := by decide +kernel
theorem dX3_oldAt_16 : decode cX3_oldAt 16 = .ok (.arraylength, 1) := by decide +kernel
theorem dX3_oldAt_17 : decode cX3_oldAt 17 = .ok (.if_icmp .ge 12, 3) := by decide +kernel
theorem dX3_oldAt_20 : decode cX3_oldAt 20 = .ok (.aload_n 0, 1) := by decide +kernel
theorem dX3_oldAt_21 : decode cX3_oldAt 21 = .ok (.getfield 9, 3) := by decide +kernel
theorem dX3_oldAt_24 : decode cX3_oldAt 24 = .ok (.iload_n 3, 1) := by decide +kernel
theorem dX3_oldAt_25 : decode cX3_oldAt 25 = .ok (.iaload, 1) := by decide +kernel
theorem dX3_oldAt_26 : decode cX3_oldAt 26 = .ok (.goto 4, 3) := by decide +kernel
theorem dX3_oldAt_29 : decode cX3_oldAt 29 = .ok (.iconst (-1), 1) := by decide +kernel
theorem dX3_oldAt_30 : decode cX3_oldAt 30 = .ok (.ireturn, 1) := by decide +kernel
theorem dX3_placeOf_0 : decode cX3_placeOf 0 = .ok (.iload_n 1, 1) := by decide +kernel
theorem dX3_placeOf_1 : decode cX3_placeOf 1 = .ok (.ifCond .lt 23, 3) := by decide +kernel
theorem dX3_placeOf_4 : decode cX3_placeOf 4 = .ok (.iload_n 1, 1) := by decide +kernel
theorem dX3_placeOf_5 : decode cX3_placeOf 5 = .ok (.bipush 8, 2) := by decide +kernel
theorem dX3_placeOf_7 : decode cX3_placeOf 7 = .ok (.if_icmp .ge 17, 3) := by decide +kernel
theorem dX3_placeOf_10 : decode cX3_placeOf 10 = .ok (.iload_n 2, 1) := by decide +kernel
theorem dX3_placeOf_11 : decode cX3_placeOf 11 = .ok (.ifCond .lt 13, 3) := by decide +kernel
theorem dX3_placeOf_14 : decode cX3_placeOf 14 = .ok (.iload_n 2, 1) := by decide +kernel
theorem dX3_placeOf_15 : decode cX3_placeOf 15 = .ok (.aload_n 0, 1) := by decide +kernel
theorem dX3_placeOf_16 : decode cX3_placeOf 16 = .ok (.getfield 18, 3) := by decide +kernel
theorem dX3_placeOf_19 : decode cX3_placeOf 19 = .ok (.iload_n 1, 1) := by decide +kernel
theorem dX3_placeOf_20 : decode cX3_placeOf 20 = .ok (.iaload, 1) := by decide +kernel
theorem dX3_placeOf_21 : decode cX3_placeOf 21 = .ok (.if_icmp .lt 5, 3) := by decide +kernel
theorem dX3_placeOf_24 : decode cX3_placeOf 24 = .ok (.iconst (-1), 1) := by decide +kernel
theorem dX3_placeOf_25 : decode cX3_placeOf 25 = .ok (.ireturn, 1) := by decide +kernel
theorem dX3_placeOf_26 : decode cX3_placeOf 26 = .ok (.iload_n 1, 1) := by decide +kernel
theorem dX3_placeOf_27 : decode cX3_placeOf 27 = .ok (.bipush 8, 2) := by decide +kernel
theorem dX3_placeOf_29 : decode cX3_placeOf 29 = .ok (.imul, 1) := by decide +kernel
theorem dX3_placeOf_30 : decode cX3_placeOf 30 = .ok (.aload_n 0, 1) := by decide +kernel
theorem dX3_placeOf_31 : decode cX3_placeOf 31 = .ok (.getfield 18, 3) := by decide +kernel
theorem dX3_placeOf_34 : decode cX3_placeOf 34 = .ok (.iload_n 1, 1) := by decide +kernel
theorem dX3_placeOf_35 : decode cX3_placeOf 35 = .ok (.iaload, 1) := by decide +kernel
theorem dX3_placeOf_36 : decode cX3_placeOf 36 = .ok (.iadd, 1) := by decide +kernel
theorem dX3_placeOf_37 : decode cX3_placeOf 37 = .ok (.iconst 1, 1) := by decide +kernel
theorem dX3_placeOf_38 : decode cX3_placeOf 38 = .ok (.isub, 1) := by decide +kernel
theorem dX3_placeOf_39 : decode cX3_placeOf 39 = .ok (.iload_n 2, 1) := by decide +kernel
theorem dX3_placeOf_40 : decode cX3_placeOf 40 = .ok (.isub, 1) := by decide +kernel
theorem dX3_placeOf_41 : decode cX3_placeOf 41 = .ok (.ireturn, 1) := by decide +kernel
theorem dX3_push_0 : decode cX3_push 0 = .ok (.iload_n 1, 1) := by decide +kernel
theorem dX3_push_1 : decode cX3_push 1 = .ok (.ifCond .lt 29, 3) := by decide +kernel
theorem dX3_push_4 : decode cX3_push 4 = .ok (.iload_n 1, 1) := by decide +kernel
theorem dX3_push_5 : decode cX3_push 5 = .ok (.bipush 8, 2) := by decide +kernel
theorem dX3_push_7 : decode cX3_push 7 = .ok (.if_icmp .ge 23, 3) := by decide +kernel
theorem dX3_push_10 : decode cX3_push 10 = .ok (.aload_n 0, 1) := by decide +kernel
theorem dX3_push_11 : decode cX3_push 11 = .ok (.getfield 18, 3) := by decide +kernel
theorem dX3_push_14 : decode cX3_push 14 = .ok (.iload_n 1, 1) := by decide +kernel
theorem dX3_push_15 : decode cX3_push 15 = .ok (.iaload, 1) := by decide +kernel
theorem dX3_push_16 : decode cX3_push 16 = .ok (.ifCond .lt 14, 3) := by decide +kernel
theorem dX3_push_19 : decode cX3_push 19 = .ok (.aload_n 0, 1) := by decide +kernel
theorem dX3_push_20 : decode cX3_push 20 = .ok (.getfield 18, 3) := by decide +kernel
theorem dX3_push_23 : decode cX3_push 23 = .ok (.iload_n 1, 1) := by decide +kernel
theorem dX3_push_24 : decode cX3_push 24 = .ok (.iaload, 1) := by decide +kernel
theorem dX3_push_25 : decode cX3_push 25 = .ok (.bipush 8, 2) := by decide +kernel
theorem dX3_push_27 : decode cX3_push 27 = .ok (.if_icmp .lt 4, 3) := by decide +kernel
theorem dX3_push_30 : decode cX3_push 30 = .ok (.return_, 1) := by decide +kernel
theorem dX3_push_31 : decode cX3_push 31 = .ok (.iload_n 1, 1) := by decide +kernel
theorem dX3_push_32 : decode cX3_push 32 = .ok (.bipush 8, 2) := by decide +kernel
theorem dX3_push_34 : decode cX3_push 34 = .ok (.imul, 1) := by decide +kernel
theorem dX3_push_35 : decode cX3_push 35 = .ok (.aload_n 0, 1) := by decide +kernel
theorem dX3_push_36 : decode cX3_push 36 = .ok (.getfield 18, 3) := by decide +kernel
theorem dX3_push_39 : decode cX3_push 39 = .ok (.iload_n 1, 1) := by decide +kernel
theorem dX3_push_40 : decode cX3_push 40 = .ok (.iaload, 1) := by decide +kernel
theorem dX3_push_41 : decode cX3_push 41 = .ok (.iadd, 1) := by decide +kernel
theorem dX3_push_42 : decode cX3_push 42 = .ok (.istore 4, 2) := by decide +kernel
theorem dX3_push_44 : decode cX3_push 44 = .ok (.aload_n 0, 1) := by decide +kernel
theorem dX3_push_45 : decode cX3_push 45 = .ok (.getfield 9, 3) := by decide +kernel
theorem dX3_push_48 : decode cX3_push 48 = .ok (.iload 4, 2) := by decide +kernel
theorem dX3_push_50 : decode cX3_push 50 = .ok (.iload_n 2, 1) := by decide +kernel
theorem dX3_push_51 : decode cX3_push 51 = .ok (.iastore, 1) := by decide +kernel
theorem dX3_push_52 : decode cX3_push 52 = .ok (.aload_n 0, 1) := by decide +kernel
theorem dX3_push_53 : decode cX3_push 53 = .ok (.getfield 15, 3) := by decide +kernel
theorem dX3_push_56 : decode cX3_push 56 = .ok (.iload 4, 2) := by decide +kernel
theorem dX3_push_58 : decode cX3_push 58 = .ok (.iload_n 3, 1) := by decide +kernel
theorem dX3_push_59 : decode cX3_push 59 = .ok (.iastore, 1) := by decide +kernel
theorem dX3_push_60 : decode cX3_push 60 = .ok (.aload_n 0, 1) := by decide +kernel
theorem dX3_push_61 : decode cX3_push 61 = .ok (.getfield 18, 3) := by decide +kernel
theorem dX3_push_64 : decode cX3_push 64 = .ok (.iload_n 1, 1) := by decide +kernel
theorem dX3_push_65 : decode cX3_push 65 = .ok (.dup2, 1) := by decide +kernel
theorem dX3_push_66 : decode cX3_push 66 = .ok (.iaload, 1) := by decide +kernel
theorem dX3_push_67 : decode cX3_push 67 = .ok (.iconst 1, 1) := by decide +kernel
theorem dX3_push_68 : decode cX3_push 68 = .ok (.iadd, 1) := by decide +kernel
theorem dX3_push_69 : decode cX3_push 69 = .ok (.iastore, 1) := by decide +kernel
theorem dX3_push_70 : decode cX3_push 70 = .ok (.return_, 1) := by decide +kernel
theorem dX3_setTopNew_0 : decode cX3_setTopNew 0 = .ok (.aload_n 0, 1) := by decide +kernel
theorem dX3_setTopNew_1 : decode cX3_setTopNew 1 = .ok (.iload_n 1, 1) := by decide +kernel
theorem dX3_setTopNew_2 : decode cX3_setTopNew 2 = .ok (.iconst 0, 1) := by decide +kernel
theorem dX3_setTopNew_3 : decode cX3_setTopNew 3 = .ok (.invokevirtual 33, 3) := by decide +kernel
theorem dX3_setTopNew_6 : decode cX3_setTopNew 6 = .ok (.istore_n 3, 1) := by decide +kernel
theorem dX3_setTopNew_7 : decode cX3_setTopNew 7 = .ok (.iload_n 3, 1) := by decide +kernel
theorem dX3_setTopNew_8 : decode cX3_setTopNew 8 = .ok (.ifCond .lt 19, 3) := by decide +kernel
theorem dX3_setTopNew_11 : decode cX3_setTopNew 11 = .ok (.iload_n 3, 1) := by decide +kernel
theorem dX3_setTopNew_12 : decode cX3_setTopNew 12 = .ok (.aload_n 0, 1) := by decide +kernel
theorem dX3_setTopNew_13 : decode cX3_setTopNew 13 = .ok (.getfield 15, 3) := by decide +kernel
theorem dX3_setTopNew_16 : decode cX3_setTopNew 16 = .ok (.arraylength, 1) := by decide +kernel
theorem dX3_setTopNew_17 : decode cX3_setTopNew 17 = .ok (.if_icmp .ge 10, 3) := by decide +kernel
theorem dX3_setTopNew_20 : decode cX3_setTopNew 20 = .ok (.aload_n 0, 1) := by decide +kernel
theorem dX3_setTopNew_21 : decode cX3_setTopNew 21 = .ok (.getfield 15, 3) := by decide +kernel
theorem dX3_setTopNew_24 : decode cX3_setTopNew 24 = .ok (.iload_n 3, 1) := by decide +kernel
theorem dX3_setTopNew_25 : decode cX3_setTopNew 25 = .ok (.iload_n 2, 1) := by decide +kernel
theorem dX3_setTopNew_26 : decode cX3_setTopNew 26 = .ok (.iastore, 1) := by decide +kernel
theorem dX3_setTopNew_27 : decode cX3_setTopNew 27 = .ok (.return_, 1) := by decide +kernel
theorem dX4_fail_0 : decode cX4_fail 0 = .ok (.aload_n 0, 1) := by decide +kernel
theorem dX4_fail_1 : decode cX4_fail 1 = .ok (.iload_n 1, 1) := by decide +kernel
theorem dX4_fail_2 : decode cX4_fail 2 = .ok (.putfield 40, 3) := by decide +kernel
theorem dX4_fail_5 : decode cX4_fail 5 = .ok (.aload_n 0, 1) := by decide +kernel
theorem dX4_fail_6 : decode cX4_fail 6 = .ok (.aload_n 0, 1) := by decide +kernel
theorem dX4_fail_7 : decode cX4_fail 7 = .ok (.getfield 28, 3) := by decide +kernel
theorem dX4_fail_10 : decode cX4_fail 10 = .ok (.putfield 43, 3) := by decide +kernel
theorem dX4_fail_13 : decode cX4_fail 13 = .ok (.iconst 0, 1) := by decide +kernel
theorem dX4_fail_14 : decode cX4_fail 14 = .ok (.ireturn, 1) := by decide +kernel
theorem dX4_isDigit_0 : decode cX4_isDigit 0 = .ok (.iload_n 1, 1) := by decide +kernel
theorem dX4_isDigit_1 : decode cX4_isDigit 1 = .ok (.bipush 48, 2) := by decide +kernel
theorem dX4_isDigit_3 : decode cX4_isDigit 3 = .ok (.if_icmp .lt 13, 3) := by decide +kernel
theorem dX4_isDigit_6 : decode cX4_isDigit 6 = .ok (.iload_n 1, 1) := by decide +kernel
theorem dX4_isDigit_7 : decode cX4_isDigit 7 = .ok (.bipush 57, 2) := by decide +kernel
theorem dX4_isDigit_9 : decode cX4_isDigit 9 = .ok (.if_icmp .gt 7, 3) := by decide +kernel
theorem dX4_isDigit_12 : decode cX4_isDigit 12 = .ok (.iconst 1, 1) := by decide +kernel
theorem dX4_isDigit_13 : decode cX4_isDigit 13 = .ok (.goto 4, 3) := by decide +kernel
theorem dX4_isDigit_16 : decode cX4_isDigit 16 = .ok (.iconst 0, 1) := by decide +kernel
theorem dX4_isDigit_17 : decode cX4_isDigit 17 = .ok (.ireturn, 1) := by decide +kernel
theorem dX4_isLetter_0 : decode cX4_isLetter 0 = .ok (.iload_n 1, 1) := by decide +kernel
theorem dX4_isLetter_1 : decode cX4_isLetter 1 = .ok (.bipush 97, 2) := by decide +kernel
theorem dX4_isLetter_3 : decode cX4_isLetter 3 = .ok (.if_icmp .lt 13, 3) := by decide +kernel
theorem dX4_isLetter_6 : decode cX4_isLetter 6 = .ok (.iload_n 1, 1) := by decide +kernel
theorem dX4_isLetter_7 : decode cX4_isLetter 7 = .ok (.bipush 122, 2) := by decide +kernel
theorem dX4_isLetter_9 : decode cX4_isLetter 9 = .ok (.if_icmp .gt 7, 3) := by decide +kernel
theorem dX4_isLetter_12 : decode cX4_isLetter 12 = .ok (.iconst 1, 1) := by decide +kernel
theorem dX4_isLetter_13 : decode cX4_isLetter 13 = .ok (.goto 4, 3) := by decide +kernel
theorem dX4_isLetter_16 : decode cX4_isLetter 16 = .ok (.iconst 0, 1) := by decide +kernel
theorem dX4_isLetter_17 : decode cX4_isLetter 17 = .ok (.ireturn, 1) := by decide +kernel
theorem dX4_isLineWord_0 : decode cX4_isLineWord 0 = .ok (.aload_n 0, 1) := by decide +kernel
theorem dX4_isLineWord_1 : decode cX4_isLineWord 1 = .ok (.ldc 66, 2) := by decide +kernel
theorem dX4_isLineWord_3 : decode cX4_isLineWord 3 = .ok (.invokevirtual 68, 3) := by decide +kernel
theorem dX4_isLineWord_6 : decode cX4_isLineWord 6 = .ok (.ifCond .ne 39, 3) := by decide +kernel
theorem dX4_isLineWord_9 : decode cX4_isLineWord 9 = .ok (.aload_n 0, 1) := by decide +kernel
theorem dX4_isLineWord_10 : decode cX4_isLineWord 10 = .ok (.ldc 75, 2) := by decide +kernel
theorem dX4_isLineWord_12 : decode cX4_isLineWord 12 = .ok (.invokevirtual 68, 3) := by decide +kernel
theorem dX4_isLineWord_15 : decode cX4_isLineWord 15 = .ok (.ifCond .ne 30, 3) := by decide +kernel
theorem dX4_isLineWord_18 : decode cX4_isLineWord 18 = .ok (.aload_n 0, 1) := by decide +kernel
theorem dX4_isLineWord_19 : decode cX4_isLineWord 19 = .ok (.ldc 80, 2) := by decide +kernel
theorem dX4_isLineWord_21 : decode cX4_isLineWord 21 = .ok (.invokevirtual 68, 3) := by decide +kernel
theorem dX4_isLineWord_24 : decode cX4_isLineWord 24 = .ok (.ifCond .ne 21, 3) := by decide +kernel
theorem dX4_isLineWord_27 : decode cX4_isLineWord 27 = .ok (.aload_n 0, 1) := by decide +kernel
theorem dX4_isLineWord_28 : decode cX4_isLineWord 28 = .ok (.ldc 85, 2) := by decide +kernel
theorem dX4_isLineWord_30 : decode cX4_isLineWord 30 = .ok (.invokevirtual 68, 3) := by decide +kernel
theorem dX4_isLineWord_33 : decode cX4_isLineWord 33 = .ok (.ifCond .ne 12, 3) := by decide +kernel
theorem dX4_isLineWord_36 : decode cX4_isLineWord 36 = .ok (.aload_n 0, 1) := by decide +kernel
theorem dX4_isLineWord_37 : decode cX4_isLineWord 37 = .ok (.ldc 90, 2) := by decide +kernel
theorem dX4_isLineWord_39 : decode cX4_isLineWord 39 = .ok (.invokevirtual 68, 3) := by decide +kernel
theorem dX4_isLineWord_42 : decode cX4_isLineWord 42 = .ok (.ifCond .eq 7, 3) := by decide +kernel
theorem dX4_isLineWord_45 : decode cX4_isLineWord 45 = .ok (.iconst 1, 1) := by decide +kernel
theorem dX4_isLineWord_46 : decode cX4_isLineWord 46 = .ok (.goto 4, 3) := by decide +kernel
theorem dX4_isLineWord_49 : decode cX4_isLineWord 49 = .ok (.iconst 0, 1) := by decide +kernel
theorem dX4_isLineWord_50 : decode cX4_isLineWord 50 = .ok (.ireturn, 1) := by decide +kernel
theorem dX4_isNameOf_0 : decode cX4_isNameOf 0 = .ok (.iload_n 1, 1) := by decide +kernel
theorem dX4_isNameOf_1 : decode cX4_isNameOf 1 = .ok (.ifCond .lt 22, 3) := by decide +kernel
theorem dX4_isNameOf_4 : decode cX4_isNameOf 4 = .ok (.iload_n 1, 1) := by decide +kernel
theorem dX4_isNameOf_5 : decode cX4_isNameOf 5 = .ok (.bipush 8, 2) := by decide +kernel
theorem dX4_isNameOf_7 : decode cX4_isNameOf 7 = .ok (.if_icmp .ge 16, 3) := by decide +kernel
theorem dX4_isNameOf_10 : decode cX4_isNameOf 10 = .ok (.aload_n 0, 1) := by decide +kernel
theorem dX4_isNameOf_11 : decode cX4_isNameOf 11 = .ok (.getfield 15, 3) := by decide +kernel
theorem dX4_isNameOf_14 : decode cX4_isNameOf 14 = .ok (.iload_n 1, 1) := by decide +kernel
theorem dX4_isNameOf_15 : decode cX4_isNameOf 15 = .ok (.iaload, 1) := by decide +kernel
theorem dX4_isNameOf_16 : decode cX4_isNameOf 16 = .ok (.aload_n 0, 1) := by decide +kernel
theorem dX4_isNameOf_17 : decode cX4_isNameOf 17 = .ok (.getfield 31, 3) := by decide +kernel
theorem dX4_isNameOf_20 : decode cX4_isNameOf 20 = .ok (.if_icmp .eq 5, 3) := by decide +kernel
theorem dX4_isNameOf_23 : decode cX4_isNameOf 23 = .ok (.iconst 0, 1) := by decide +kernel
theorem dX4_isNameOf_24 : decode cX4_isNameOf 24 = .ok (.ireturn, 1) := by decide +kernel
theorem dX4_isNameOf_25 : decode cX4_isNameOf 25 = .ok (.iconst 0, 1) := by decide +kernel
theorem dX4_isNameOf_26 : decode cX4_isNameOf 26 = .ok (.istore_n 2, 1) := by decide +kernel
theorem dX4_isNameOf_27 : decode cX4_isNameOf 27 = .ok (.iload_n 2, 1) := by decide +kernel
theorem dX4_isNameOf_28 : decode cX4_isNameOf 28 = .ok (.aload_n 0, 1) := by decide +kernel
theorem dX4_isNameOf_29 : decode cX4_isNameOf 29 = .ok (.getfield 31, 3) := by decide +kernel
theorem dX4_isNameOf_32 : decode cX4_isNameOf 32 = .ok (.if_icmp .ge 42, 3) := by decide +kernel
theorem dX4_isNameOf_35 : decode cX4_isNameOf 35 = .ok (.aload_n 0, 1) := by decide +kernel
theorem dX4_isNameOf_36 : decode cX4_isNameOf 36 = .ok (.getfield 46, 3) := by decide +kernel
theorem dX4_isNameOf_39 : decode cX4_isNameOf 39 = .ok (.aload_n 0, 1) := by decide +kernel
theorem dX4_isNameOf_40 : decode cX4_isNameOf 40 = .ok (.getfield 28, 3) := by decide +kernel
theorem dX4_isNameOf_43 : decode cX4_isNameOf 43 = .ok (.iload_n 2, 1) := by decide +kernel
theorem dX4_isNameOf_44 : decode cX4_isNameOf 44 = .ok (.iadd, 1) := by decide +kernel
theorem dX4_isNameOf_45 : decode cX4_isNameOf 45 = .ok (.invokevirtual 163, 3) := by decide +kernel
theorem dX4_isNameOf_48 : decode cX4_isNameOf 48 = .ok (.aload_n 0, 1) := by decide +kernel
theorem dX4_isNameOf_49 : decode cX4_isNameOf 49 = .ok (.getfield 46, 3) := by decide +kernel
theorem dX4_isNameOf_52 : decode cX4_isNameOf 52 = .ok (.aload_n 0, 1) := by decide +kernel
theorem dX4_isNameOf_53 : decode cX4_isNameOf 53 = .ok (.getfield 9, 3) := by decide +kernel
theorem dX4_isNameOf_56 : decode cX4_isNameOf 56 = .ok (.iload_n 1, 1) := by decide +kernel
theorem dX4_isNameOf_57 : decode cX4_isNameOf 57 = .ok (.iaload, 1) := by decide +kernel
theorem dX4_isNameOf_58 : decode cX4_isNameOf 58 = .ok (.iload_n 2, 1) := by decide +kernel
theorem dX4_isNameOf_59 : decode cX4_isNameOf 59 = .ok (.iadd, 1) := by decide +kernel
theorem dX4_isNameOf_60 : decode cX4_isNameOf 60 = .ok (.invokevirtual 163, 3) := by decide +kernel
theorem dX4_isNameOf_63 : decode cX4_isNameOf 63 = .ok (.if_icmp .eq 5, 3) := by decide +kernel
theorem dX4_isNameOf_66 : decode cX4_isNameOf 66 = .ok (.iconst 0, 1) := by decide +kernel
theorem dX4_isNameOf_67 : decode cX4_isNameOf 67 = .ok (.ireturn, 1) := by decide +kernel
theorem dX4_isNameOf_68 : decode cX4_isNameOf 68 = .ok (.iinc 2 1, 3) := by decide +kernel
theorem dX4_isNameOf_71 : decode cX4_isNameOf 71 = .ok (.goto (-44), 3) := by decide +kernel
theorem dX4_isNameOf_74 : decode cX4_isNameOf 74 = .ok (.iconst 1, 1) := by decide +kernel
theorem dX4_isNameOf_75 : decode cX4_isNameOf 75 = .ok (.ireturn, 1) := by decide +kernel
theorem dX4_isWord_0 : decode cX4_isWord 0 = .ok (.aload_n 0, 1) := by decide +kernel
theorem dX4_isWord_1 : decode cX4_isWord 1 = .ok (.getfield 25, 3) := by decide +kernel
theorem dX4_isWord_4 : decode cX4_isWord 4 = .ok (.iconst 1, 1) := by decide +kernel
theorem dX4_isWord_5 : decode cX4_isWord 5 = .ok (.if_icmp .ne 14, 3) := by decide +kernel
theorem dX4_isWord_8 : decode cX4_isWord 8 = .ok (.aload_n 0, 1) := by decide +kernel
theorem dX4_isWord_9 : decode cX4_isWord 9 = .ok (.getfield 31, 3) := by decide +kernel
theorem dX4_isWord_12 : decode cX4_isWord 12 = .ok (.aload_n 1, 1) := by decide +kernel
theorem dX4_isWord_13 : decode cX4_isWord 13 = .ok (.invokevirtual 181, 3) := by decide +kernel
theorem dX4_isWord_16 : decode cX4_isWord 16 = .ok (.if_icmp .eq 5, 3) := by decide +kernel
theorem dX4_isWord_19 : decode cX4_isWord 19 = .ok (.iconst 0, 1) := by decide +kernel
theorem dX4_isWord_20 : decode cX4_isWord 20 = .ok (.ireturn, 1) := by decide +kernel
theorem dX4_isWord_21 : decode cX4_isWord 21 = .ok (.iconst 0, 1) := by decide +kernel
theorem dX4_isWord_22 : decode cX4_isWord 22 = .ok (.istore_n 2, 1) := by decide +kernel
theorem dX4_isWord_23 : decode cX4_isWord 23 = .ok (.iload_n 2, 1) := by decide +kernel
theorem dX4_isWord_24 : decode cX4_isWord 24 = .ok (.aload_n 1, 1) := by decide +kernel
theorem dX4_isWord_25 : decode cX4_isWord 25 = .ok (.invokevirtual 181, 3) := by decide +kernel
theorem dX4_isWord_28 : decode cX4_isWord 28 = .ok (.if_icmp .ge 32, 3) := by decide +kernel
theorem dX4_isWord_31 : decode cX4_isWord 31 = .ok (.aload_n 0, 1) := by decide +kernel
theorem dX4_isWord_32 : decode cX4_isWord 32 = .ok (.getfield 46, 3) := by decide +kernel
theorem dX4_isWord_35 : decode cX4_isWord 35 = .ok (.aload_n 0, 1) := by decide +kernel
theorem dX4_isWord_36 : decode cX4_isWord 36 = .ok (.getfield 28, 3) := by decide +kernel
theorem dX4_isWord_39 : decode cX4_isWord 39 = .ok (.iload_n 2, 1) := by decide +kernel
theorem dX4_isWord_40 : decode cX4_isWord 40 = .ok (.iadd, 1) := by decide +kernel
theorem dX4_isWord_41 : decode cX4_isWord 41 = .ok (.invokevirtual 163, 3) := by decide +kernel
theorem dX4_isWord_44 : decode cX4_isWord 44 = .ok (.aload_n 1, 1) := by decide +kernel
theorem dX4_isWord_45 : decode cX4_isWord 45 = .ok (.iload_n 2, 1) := by decide +kernel
theorem dX4_isWord_46 : decode cX4_isWord 46 = .ok (.invokevirtual 186, 3) := by decide +kernel
theorem dX4_isWord_49 : decode cX4_isWord 49 = .ok (.if_icmp .eq 5, 3) := by decide +kernel
theorem dX4_isWord_52 : decode cX4_isWord 52 = .ok (.iconst 0, 1) := by decide +kernel
theorem dX4_isWord_53 : decode cX4_isWord 53 = .ok (.ireturn, 1) := by decide +kernel
theorem dX4_isWord_54 : decode cX4_isWord 54 = .ok (.iinc 2 1, 3) := by decide +kernel
theorem dX4_isWord_57 : decode cX4_isWord 57 = .ok (.goto (-34), 3) := by decide +kernel
theorem dX4_isWord_60 : decode cX4_isWord 60 = .ok (.iconst 1, 1) := by decide +kernel
theorem dX4_isWord_61 : decode cX4_isWord 61 = .ok (.ireturn, 1) := by decide +kernel
theorem dX4_readBreak_0 : decode cX4_readBreak 0 = .ok (.aload_n 0, 1) := by decide +kernel
theorem dX4_readBreak_1 : decode cX4_readBreak 1 = .ok (.getfield 50, 3) := by decide +kernel
theorem dX4_readBreak_4 : decode cX4_readBreak 4 = .ok (.getfield 99, 3) := by decide +kernel
theorem dX4_readBreak_7 : decode cX4_readBreak 7 = .ok (.getfield 147, 3) := by decide +kernel
theorem dX4_readBreak_10 : decode cX4_readBreak 10 = .ok (.iconst (-1), 1) := by decide +kernel
theorem dX4_readBreak_11 : decode cX4_readBreak 11 = .ok (.if_icmp .eq 10, 3) := by decide +kernel
theorem dX4_readBreak_14 : decode cX4_readBreak 14 = .ok (.aload_n 0, 1) := by decide +kernel
theorem dX4_readBreak_15 : decode cX4_readBreak 15 = .ok (.bipush 6, 2) := by decide +kernel
theorem dX4_readBreak_17 : decode cX4_readBreak 17 = .ok (.invokevirtual 95, 3) := by decide +kernel
theorem dX4_readBreak_20 : decode cX4_readBreak 20 = .ok (.ireturn, 1) := by decide +kernel
theorem dX4_readBreak_21 : decode cX4_readBreak 21 = .ok (.aload_n 0, 1) := by decide +kernel
theorem dX4_readBreak_22 : decode cX4_readBreak 22 = .ok (.iconst 0, 1) := by decide +kernel
theorem dX4_readBreak_23 : decode cX4_readBreak 23 = .ok (.invokevirtual 108, 3) := by decide +kernel
theorem dX4_readBreak_26 : decode cX4_readBreak 26 = .ok (.ifCond .ne 5, 3) := by decide +kernel
theorem dX4_readBreak_29 : decode cX4_readBreak 29 = .ok (.iconst 0, 1) := by decide +kernel
theorem dX4_readBreak_30 : decode cX4_readBreak 30 = .ok (.ireturn, 1) := by decide +kernel
theorem dX4_readBreak_31 : decode cX4_readBreak 31 = .ok (.aload_n 0, 1) := by decide +kernel
theorem dX4_readBreak_32 : decode cX4_readBreak 32 = .ok (.getfield 37, 3) := by decide +kernel
theorem dX4_readBreak_35 : decode cX4_readBreak 35 = .ok (.istore_n 1, 1) := by decide +kernel
theorem dX4_readBreak_36 : decode cX4_readBreak 36 = .ok (.aload_n 0, 1) := by decide +kernel
theorem dX4_readBreak_37 : decode cX4_readBreak 37 = .ok (.iconst 2, 1) := by decide +kernel
theorem dX4_readBreak_38 : decode cX4_readBreak 38 = .ok (.invokevirtual 112, 3) := by decide +kernel
theorem dX4_readBreak_41 : decode cX4_readBreak 41 = .ok (.ifCond .ne 5, 3) := by decide +kernel
theorem dX4_readBreak_44 : decode cX4_readBreak 44 = .ok (.iconst 0, 1) := by decide +kernel
theorem dX4_readBreak_45 : decode cX4_readBreak 45 = .ok (.ireturn, 1) := by decide +kernel
theorem dX4_readBreak_46 : decode cX4_readBreak 46 = .ok (.aload_n 0, 1) := by decide +kernel
theorem dX4_readBreak_47 : decode cX4_readBreak 47 = .ok (.getfield 50, 3) := by decide +kernel
theorem dX4_readBreak_50 : decode cX4_readBreak 50 = .ok (.getfield 99, 3) := by decide +kernel
theorem dX4_readBreak_53 : decode cX4_readBreak 53 = .ok (.iload_n 1, 1) := by decide +kernel
theorem dX4_readBreak_54 : decode cX4_readBreak 54 = .ok (.aload_n 0, 1) := by decide +kernel
theorem dX4_readBreak_55 : decode cX4_readBreak 55 = .ok (.getfield 34, 3) := by decide +kernel
theorem dX4_readBreak_58 : decode cX4_readBreak 58 = .ok (.invokevirtual 150, 3) := by decide +kernel
theorem dX4_readBreak_61 : decode cX4_readBreak 61 = .ok (.aload_n 0, 1) := by decide +kernel
theorem dX4_readBreak_62 : decode cX4_readBreak 62 = .ok (.invokevirtual 122, 3) := by decide +kernel
theorem dX4_readBreak_65 : decode cX4_readBreak 65 = .ok (.ireturn, 1) := by decide +kernel
theorem dX4_readLine_0 : decode cX4_readLine 0 = .ok (.aload_n 0, 1) := by decide +kernel
theorem dX4_readLine_1 : decode cX4_readLine 1 = .ok (.ldc 66, 2) := by decide +kernel
theorem dX4_readLine_3 : decode cX4_readLine 3 = .ok (.invokevirtual 68, 3) := by decide +kernel
theorem dX4_readLine_6 : decode cX4_readLine 6 = .ok (.ifCond .eq 8, 3) := by decide +kernel
theorem dX4_readLine_9 : decode cX4_readLine 9 = .ok (.aload_n 0, 1) := by decide +kernel
theorem dX4_readLine_10 : decode cX4_readLine 10 = .ok (.invokevirtual 72, 3) := by decide +kernel
theorem dX4_readLine_13 : decode cX4_readLine 13 = .ok (.ireturn, 1) := by decide +kernel
theorem dX4_readLine_14 : decode cX4_readLine 14 = .ok (.aload_n 0, 1) := by decide +kernel
theorem dX4_readLine_15 : decode cX4_readLine 15 = .ok (.ldc 75, 2) := by decide +kernel
theorem dX4_readLine_17 : decode cX4_readLine 17 = .ok (.invokevirtual 68, 3) := by decide +kernel
theorem dX4_readLine_20 : decode cX4_readLine 20 = .ok (.ifCond .eq 8, 3) := by decide +kernel
theorem dX4_readLine_23 : decode cX4_readLine 23 = .ok (.aload_n 0, 1) := by decide +kernel
theorem dX4_readLine_24 : decode cX4_readLine 24 = .ok (.invokevirtual 77, 3) := by decide +kernel
theorem dX4_readLine_27 : decode cX4_readLine 27 = .ok (.ireturn, 1) := by decide +kernel
theorem dX4_readLine_28 : decode cX4_readLine 28 = .ok (.aload_n 0, 1) := by decide +kernel
theorem dX4_readLine_29 : decode cX4_readLine 29 = .ok (.ldc 80, 2) := by decide +kernel
theorem dX4_readLine_31 : decode cX4_readLine 31 = .ok (.invokevirtual 68, 3) := by decide +kernel
theorem dX4_readLine_34 : decode cX4_readLine 34 = .ok (.ifCond .eq 8, 3) := by decide +kernel
theorem dX4_readLine_37 : decode cX4_readLine 37 = .ok (.aload_n 0, 1) := by decide +kernel
theorem dX4_readLine_38 : decode cX4_readLine 38 = .ok (.invokevirtual 82, 3) := by decide +kernel
theorem dX4_readLine_41 : decode cX4_readLine 41 = .ok (.ireturn, 1) := by decide +kernel
theorem dX4_readLine_42 : decode cX4_readLine 42 = .ok (.aload_n 0, 1) := by decide +kernel
theorem dX4_readLine_43 : decode cX4_readLine 43 = .ok (.ldc 85, 2) := by decide +kernel
theorem dX4_readLine_45 : decode cX4_readLine 45 = .ok (.invokevirtual 68, 3) := by decide +kernel
theorem dX4_readLine_48 : decode cX4_readLine 48 = .ok (.ifCond .eq 8, 3) := by decide +kernel
theorem dX4_readLine_51 : decode cX4_readLine 51 = .ok (.aload_n 0, 1) := by decide +kernel
theorem dX4_readLine_52 : decode cX4_readLine 52 = .ok (.invokevirtual 87, 3) := by decide +kernel
theorem dX4_readLine_55 : decode cX4_readLine 55 = .ok (.ireturn, 1) := by decide +kernel
theorem dX4_readLine_56 : decode cX4_readLine 56 = .ok (.aload_n 0, 1) := by decide +kernel
theorem dX4_readLine_57 : decode cX4_readLine 57 = .ok (.ldc 90, 2) := by decide +kernel
theorem dX4_readLine_59 : decode cX4_readLine 59 = .ok (.invokevirtual 68, 3) := by decide +kernel
theorem dX4_readLine_62 : decode cX4_readLine 62 = .ok (.ifCond .eq 8, 3) := by decide +kernel
theorem dX4_readLine_65 : decode cX4_readLine 65 = .ok (.aload_n 0, 1) := by decide +kernel
theorem dX4_readLine_66 : decode cX4_readLine 66 = .ok (.invokevirtual 92, 3) := by decide +kernel
theorem dX4_readLine_69 : decode cX4_readLine 69 = .ok (.ireturn, 1) := by decide +kernel
theorem dX4_readLine_70 : decode cX4_readLine 70 = .ok (.aload_n 0, 1) := by decide +kernel
theorem dX4_readLine_71 : decode cX4_readLine 71 = .ok (.iconst 2, 1) := by decide +kernel
theorem dX4_readLine_72 : decode cX4_readLine 72 = .ok (.invokevirtual 95, 3) := by decide +kernel
theorem dX4_readLine_75 : decode cX4_readLine 75 = .ok (.ireturn, 1) := by decide +kernel
theorem dX4_readMonitor_0 : decode cX4_readMonitor 0 = .ok (.aload_n 0, 1) := by decide +kernel
theorem dX4_readMonitor_1 : decode cX4_readMonitor 1 = .ok (.iconst 0, 1) := by decide +kernel
theorem dX4_readMonitor_2 : decode cX4_readMonitor 2 = .ok (.invokevirtual 108, 3) := by decide +kernel
theorem dX4_readMonitor_5 : decode cX4_readMonitor 5 = .ok (.ifCond .ne 5, 3) := by decide +kernel
theorem dX4_readMonitor_8 : decode cX4_readMonitor 8 = .ok (.iconst 0, 1) := by decide +kernel
theorem dX4_readMonitor_9 : decode cX4_readMonitor 9 = .ok (.ireturn, 1) := by decide +kernel
theorem dX4_readMonitor_10 : decode cX4_readMonitor 10 = .ok (.aload_n 0, 1) := by decide +kernel
theorem dX4_readMonitor_11 : decode cX4_readMonitor 11 = .ok (.getfield 50, 3) := by decide +kernel
theorem dX4_readMonitor_14 : decode cX4_readMonitor 14 = .ok (.getfield 99, 3) := by decide +kernel
theorem dX4_readMonitor_17 : decode cX4_readMonitor 17 = .ok (.aload_n 0, 1) := by decide +kernel
theorem dX4_readMonitor_18 : decode cX4_readMonitor 18 = .ok (.getfield 37, 3) := by decide +kernel
theorem dX4_readMonitor_21 : decode cX4_readMonitor 21 = .ok (.putfield 131, 3) := by decide +kernel
theorem dX4_readMonitor_24 : decode cX4_readMonitor 24 = .ok (.aload_n 0, 1) := by decide +kernel
theorem dX4_readMonitor_25 : decode cX4_readMonitor 25 = .ok (.invokevirtual 122, 3) := by decide +kernel
theorem dX4_readMonitor_28 : decode cX4_readMonitor 28 = .ok (.ireturn, 1) := by decide +kernel
theorem dX4_readName_0 : decode cX4_readName 0 = .ok (.aload_n 0, 1) := by decide +kernel
theorem dX4_readName_1 : decode cX4_readName 1 = .ok (.invokevirtual 59, 3) := by decide +kernel
theorem dX4_readName_4 : decode cX4_readName 4 = .ok (.ifCond .ne 5, 3) := by decide +kernel
theorem dX4_readName_7 : decode cX4_readName 7 = .ok (.iconst 0, 1) := by decide +kernel
theorem dX4_readName_8 : decode cX4_readName 8 = .ok (.ireturn, 1) := by decide +kernel
theorem dX4_readName_9 : decode cX4_readName 9 = .ok (.aload_n 0, 1) := by decide +kernel
theorem dX4_readName_10 : decode cX4_readName 10 = .ok (.getfield 25, 3) := by decide +kernel
theorem dX4_readName_13 : decode cX4_readName 13 = .ok (.iconst 1, 1) := by decide +kernel
theorem dX4_readName_14 : decode cX4_readName 14 = .ok (.if_icmp .ne 19, 3) := by decide +kernel
theorem dX4_readName_17 : decode cX4_readName 17 = .ok (.aload_n 0, 1) := by decide +kernel
theorem dX4_readName_18 : decode cX4_readName 18 = .ok (.getfield 31, 3) := by decide +kernel
theorem dX4_readName_21 : decode cX4_readName 21 = .ok (.bipush 8, 2) := by decide +kernel
theorem dX4_readName_23 : decode cX4_readName 23 = .ok (.if_icmp .gt 10, 3) := by decide +kernel
theorem dX4_readName_26 : decode cX4_readName 26 = .ok (.aload_n 0, 1) := by decide +kernel
theorem dX4_readName_27 : decode cX4_readName 27 = .ok (.invokevirtual 154, 3) := by decide +kernel
theorem dX4_readName_30 : decode cX4_readName 30 = .ok (.ifCond .eq 9, 3) := by decide +kernel
theorem dX4_readName_33 : decode cX4_readName 33 = .ok (.aload_n 0, 1) := by decide +kernel
theorem dX4_readName_34 : decode cX4_readName 34 = .ok (.iconst 2, 1) := by decide +kernel
theorem dX4_readName_35 : decode cX4_readName 35 = .ok (.invokevirtual 95, 3) := by decide +kernel
theorem dX4_readName_38 : decode cX4_readName 38 = .ok (.ireturn, 1) := by decide +kernel
theorem dX4_readName_39 : decode cX4_readName 39 = .ok (.aload_n 0, 1) := by decide +kernel
theorem dX4_readName_40 : decode cX4_readName 40 = .ok (.iconst (-1), 1) := by decide +kernel
theorem dX4_readName_41 : decode cX4_readName 41 = .ok (.putfield 37, 3) := by decide +kernel
theorem dX4_readName_44 : decode cX4_readName 44 = .ok (.iconst 0, 1) := by decide +kernel
theorem dX4_readName_45 : decode cX4_readName 45 = .ok (.istore_n 2, 1) := by decide +kernel
theorem dX4_readName_46 : decode cX4_readName 46 = .ok (.iload_n 2, 1) := by decide +kernel
theorem dX4_readName_47 : decode cX4_readName 47 = .ok (.aload_n 0, 1) := by decide +kernel
theorem dX4_readName_48 : decode cX4_readName 48 = .ok (.getfield 50, 3) := by decide +kernel
theorem dX4_readName_51 : decode cX4_readName 51 = .ok (.getfield 99, 3) := by decide +kernel
theorem dX4_readName_54 : decode cX4_readName 54 = .ok (.getfield 103, 3) := by decide +kernel
theorem dX4_readName_57 : decode cX4_readName 57 = .ok (.if_icmp .ge 22, 3) := by decide +kernel
theorem dX4_readName_60 : decode cX4_readName 60 = .ok (.aload_n 0, 1) := by decide +kernel
theorem dX4_readName_61 : decode cX4_readName 61 = .ok (.iload_n 2, 1) := by decide +kernel
theorem dX4_readName_62 : decode cX4_readName 62 = .ok (.invokevirtual 157, 3) := by decide +kernel
theorem dX4_readName_65 : decode cX4_readName 65 = .ok (.ifCond .eq 8, 3) := by decide +kernel
theorem dX4_readName_68 : decode cX4_readName 68 = .ok (.aload_n 0, 1) := by decide +kernel
theorem dX4_readName_69 : decode cX4_readName 69 = .ok (.iload_n 2, 1) := by decide +kernel
theorem dX4_readName_70 : decode cX4_readName 70 = .ok (.putfield 37, 3) := by decide +kernel
theorem dX4_readName_73 : decode cX4_readName 73 = .ok (.iinc 2 1, 3) := by decide +kernel
theorem dX4_readName_76 : decode cX4_readName 76 = .ok (.goto (-30), 3) := by decide +kernel
theorem dX4_readName_79 : decode cX4_readName 79 = .ok (.iload_n 1, 1) := by decide +kernel
theorem dX4_readName_80 : decode cX4_readName 80 = .ok (.aload_n 0, 1) := by decide +kernel
theorem dX4_readName_81 : decode cX4_readName 81 = .ok (.getfield 37, 3) := by decide +kernel
theorem dX4_readName_84 : decode cX4_readName 84 = .ok (.iconst (-1), 1) := by decide +kernel
theorem dX4_readName_85 : decode cX4_readName 85 = .ok (.if_icmp .ne 7, 3) := by decide +kernel
theorem dX4_readName_88 : decode cX4_readName 88 = .ok (.iconst 1, 1) := by decide +kernel
theorem dX4_readName_89 : decode cX4_readName 89 = .ok (.goto 4, 3) := by decide +kernel
theorem dX4_readName_92 : decode cX4_readName 92 = .ok (.iconst 0, 1) := by decide +kernel
theorem dX4_readName_93 : decode cX4_readName 93 = .ok (.if_icmp .eq 11, 3) := by decide +kernel
theorem dX4_readName_96 : decode cX4_readName 96 = .ok (.aload_n 0, 1) := by decide +kernel
theorem dX4_readName_97 : decode cX4_readName 97 = .ok (.iconst 3, 1) := by decide +kernel
theorem dX4_readName_98 : decode cX4_readName 98 = .ok (.invokevirtual 95, 3) := by decide +kernel
theorem dX4_readName_101 : decode cX4_readName 101 = .ok (.ifCond .eq 7, 3) := by decide +kernel
theorem dX4_readName_104 : decode cX4_readName 104 = .ok (.iconst 1, 1) := by decide +kernel
theorem dX4_readName_105 : decode cX4_readName 105 = .ok (.goto 4, 3) := by decide +kernel
theorem dX4_readName_108 : decode cX4_readName 108 = .ok (.iconst 0, 1) := by decide +kernel
theorem dX4_readName_109 : decode cX4_readName 109 = .ok (.ireturn, 1) := by decide +kernel
theorem dX4_readNumber_0 : decode cX4_readNumber 0 = .ok (.aload_n 0, 1) := by decide +kernel
theorem dX4_readNumber_1 : decode cX4_readNumber 1 = .ok (.invokevirtual 59, 3) := by decide +kernel
theorem dX4_readNumber_4 : decode cX4_readNumber 4 = .ok (.ifCond .ne 5, 3) := by decide +kernel
theorem dX4_readNumber_7 : decode cX4_readNumber 7 = .ok (.iconst 0, 1) := by decide +kernel
theorem dX4_readNumber_8 : decode cX4_readNumber 8 = .ok (.ireturn, 1) := by decide +kernel
theorem dX4_readNumber_9 : decode cX4_readNumber 9 = .ok (.aload_n 0, 1) := by decide +kernel
theorem dX4_readNumber_10 : decode cX4_readNumber 10 = .ok (.getfield 25, 3) := by decide +kernel
theorem dX4_readNumber_13 : decode cX4_readNumber 13 = .ok (.iconst 2, 1) := by decide +kernel
theorem dX4_readNumber_14 : decode cX4_readNumber 14 = .ok (.if_icmp .eq 9, 3) := by decide +kernel
theorem dX4_readNumber_17 : decode cX4_readNumber 17 = .ok (.aload_n 0, 1) := by decide +kernel
theorem dX4_readNumber_18 : decode cX4_readNumber 18 = .ok (.iconst 2, 1) := by decide +kernel
theorem dX4_readNumber_19 : decode cX4_readNumber 19 = .ok (.invokevirtual 95, 3) := by decide +kernel
theorem dX4_readNumber_22 : decode cX4_readNumber 22 = .ok (.ireturn, 1) := by decide +kernel
theorem dX4_readNumber_23 : decode cX4_readNumber 23 = .ok (.aload_n 0, 1) := by decide +kernel
theorem dX4_readNumber_24 : decode cX4_readNumber 24 = .ok (.getfield 34, 3) := by decide +kernel
theorem dX4_readNumber_27 : decode cX4_readNumber 27 = .ok (.iload_n 1, 1) := by decide +kernel
theorem dX4_readNumber_28 : decode cX4_readNumber 28 = .ok (.if_icmp .le 11, 3) := by decide +kernel
theorem dX4_readNumber_31 : decode cX4_readNumber 31 = .ok (.aload_n 0, 1) := by decide +kernel
theorem dX4_readNumber_32 : decode cX4_readNumber 32 = .ok (.iconst 4, 1) := by decide +kernel
theorem dX4_readNumber_33 : decode cX4_readNumber 33 = .ok (.invokevirtual 95, 3) := by decide +kernel
theorem dX4_readNumber_36 : decode cX4_readNumber 36 = .ok (.ifCond .eq 7, 3) := by decide +kernel
theorem dX4_readNumber_39 : decode cX4_readNumber 39 = .ok (.iconst 1, 1) := by decide +kernel
theorem dX4_readNumber_40 : decode cX4_readNumber 40 = .ok (.goto 4, 3) := by decide +kernel
theorem dX4_readNumber_43 : decode cX4_readNumber 43 = .ok (.iconst 0, 1) := by decide +kernel
theorem dX4_readNumber_44 : decode cX4_readNumber 44 = .ok (.ireturn, 1) := by decide +kernel
theorem dX4_readOff_0 : decode cX4_readOff 0 = .ok (.aload_n 0, 1) := by decide +kernel
theorem dX4_readOff_1 : decode cX4_readOff 1 = .ok (.iconst 0, 1) := by decide +kernel
theorem dX4_readOff_2 : decode cX4_readOff 2 = .ok (.invokevirtual 108, 3) := by decide +kernel
theorem dX4_readOff_5 : decode cX4_readOff 5 = .ok (.ifCond .ne 5, 3) := by decide +kernel
theorem dX4_readOff_8 : decode cX4_readOff 8 = .ok (.iconst 0, 1) := by decide +kernel
theorem dX4_readOff_9 : decode cX4_readOff 9 = .ok (.ireturn, 1) := by decide +kernel
theorem dX4_readOff_10 : decode cX4_readOff 10 = .ok (.aload_n 0, 1) := by decide +kernel
theorem dX4_readOff_11 : decode cX4_readOff 11 = .ok (.getfield 50, 3) := by decide +kernel
theorem dX4_readOff_14 : decode cX4_readOff 14 = .ok (.getfield 99, 3) := by decide +kernel
theorem dX4_readOff_17 : decode cX4_readOff 17 = .ok (.aload_n 0, 1) := by decide +kernel
theorem dX4_readOff_18 : decode cX4_readOff 18 = .ok (.getfield 37, 3) := by decide +kernel
theorem dX4_readOff_21 : decode cX4_readOff 21 = .ok (.invokevirtual 125, 3) := by decide +kernel
theorem dX4_readOff_24 : decode cX4_readOff 24 = .ok (.ifCond .ne 9, 3) := by decide +kernel
theorem dX4_readOff_27 : decode cX4_readOff 27 = .ok (.aload_n 0, 1) := by decide +kernel
theorem dX4_readOff_28 : decode cX4_readOff 28 = .ok (.iconst 5, 1) := by decide +kernel
theorem dX4_readOff_29 : decode cX4_readOff 29 = .ok (.invokevirtual 95, 3) := by decide +kernel
theorem dX4_readOff_32 : decode cX4_readOff 32 = .ok (.ireturn, 1) := by decide +kernel
theorem dX4_readOff_33 : decode cX4_readOff 33 = .ok (.aload_n 0, 1) := by decide +kernel
theorem dX4_readOff_34 : decode cX4_readOff 34 = .ok (.getfield 50, 3) := by decide +kernel
theorem dX4_readOff_37 : decode cX4_readOff 37 = .ok (.getfield 99, 3) := by decide +kernel
theorem dX4_readOff_40 : decode cX4_readOff 40 = .ok (.aload_n 0, 1) := by decide +kernel
theorem dX4_readOff_41 : decode cX4_readOff 41 = .ok (.getfield 37, 3) := by decide +kernel
theorem dX4_readOff_44 : decode cX4_readOff 44 = .ok (.invokevirtual 128, 3) := by decide +kernel
theorem dX4_readOff_47 : decode cX4_readOff 47 = .ok (.aload_n 0, 1) := by decide +kernel
theorem dX4_readOff_48 : decode cX4_readOff 48 = .ok (.invokevirtual 122, 3) := by decide +kernel
theorem dX4_readOff_51 : decode cX4_readOff 51 = .ok (.ireturn, 1) := by decide +kernel
theorem dX4_readSend_0 : decode cX4_readSend 0 = .ok (.aload_n 0, 1) := by decide +kernel
theorem dX4_readSend_1 : decode cX4_readSend 1 = .ok (.iconst 0, 1) := by decide +kernel
theorem dX4_readSend_2 : decode cX4_readSend 2 = .ok (.invokevirtual 108, 3) := by decide +kernel
theorem dX4_readSend_5 : decode cX4_readSend 5 = .ok (.ifCond .ne 5, 3) := by decide +kernel
theorem dX4_readSend_8 : decode cX4_readSend 8 = .ok (.iconst 0, 1) := by decide +kernel
theorem dX4_readSend_9 : decode cX4_readSend 9 = .ok (.ireturn, 1) := by decide +kernel
theorem dX4_readSend_10 : decode cX4_readSend 10 = .ok (.aload_n 0, 1) := by decide +kernel
theorem dX4_readSend_11 : decode cX4_readSend 11 = .ok (.getfield 37, 3) := by decide +kernel
theorem dX4_readSend_14 : decode cX4_readSend 14 = .ok (.istore_n 1, 1) := by decide +kernel
theorem dX4_readSend_15 : decode cX4_readSend 15 = .ok (.aload_n 0, 1) := by decide +kernel
theorem dX4_readSend_16 : decode cX4_readSend 16 = .ok (.getfield 50, 3) := by decide +kernel
theorem dX4_readSend_19 : decode cX4_readSend 19 = .ok (.getfield 134, 3) := by decide +kernel
theorem dX4_readSend_22 : decode cX4_readSend 22 = .ok (.iload_n 1, 1) := by decide +kernel
theorem dX4_readSend_23 : decode cX4_readSend 23 = .ok (.invokevirtual 138, 3) := by decide +kernel
theorem dX4_readSend_26 : decode cX4_readSend 26 = .ok (.ifCond .eq 10, 3) := by decide +kernel
theorem dX4_readSend_29 : decode cX4_readSend 29 = .ok (.aload_n 0, 1) := by decide +kernel
theorem dX4_readSend_30 : decode cX4_readSend 30 = .ok (.bipush 6, 2) := by decide +kernel
theorem dX4_readSend_32 : decode cX4_readSend 32 = .ok (.invokevirtual 95, 3) := by decide +kernel
theorem dX4_readSend_35 : decode cX4_readSend 35 = .ok (.ireturn, 1) := by decide +kernel
theorem dX4_readSend_36 : decode cX4_readSend 36 = .ok (.aload_n 0, 1) := by decide +kernel
theorem dX4_readSend_37 : decode cX4_readSend 37 = .ok (.iconst 0, 1) := by decide +kernel
theorem dX4_readSend_38 : decode cX4_readSend 38 = .ok (.invokevirtual 108, 3) := by decide +kernel
theorem dX4_readSend_41 : decode cX4_readSend 41 = .ok (.ifCond .ne 5, 3) := by decide +kernel
theorem dX4_readSend_44 : decode cX4_readSend 44 = .ok (.iconst 0, 1) := by decide +kernel
theorem dX4_readSend_45 : decode cX4_readSend 45 = .ok (.ireturn, 1) := by decide +kernel
theorem dX4_readSend_46 : decode cX4_readSend 46 = .ok (.aload_n 0, 1) := by decide +kernel
theorem dX4_readSend_47 : decode cX4_readSend 47 = .ok (.getfield 37, 3) := by decide +kernel
theorem dX4_readSend_50 : decode cX4_readSend 50 = .ok (.istore_n 2, 1) := by decide +kernel
theorem dX4_readSend_51 : decode cX4_readSend 51 = .ok (.iload_n 2, 1) := by decide +kernel
theorem dX4_readSend_52 : decode cX4_readSend 52 = .ok (.iload_n 1, 1) := by decide +kernel
theorem dX4_readSend_53 : decode cX4_readSend 53 = .ok (.if_icmp .ne 9, 3) := by decide +kernel
theorem dX4_readSend_56 : decode cX4_readSend 56 = .ok (.aload_n 0, 1) := by decide +kernel
theorem dX4_readSend_57 : decode cX4_readSend 57 = .ok (.iconst 5, 1) := by decide +kernel
theorem dX4_readSend_58 : decode cX4_readSend 58 = .ok (.invokevirtual 95, 3) := by decide +kernel
theorem dX4_readSend_61 : decode cX4_readSend 61 = .ok (.ireturn, 1) := by decide +kernel
theorem dX4_readSend_62 : decode cX4_readSend 62 = .ok (.aload_n 0, 1) := by decide +kernel
theorem dX4_readSend_63 : decode cX4_readSend 63 = .ok (.bipush 7, 2) := by decide +kernel
theorem dX4_readSend_65 : decode cX4_readSend 65 = .ok (.invokevirtual 112, 3) := by decide +kernel
theorem dX4_readSend_68 : decode cX4_readSend 68 = .ok (.ifCond .ne 5, 3) := by decide +kernel
theorem dX4_readSend_71 : decode cX4_readSend 71 = .ok (.iconst 0, 1) := by decide +kernel
theorem dX4_readSend_72 : decode cX4_readSend 72 = .ok (.ireturn, 1) := by decide +kernel
theorem dX4_readSend_73 : decode cX4_readSend 73 = .ok (.aload_n 0, 1) := by decide +kernel
theorem dX4_readSend_74 : decode cX4_readSend 74 = .ok (.getfield 50, 3) := by decide +kernel
theorem dX4_readSend_77 : decode cX4_readSend 77 = .ok (.iload_n 1, 1) := by decide +kernel
theorem dX4_readSend_78 : decode cX4_readSend 78 = .ok (.iload_n 2, 1) := by decide +kernel
theorem dX4_readSend_79 : decode cX4_readSend 79 = .ok (.aload_n 0, 1) := by decide +kernel
theorem dX4_readSend_80 : decode cX4_readSend 80 = .ok (.getfield 34, 3) := by decide +kernel
theorem dX4_readSend_83 : decode cX4_readSend 83 = .ok (.invokevirtual 143, 3) := by decide +kernel
theorem dX4_readSend_86 : decode cX4_readSend 86 = .ok (.pop, 1) := by decide +kernel
theorem dX4_readSend_87 : decode cX4_readSend 87 = .ok (.aload_n 0, 1) := by decide +kernel
theorem dX4_readSend_88 : decode cX4_readSend 88 = .ok (.invokevirtual 122, 3) := by decide +kernel
theorem dX4_readSend_91 : decode cX4_readSend 91 = .ok (.ireturn, 1) := by decide +kernel
theorem dX4_readSign_0 : decode cX4_readSign 0 = .ok (.aload_n 0, 1) := by decide +kernel
theorem dX4_readSign_1 : decode cX4_readSign 1 = .ok (.invokevirtual 59, 3) := by decide +kernel
theorem dX4_readSign_4 : decode cX4_readSign 4 = .ok (.ifCond .ne 5, 3) := by decide +kernel
theorem dX4_readSign_7 : decode cX4_readSign 7 = .ok (.iconst 0, 1) := by decide +kernel
theorem dX4_readSign_8 : decode cX4_readSign 8 = .ok (.ireturn, 1) := by decide +kernel
theorem dX4_readSign_9 : decode cX4_readSign 9 = .ok (.aload_n 0, 1) := by decide +kernel
theorem dX4_readSign_10 : decode cX4_readSign 10 = .ok (.getfield 25, 3) := by decide +kernel
theorem dX4_readSign_13 : decode cX4_readSign 13 = .ok (.iconst 3, 1) := by decide +kernel
theorem dX4_readSign_14 : decode cX4_readSign 14 = .ok (.if_icmp .eq 11, 3) := by decide +kernel
theorem dX4_readSign_17 : decode cX4_readSign 17 = .ok (.aload_n 0, 1) := by decide +kernel
theorem dX4_readSign_18 : decode cX4_readSign 18 = .ok (.iconst 2, 1) := by decide +kernel
theorem dX4_readSign_19 : decode cX4_readSign 19 = .ok (.invokevirtual 95, 3) := by decide +kernel
theorem dX4_readSign_22 : decode cX4_readSign 22 = .ok (.ifCond .eq 7, 3) := by decide +kernel
theorem dX4_readSign_25 : decode cX4_readSign 25 = .ok (.iconst 1, 1) := by decide +kernel
theorem dX4_readSign_26 : decode cX4_readSign 26 = .ok (.goto 4, 3) := by decide +kernel
theorem dX4_readSign_29 : decode cX4_readSign 29 = .ok (.iconst 0, 1) := by decide +kernel
theorem dX4_readSign_30 : decode cX4_readSign 30 = .ok (.ireturn, 1) := by decide +kernel
theorem dX4_readStation_0 : decode cX4_readStation 0 = .ok (.aload_n 0, 1) := by decide +kernel
theorem dX4_readStation_1 : decode cX4_readStation 1 = .ok (.getfield 50, 3) := by decide +kernel
theorem dX4_readStation_4 : decode cX4_readStation 4 = .ok (.getfield 99, 3) := by decide +kernel
theorem dX4_readStation_7 : decode cX4_readStation 7 = .ok (.astore_n 1, 1) := by decide +kernel
theorem dX4_readStation_8 : decode cX4_readStation 8 = .ok (.aload_n 1, 1) := by decide +kernel
theorem dX4_readStation_9 : decode cX4_readStation 9 = .ok (.getfield 103, 3) := by decide +kernel
theorem dX4_readStation_12 : decode cX4_readStation 12 = .ok (.istore_n 2, 1) := by decide +kernel
theorem dX4_readStation_13 : decode cX4_readStation 13 = .ok (.iload_n 2, 1) := by decide +kernel
theorem dX4_readStation_14 : decode cX4_readStation 14 = .ok (.ifCond .lt 9, 3) := by decide +kernel
theorem dX4_readStation_17 : decode cX4_readStation 17 = .ok (.iload_n 2, 1) := by decide +kernel
theorem dX4_readStation_18 : decode cX4_readStation 18 = .ok (.bipush 8, 2) := by decide +kernel
theorem dX4_readStation_20 : decode cX4_readStation 20 = .ok (.if_icmp .lt 10, 3) := by decide +kernel
theorem dX4_readStation_23 : decode cX4_readStation 23 = .ok (.aload_n 0, 1) := by decide +kernel
theorem dX4_readStation_24 : decode cX4_readStation 24 = .ok (.bipush 6, 2) := by decide +kernel
theorem dX4_readStation_26 : decode cX4_readStation 26 = .ok (.invokevirtual 95, 3) := by decide +kernel
theorem dX4_readStation_29 : decode cX4_readStation 29 = .ok (.ireturn, 1) := by decide +kernel
theorem dX4_readStation_30 : decode cX4_readStation 30 = .ok (.aload_n 0, 1) := by decide +kernel
theorem dX4_readStation_31 : decode cX4_readStation 31 = .ok (.iconst 1, 1) := by decide +kernel
theorem dX4_readStation_32 : decode cX4_readStation 32 = .ok (.invokevirtual 108, 3) := by decide +kernel
theorem dX4_readStation_35 : decode cX4_readStation 35 = .ok (.ifCond .ne 5, 3) := by decide +kernel
theorem dX4_readStation_38 : decode cX4_readStation 38 = .ok (.iconst 0, 1) := by decide +kernel
theorem dX4_readStation_39 : decode cX4_readStation 39 = .ok (.ireturn, 1) := by decide +kernel
theorem dX4_readStation_40 : decode cX4_readStation 40 = .ok (.aload_n 0, 1) := by decide +kernel
theorem dX4_readStation_41 : decode cX4_readStation 41 = .ok (.getfield 9, 3) := by decide +kernel
theorem dX4_readStation_44 : decode cX4_readStation 44 = .ok (.iload_n 2, 1) := by decide +kernel
theorem dX4_readStation_45 : decode cX4_readStation 45 = .ok (.aload_n 0, 1) := by decide +kernel
theorem dX4_readStation_46 : decode cX4_readStation 46 = .ok (.getfield 28, 3) := by decide +kernel
theorem dX4_readStation_49 : decode cX4_readStation 49 = .ok (.iastore, 1) := by decide +kernel
theorem dX4_readStation_50 : decode cX4_readStation 50 = .ok (.aload_n 0, 1) := by decide +kernel
theorem dX4_readStation_51 : decode cX4_readStation 51 = .ok (.getfield 15, 3) := by decide +kernel
theorem dX4_readStation_54 : decode cX4_readStation 54 = .ok (.iload_n 2, 1) := by decide +kernel
theorem dX4_readStation_55 : decode cX4_readStation 55 = .ok (.aload_n 0, 1) := by decide +kernel
theorem dX4_readStation_56 : decode cX4_readStation 56 = .ok (.getfield 31, 3) := by decide +kernel
theorem dX4_readStation_59 : decode cX4_readStation 59 = .ok (.iastore, 1) := by decide +kernel
theorem dX4_readStation_60 : decode cX4_readStation 60 = .ok (.aload_n 0, 1) := by decide +kernel
theorem dX4_readStation_61 : decode cX4_readStation 61 = .ok (.bipush 99, 2) := by decide +kernel
theorem dX4_readStation_63 : decode cX4_readStation 63 = .ok (.invokevirtual 112, 3) := by decide +kernel
theorem dX4_readStation_66 : decode cX4_readStation 66 = .ok (.ifCond .ne 5, 3) := by decide +kernel
theorem dX4_readStation_69 : decode cX4_readStation 69 = .ok (.iconst 0, 1) := by decide +kernel
theorem dX4_readStation_70 : decode cX4_readStation 70 = .ok (.ireturn, 1) := by decide +kernel
theorem dX4_readStation_71 : decode cX4_readStation 71 = .ok (.aload_n 1, 1) := by decide +kernel
theorem dX4_readStation_72 : decode cX4_readStation 72 = .ok (.aload_n 0, 1) := by decide +kernel
theorem dX4_readStation_73 : decode cX4_readStation 73 = .ok (.getfield 34, 3) := by decide +kernel
theorem dX4_readStation_76 : decode cX4_readStation 76 = .ok (.invokevirtual 115, 3) := by decide +kernel
theorem dX4_readStation_79 : decode cX4_readStation 79 = .ok (.ifCond .eq 9, 3) := by decide +kernel
theorem dX4_readStation_82 : decode cX4_readStation 82 = .ok (.aload_n 0, 1) := by decide +kernel
theorem dX4_readStation_83 : decode cX4_readStation 83 = .ok (.iconst 4, 1) := by decide +kernel
theorem dX4_readStation_84 : decode cX4_readStation 84 = .ok (.invokevirtual 95, 3) := by decide +kernel
theorem dX4_readStation_87 : decode cX4_readStation 87 = .ok (.ireturn, 1) := by decide +kernel
theorem dX4_readStation_88 : decode cX4_readStation 88 = .ok (.aload_n 1, 1) := by decide +kernel
theorem dX4_readStation_89 : decode cX4_readStation 89 = .ok (.aload_n 0, 1) := by decide +kernel
theorem dX4_readStation_90 : decode cX4_readStation 90 = .ok (.getfield 34, 3) := by decide +kernel
theorem dX4_readStation_93 : decode cX4_readStation 93 = .ok (.invokevirtual 118, 3) := by decide +kernel
theorem dX4_readStation_96 : decode cX4_readStation 96 = .ok (.aload_n 0, 1) := by decide +kernel
theorem dX4_readStation_97 : decode cX4_readStation 97 = .ok (.invokevirtual 122, 3) := by decide +kernel
theorem dX4_readStation_100 : decode cX4_readStation 100 = .ok (.ireturn, 1) := by decide +kernel
theorem dX4_readText_0 : decode cX4_readText 0 = .ok (.aload_n 0, 1) := by decide +kernel
theorem dX4_readText_1 : decode cX4_readText 1 = .ok (.getfield 50, 3) := by decide +kernel
theorem dX4_readText_4 : decode cX4_readText 4 = .ok (.invokevirtual 54, 3) := by decide +kernel
theorem dX4_readText_7 : decode cX4_readText 7 = .ok (.aload_n 0, 1) := by decide +kernel
theorem dX4_readText_8 : decode cX4_readText 8 = .ok (.iload_n 1, 1) := by decide +kernel
theorem dX4_readText_9 : decode cX4_readText 9 = .ok (.putfield 18, 3) := by decide +kernel
theorem dX4_readText_12 : decode cX4_readText 12 = .ok (.aload_n 0, 1) := by decide +kernel
theorem dX4_readText_13 : decode cX4_readText 13 = .ok (.iconst 0, 1) := by decide +kernel
theorem dX4_readText_14 : decode cX4_readText 14 = .ok (.putfield 22, 3) := by decide +kernel
theorem dX4_readText_17 : decode cX4_readText 17 = .ok (.aload_n 0, 1) := by decide +kernel
theorem dX4_readText_18 : decode cX4_readText 18 = .ok (.iconst 0, 1) := by decide +kernel
theorem dX4_readText_19 : decode cX4_readText 19 = .ok (.putfield 40, 3) := by decide +kernel
theorem dX4_readText_22 : decode cX4_readText 22 = .ok (.aload_n 0, 1) := by decide +kernel
theorem dX4_readText_23 : decode cX4_readText 23 = .ok (.iconst (-1), 1) := by decide +kernel
theorem dX4_readText_24 : decode cX4_readText 24 = .ok (.putfield 43, 3) := by decide +kernel
theorem dX4_readText_27 : decode cX4_readText 27 = .ok (.iconst 0, 1) := by decide +kernel
theorem dX4_readText_28 : decode cX4_readText 28 = .ok (.istore_n 2, 1) := by decide +kernel
theorem dX4_readText_29 : decode cX4_readText 29 = .ok (.iload_n 2, 1) := by decide +kernel
theorem dX4_readText_30 : decode cX4_readText 30 = .ok (.sipush 500, 3) := by decide +kernel
theorem dX4_readText_33 : decode cX4_readText 33 = .ok (.if_icmp .gt 36, 3) := by decide +kernel
theorem dX4_readText_36 : decode cX4_readText 36 = .ok (.aload_n 0, 1) := by decide +kernel
theorem dX4_readText_37 : decode cX4_readText 37 = .ok (.invokevirtual 59, 3) := by decide +kernel
theorem dX4_readText_40 : decode cX4_readText 40 = .ok (.ifCond .ne 5, 3) := by decide +kernel
theorem dX4_readText_43 : decode cX4_readText 43 = .ok (.iconst 0, 1) := by decide +kernel
theorem dX4_readText_44 : decode cX4_readText 44 = .ok (.ireturn, 1) := by decide +kernel
theorem dX4_readText_45 : decode cX4_readText 45 = .ok (.aload_n 0, 1) := by decide +kernel
theorem dX4_readText_46 : decode cX4_readText 46 = .ok (.getfield 25, 3) := by decide +kernel
theorem dX4_readText_49 : decode cX4_readText 49 = .ok (.ifCond .ne 5, 3) := by decide +kernel
theorem dX4_readText_52 : decode cX4_readText 52 = .ok (.iconst 1, 1) := by decide +kernel
theorem dX4_readText_53 : decode cX4_readText 53 = .ok (.ireturn, 1) := by decide +kernel
theorem dX4_readText_54 : decode cX4_readText 54 = .ok (.aload_n 0, 1) := by decide +kernel
theorem dX4_readText_55 : decode cX4_readText 55 = .ok (.invokevirtual 63, 3) := by decide +kernel
theorem dX4_readText_58 : decode cX4_readText 58 = .ok (.ifCond .ne 5, 3) := by decide +kernel
theorem dX4_readText_61 : decode cX4_readText 61 = .ok (.iconst 0, 1) := by decide +kernel
theorem dX4_readText_62 : decode cX4_readText 62 = .ok (.ireturn, 1) := by decide +kernel
theorem dX4_readText_63 : decode cX4_readText 63 = .ok (.iinc 2 1, 3) := by decide +kernel
theorem dX4_readText_66 : decode cX4_readText 66 = .ok (.goto (-37), 3) := by decide +kernel
theorem dX4_readText_69 : decode cX4_readText 69 = .ok (.iconst 1, 1) := by decide +kernel
theorem dX4_readText_70 : decode cX4_readText 70 = .ok (.ireturn, 1) := by decide +kernel
theorem dX4_readToken_0 : decode cX4_readToken 0 = .ok (.aload_n 0, 1) := by decide +kernel
theorem dX4_readToken_1 : decode cX4_readToken 1 = .ok (.invokevirtual 160, 3) := by decide +kernel
theorem dX4_readToken_4 : decode cX4_readToken 4 = .ok (.aload_n 0, 1) := by decide +kernel
theorem dX4_readToken_5 : decode cX4_readToken 5 = .ok (.aload_n 0, 1) := by decide +kernel
theorem dX4_readToken_6 : decode cX4_readToken 6 = .ok (.getfield 22, 3) := by decide +kernel
theorem dX4_readToken_9 : decode cX4_readToken 9 = .ok (.putfield 28, 3) := by decide +kernel
theorem dX4_readToken_12 : decode cX4_readToken 12 = .ok (.aload_n 0, 1) := by decide +kernel
theorem dX4_readToken_13 : decode cX4_readToken 13 = .ok (.iconst 0, 1) := by decide +kernel
theorem dX4_readToken_14 : decode cX4_readToken 14 = .ok (.putfield 31, 3) := by decide +kernel
theorem dX4_readToken_17 : decode cX4_readToken 17 = .ok (.aload_n 0, 1) := by decide +kernel
theorem dX4_readToken_18 : decode cX4_readToken 18 = .ok (.getfield 22, 3) := by decide +kernel
theorem dX4_readToken_21 : decode cX4_readToken 21 = .ok (.aload_n 0, 1) := by decide +kernel
theorem dX4_readToken_22 : decode cX4_readToken 22 = .ok (.getfield 18, 3) := by decide +kernel
theorem dX4_readToken_25 : decode cX4_readToken 25 = .ok (.if_icmp .lt 10, 3) := by decide +kernel
theorem dX4_readToken_28 : decode cX4_readToken 28 = .ok (.aload_n 0, 1) := by decide +kernel
theorem dX4_readToken_29 : decode cX4_readToken 29 = .ok (.iconst 0, 1) := by decide +kernel
theorem dX4_readToken_30 : decode cX4_readToken 30 = .ok (.putfield 25, 3) := by decide +kernel
theorem dX4_readToken_33 : decode cX4_readToken 33 = .ok (.iconst 1, 1) := by decide +kernel
theorem dX4_readToken_34 : decode cX4_readToken 34 = .ok (.ireturn, 1) := by decide +kernel
theorem dX4_readToken_35 : decode cX4_readToken 35 = .ok (.aload_n 0, 1) := by decide +kernel
theorem dX4_readToken_36 : decode cX4_readToken 36 = .ok (.getfield 46, 3) := by decide +kernel
theorem dX4_readToken_39 : decode cX4_readToken 39 = .ok (.aload_n 0, 1) := by decide +kernel
theorem dX4_readToken_40 : decode cX4_readToken 40 = .ok (.getfield 22, 3) := by decide +kernel
theorem dX4_readToken_43 : decode cX4_readToken 43 = .ok (.invokevirtual 163, 3) := by decide +kernel
theorem dX4_readToken_46 : decode cX4_readToken 46 = .ok (.istore_n 1, 1) := by decide +kernel
theorem dX4_readToken_47 : decode cX4_readToken 47 = .ok (.aload_n 0, 1) := by decide +kernel
theorem dX4_readToken_48 : decode cX4_readToken 48 = .ok (.iload_n 1, 1) := by decide +kernel
theorem dX4_readToken_49 : decode cX4_readToken 49 = .ok (.invokevirtual 169, 3) := by decide +kernel
theorem dX4_readToken_52 : decode cX4_readToken 52 = .ok (.ifCond .eq 14, 3) := by decide +kernel
theorem dX4_readToken_55 : decode cX4_readToken 55 = .ok (.aload_n 0, 1) := by decide +kernel
theorem dX4_readToken_56 : decode cX4_readToken 56 = .ok (.iconst 1, 1) := by decide +kernel
theorem dX4_readToken_57 : decode cX4_readToken 57 = .ok (.putfield 25, 3) := by decide +kernel
theorem dX4_readToken_60 : decode cX4_readToken 60 = .ok (.aload_n 0, 1) := by decide +kernel
theorem dX4_readToken_61 : decode cX4_readToken 61 = .ok (.invokevirtual 172, 3) := by decide +kernel
theorem dX4_readToken_64 : decode cX4_readToken 64 = .ok (.iconst 1, 1) := by decide +kernel
theorem dX4_readToken_65 : decode cX4_readToken 65 = .ok (.ireturn, 1) := by decide +kernel
theorem dX4_readToken_66 : decode cX4_readToken 66 = .ok (.aload_n 0, 1) := by decide +kernel
theorem dX4_readToken_67 : decode cX4_readToken 67 = .ok (.iload_n 1, 1) := by decide +kernel
theorem dX4_readToken_68 : decode cX4_readToken 68 = .ok (.invokevirtual 175, 3) := by decide +kernel
theorem dX4_readToken_71 : decode cX4_readToken 71 = .ok (.ifCond .eq 34, 3) := by decide +kernel
theorem dX4_readToken_74 : decode cX4_readToken 74 = .ok (.aload_n 0, 1) := by decide +kernel
theorem dX4_readToken_75 : decode cX4_readToken 75 = .ok (.iconst 2, 1) := by decide +kernel
theorem dX4_readToken_76 : decode cX4_readToken 76 = .ok (.putfield 25, 3) := by decide +kernel
theorem dX4_readToken_79 : decode cX4_readToken 79 = .ok (.aload_n 0, 1) := by decide +kernel
theorem dX4_readToken_80 : decode cX4_readToken 80 = .ok (.invokevirtual 178, 3) := by decide +kernel
theorem dX4_readToken_83 : decode cX4_readToken 83 = .ok (.aload_n 0, 1) := by decide +kernel
theorem dX4_readToken_84 : decode cX4_readToken 84 = .ok (.getfield 31, 3) := by decide +kernel
theorem dX4_readToken_87 : decode cX4_readToken 87 = .ok (.iconst 4, 1) := by decide +kernel
theorem dX4_readToken_88 : decode cX4_readToken 88 = .ok (.if_icmp .le 11, 3) := by decide +kernel
theorem dX4_readToken_91 : decode cX4_readToken 91 = .ok (.aload_n 0, 1) := by decide +kernel
theorem dX4_readToken_92 : decode cX4_readToken 92 = .ok (.iconst 1, 1) := by decide +kernel
theorem dX4_readToken_93 : decode cX4_readToken 93 = .ok (.invokevirtual 95, 3) := by decide +kernel
theorem dX4_readToken_96 : decode cX4_readToken 96 = .ok (.ifCond .eq 7, 3) := by decide +kernel
theorem dX4_readToken_99 : decode cX4_readToken 99 = .ok (.iconst 1, 1) := by decide +kernel
theorem dX4_readToken_100 : decode cX4_readToken 100 = .ok (.goto 4, 3) := by decide +kernel
theorem dX4_readToken_103 : decode cX4_readToken 103 = .ok (.iconst 0, 1) := by decide +kernel
theorem dX4_readToken_104 : decode cX4_readToken 104 = .ok (.ireturn, 1) := by decide +kernel
theorem dX4_readToken_105 : decode cX4_readToken 105 = .ok (.aload_n 0, 1) := by decide +kernel
theorem dX4_readToken_106 : decode cX4_readToken 106 = .ok (.iconst 3, 1) := by decide +kernel
theorem dX4_readToken_107 : decode cX4_readToken 107 = .ok (.putfield 25, 3) := by decide +kernel
theorem dX4_readToken_110 : decode cX4_readToken 110 = .ok (.aload_n 0, 1) := by decide +kernel
theorem dX4_readToken_111 : decode cX4_readToken 111 = .ok (.dup, 1) := by decide +kernel
theorem dX4_readToken_112 : decode cX4_readToken 112 = .ok (.getfield 22, 3) := by decide +kernel
theorem dX4_readToken_115 : decode cX4_readToken 115 = .ok (.iconst 1, 1) := by decide +kernel
theorem dX4_readToken_116 : decode cX4_readToken 116 = .ok (.iadd, 1) := by decide +kernel
theorem dX4_readToken_117 : decode cX4_readToken 117 = .ok (.putfield 22, 3) := by decide +kernel
theorem dX4_readToken_120 : decode cX4_readToken 120 = .ok (.iload_n 1, 1) := by decide +kernel
theorem dX4_readToken_121 : decode cX4_readToken 121 = .ok (.bipush 59, 2) := by decide +kernel
theorem dX4_readToken_123 : decode cX4_readToken 123 = .ok (.if_icmp .eq 11, 3) := by decide +kernel
theorem dX4_readToken_126 : decode cX4_readToken 126 = .ok (.aload_n 0, 1) := by decide +kernel
theorem dX4_readToken_127 : decode cX4_readToken 127 = .ok (.iconst 1, 1) := by decide +kernel
theorem dX4_readToken_128 : decode cX4_readToken 128 = .ok (.invokevirtual 95, 3) := by decide +kernel
theorem dX4_readToken_131 : decode cX4_readToken 131 = .ok (.ifCond .eq 7, 3) := by decide +kernel
theorem dX4_readToken_134 : decode cX4_readToken 134 = .ok (.iconst 1, 1) := by decide +kernel
theorem dX4_readToken_135 : decode cX4_readToken 135 = .ok (.goto 4, 3) := by decide +kernel
theorem dX4_readToken_138 : decode cX4_readToken 138 = .ok (.iconst 0, 1) := by decide +kernel
theorem dX4_readToken_139 : decode cX4_readToken 139 = .ok (.ireturn, 1) := by decide +kernel
theorem dX4_skipBlanks_0 : decode cX4_skipBlanks 0 = .ok (.aload_n 0, 1) := by decide +kernel
theorem dX4_skipBlanks_1 : decode cX4_skipBlanks 1 = .ok (.getfield 22, 3) := by decide +kernel
theorem dX4_skipBlanks_4 : decode cX4_skipBlanks 4 = .ok (.aload_n 0, 1) := by decide +kernel
theorem dX4_skipBlanks_5 : decode cX4_skipBlanks 5 = .ok (.getfield 18, 3) := by decide +kernel
theorem dX4_skipBlanks_8 : decode cX4_skipBlanks 8 = .ok (.if_icmp .ge 48, 3) := by decide +kernel
theorem dX4_skipBlanks_11 : decode cX4_skipBlanks 11 = .ok (.aload_n 0, 1) := by decide +kernel
theorem dX4_skipBlanks_12 : decode cX4_skipBlanks 12 = .ok (.getfield 46, 3) := by decide +kernel
theorem dX4_skipBlanks_15 : decode cX4_skipBlanks 15 = .ok (.aload_n 0, 1) := by decide +kernel
theorem dX4_skipBlanks_16 : decode cX4_skipBlanks 16 = .ok (.getfield 22, 3) := by decide +kernel
theorem dX4_skipBlanks_19 : decode cX4_skipBlanks 19 = .ok (.invokevirtual 163, 3) := by decide +kernel
theorem dX4_skipBlanks_22 : decode cX4_skipBlanks 22 = .ok (.bipush 10, 2) := by decide +kernel
theorem dX4_skipBlanks_24 : decode cX4_skipBlanks 24 = .ok (.if_icmp .eq 19, 3) := by decide +kernel
theorem dX4_skipBlanks_27 : decode cX4_skipBlanks 27 = .ok (.aload_n 0, 1) := by decide +kernel
theorem dX4_skipBlanks_28 : decode cX4_skipBlanks 28 = .ok (.getfield 46, 3) := by decide +kernel
theorem dX4_skipBlanks_31 : decode cX4_skipBlanks 31 = .ok (.aload_n 0, 1) := by decide +kernel
theorem dX4_skipBlanks_32 : decode cX4_skipBlanks 32 = .ok (.getfield 22, 3) := by decide +kernel
theorem dX4_skipBlanks_35 : decode cX4_skipBlanks 35 = .ok (.invokevirtual 163, 3) := by decide +kernel
theorem dX4_skipBlanks_38 : decode cX4_skipBlanks 38 = .ok (.bipush 32, 2) := by decide +kernel
theorem dX4_skipBlanks_40 : decode cX4_skipBlanks 40 = .ok (.if_icmp .ne 16, 3) := by decide +kernel
theorem dX4_skipBlanks_43 : decode cX4_skipBlanks 43 = .ok (.aload_n 0, 1) := by decide +kernel
theorem dX4_skipBlanks_44 : decode cX4_skipBlanks 44 = .ok (.dup, 1) := by decide +kernel
theorem dX4_skipBlanks_45 : decode cX4_skipBlanks 45 = .ok (.getfield 22, 3) := by decide +kernel
theorem dX4_skipBlanks_48 : decode cX4_skipBlanks 48 = .ok (.iconst 1, 1) := by decide +kernel
theorem dX4_skipBlanks_49 : decode cX4_skipBlanks 49 = .ok (.iadd, 1) := by decide +kernel
theorem dX4_skipBlanks_50 : decode cX4_skipBlanks 50 = .ok (.putfield 22, 3) := by decide +kernel
theorem dX4_skipBlanks_53 : decode cX4_skipBlanks 53 = .ok (.goto (-53), 3) := by decide +kernel
theorem dX4_skipBlanks_56 : decode cX4_skipBlanks 56 = .ok (.return_, 1) := by decide +kernel
theorem dX4_takeDigits_0 : decode cX4_takeDigits 0 = .ok (.aload_n 0, 1) := by decide +kernel
theorem dX4_takeDigits_1 : decode cX4_takeDigits 1 = .ok (.iconst 0, 1) := by decide +kernel
theorem dX4_takeDigits_2 : decode cX4_takeDigits 2 = .ok (.putfield 34, 3) := by decide +kernel
theorem dX4_takeDigits_5 : decode cX4_takeDigits 5 = .ok (.aload_n 0, 1) := by decide +kernel
theorem dX4_takeDigits_6 : decode cX4_takeDigits 6 = .ok (.getfield 22, 3) := by decide +kernel
theorem dX4_takeDigits_9 : decode cX4_takeDigits 9 = .ok (.aload_n 0, 1) := by decide +kernel
theorem dX4_takeDigits_10 : decode cX4_takeDigits 10 = .ok (.getfield 18, 3) := by decide +kernel
theorem dX4_takeDigits_13 : decode cX4_takeDigits 13 = .ok (.if_icmp .ge 70, 3) := by decide +kernel
theorem dX4_takeDigits_16 : decode cX4_takeDigits 16 = .ok (.aload_n 0, 1) := by decide +kernel
theorem dX4_takeDigits_17 : decode cX4_takeDigits 17 = .ok (.aload_n 0, 1) := by decide +kernel
theorem dX4_takeDigits_18 : decode cX4_takeDigits 18 = .ok (.getfield 46, 3) := by decide +kernel
theorem dX4_takeDigits_21 : decode cX4_takeDigits 21 = .ok (.aload_n 0, 1) := by decide +kernel
theorem dX4_takeDigits_22 : decode cX4_takeDigits 22 = .ok (.getfield 22, 3) := by decide +kernel
theorem dX4_takeDigits_25 : decode cX4_takeDigits 25 = .ok (.invokevirtual 163, 3) := by decide +kernel
theorem dX4_takeDigits_28 : decode cX4_takeDigits 28 = .ok (.invokevirtual 175, 3) := by decide +kernel
theorem dX4_takeDigits_31 : decode cX4_takeDigits 31 = .ok (.ifCond .eq 52, 3) := by decide +kernel
theorem dX4_takeDigits_34 : decode cX4_takeDigits 34 = .ok (.aload_n 0, 1) := by decide +kernel
theorem dX4_takeDigits_35 : decode cX4_takeDigits 35 = .ok (.aload_n 0, 1) := by decide +kernel
theorem dX4_takeDigits_36 : decode cX4_takeDigits 36 = .ok (.getfield 34, 3) := by decide +kernel
theorem dX4_takeDigits_39 : decode cX4_takeDigits 39 = .ok (.bipush 10, 2) := by decide +kernel
theorem dX4_takeDigits_41 : decode cX4_takeDigits 41 = .ok (.imul, 1) := by decide +kernel
theorem dX4_takeDigits_42 : decode cX4_takeDigits 42 = .ok (.aload_n 0, 1) := by decide +kernel
theorem dX4_takeDigits_43 : decode cX4_takeDigits 43 = .ok (.getfield 46, 3) := by decide +kernel
theorem dX4_takeDigits_46 : decode cX4_takeDigits 46 = .ok (.aload_n 0, 1) := by decide +kernel
theorem dX4_takeDigits_47 : decode cX4_takeDigits 47 = .ok (.getfield 22, 3) := by decide +kernel
theorem dX4_takeDigits_50 : decode cX4_takeDigits 50 = .ok (.invokevirtual 163, 3) := by decide +kernel
theorem dX4_takeDigits_53 : decode cX4_takeDigits 53 = .ok (.iadd, 1) := by decide +kernel
theorem dX4_takeDigits_54 : decode cX4_takeDigits 54 = .ok (.bipush 48, 2) := by decide +kernel
theorem dX4_takeDigits_56 : decode cX4_takeDigits 56 = .ok (.isub, 1) := by decide +kernel
theorem dX4_takeDigits_57 : decode cX4_takeDigits 57 = .ok (.putfield 34, 3) := by decide +kernel
theorem dX4_takeDigits_60 : decode cX4_takeDigits 60 = .ok (.aload_n 0, 1) := by decide +kernel
theorem dX4_takeDigits_61 : decode cX4_takeDigits 61 = .ok (.dup, 1) := by decide +kernel
theorem dX4_takeDigits_62 : decode cX4_takeDigits 62 = .ok (.getfield 22, 3) := by decide +kernel
theorem dX4_takeDigits_65 : decode cX4_takeDigits 65 = .ok (.iconst 1, 1) := by decide +kernel
theorem dX4_takeDigits_66 : decode cX4_takeDigits 66 = .ok (.iadd, 1) := by decide +kernel
theorem dX4_takeDigits_67 : decode cX4_takeDigits 67 = .ok (.putfield 22, 3) := by decide +kernel
theorem dX4_takeDigits_70 : decode cX4_takeDigits 70 = .ok (.aload_n 0, 1) := by decide +kernel
theorem dX4_takeDigits_71 : decode cX4_takeDigits 71 = .ok (.dup, 1) := by decide +kernel
theorem dX4_takeDigits_72 : decode cX4_takeDigits 72 = .ok (.getfield 31, 3) := by decide +kernel
theorem dX4_takeDigits_75 : decode cX4_takeDigits 75 = .ok (.iconst 1, 1) := by decide +kernel
theorem dX4_takeDigits_76 : decode cX4_takeDigits 76 = .ok (.iadd, 1) := by decide +kernel
theorem dX4_takeDigits_77 : decode cX4_takeDigits 77 = .ok (.putfield 31, 3) := by decide +kernel
theorem dX4_takeDigits_80 : decode cX4_takeDigits 80 = .ok (.goto (-75), 3) := by decide +kernel
theorem dX4_takeDigits_83 : decode cX4_takeDigits 83 = .ok (.return_, 1) := by decide +kernel
theorem dX4_takeLetters_0 : decode cX4_takeLetters 0 = .ok (.aload_n 0, 1) := by decide +kernel
theorem dX4_takeLetters_1 : decode cX4_takeLetters 1 = .ok (.getfield 22, 3) := by decide +kernel
theorem dX4_takeLetters_4 : decode cX4_takeLetters 4 = .ok (.aload_n 0, 1) := by decide +kernel
theorem dX4_takeLetters_5 : decode cX4_takeLetters 5 = .ok (.getfield 18, 3) := by decide +kernel
theorem dX4_takeLetters_8 : decode cX4_takeLetters 8 = .ok (.if_icmp .ge 44, 3) := by decide +kernel
theorem dX4_takeLetters_11 : decode cX4_takeLetters 11 = .ok (.aload_n 0, 1) := by decide +kernel
theorem dX4_takeLetters_12 : decode cX4_takeLetters 12 = .ok (.aload_n 0, 1) := by decide +kernel
theorem dX4_takeLetters_13 : decode cX4_takeLetters 13 = .ok (.getfield 46, 3) := by decide +kernel
theorem dX4_takeLetters_16 : decode cX4_takeLetters 16 = .ok (.aload_n 0, 1) := by decide +kernel
theorem dX4_takeLetters_17 : decode cX4_takeLetters 17 = .ok (.getfield 22, 3) := by decide +kernel
theorem dX4_takeLetters_20 : decode cX4_takeLetters 20 = .ok (.invokevirtual 163, 3) := by decide +kernel
theorem dX4_takeLetters_23 : decode cX4_takeLetters 23 = .ok (.invokevirtual 169, 3) := by decide +kernel
theorem dX4_takeLetters_26 : decode cX4_takeLetters 26 = .ok (.ifCond .eq 26, 3) := by decide +kernel
theorem dX4_takeLetters_29 : decode cX4_takeLetters 29 = .ok (.aload_n 0, 1) := by decide +kernel
theorem dX4_takeLetters_30 : decode cX4_takeLetters 30 = .ok (.dup, 1) := by decide +kernel
theorem dX4_takeLetters_31 : decode cX4_takeLetters 31 = .ok (.getfield 22, 3) := by decide +kernel
theorem dX4_takeLetters_34 : decode cX4_takeLetters 34 = .ok (.iconst 1, 1) := by decide +kernel
theorem dX4_takeLetters_35 : decode cX4_takeLetters 35 = .ok (.iadd, 1) := by decide +kernel
theorem dX4_takeLetters_36 : decode cX4_takeLetters 36 = .ok (.putfield 22, 3) := by decide +kernel
theorem dX4_takeLetters_39 : decode cX4_takeLetters 39 = .ok (.aload_n 0, 1) := by decide +kernel
theorem dX4_takeLetters_40 : decode cX4_takeLetters 40 = .ok (.dup, 1) := by decide +kernel
theorem dX4_takeLetters_41 : decode cX4_takeLetters 41 = .ok (.getfield 31, 3) := by decide +kernel
theorem dX4_takeLetters_44 : decode cX4_takeLetters 44 = .ok (.iconst 1, 1) := by decide +kernel
theorem dX4_takeLetters_45 : decode cX4_takeLetters 45 = .ok (.iadd, 1) := by decide +kernel
theorem dX4_takeLetters_46 : decode cX4_takeLetters 46 = .ok (.putfield 31, 3) := by decide +kernel
theorem dX4_takeLetters_49 : decode cX4_takeLetters 49 = .ok (.goto (-49), 3) := by decide +kernel
theorem dX4_takeLetters_52 : decode cX4_takeLetters 52 = .ok (.return_, 1) := by decide +kernel
theorem dX5_answerSilence_0 : decode cX5_answerSilence 0 = .ok (.aload_n 0, 1) := by decide +kernel
theorem dX5_answerSilence_1 : decode cX5_answerSilence 1 = .ok (.getfield 12, 3) := by decide +kernel
theorem dX5_answerSilence_4 : decode cX5_answerSilence 4 = .ok (.invokevirtual 307, 3) := by decide +kernel
theorem dX5_answerSilence_7 : decode cX5_answerSilence 7 = .ok (.ifCond .eq 82, 3) := by decide +kernel
theorem dX5_answerSilence_10 : decode cX5_answerSilence 10 = .ok (.aload_n 0, 1) := by decide +kernel
theorem dX5_answerSilence_11 : decode cX5_answerSilence 11 = .ok (.getfield 42, 3) := by decide +kernel
theorem dX5_answerSilence_14 : decode cX5_answerSilence 14 = .ok (.iconst 2, 1) := by decide +kernel
theorem dX5_answerSilence_15 : decode cX5_answerSilence 15 = .ok (.putfield 292, 3) := by decide +kernel
theorem dX5_answerSilence_18 : decode cX5_answerSilence 18 = .ok (.aload_n 0, 1) := by decide +kernel
theorem dX5_answerSilence_19 : decode cX5_answerSilence 19 = .ok (.getfield 42, 3) := by decide +kernel
theorem dX5_answerSilence_22 : decode cX5_answerSilence 22 = .ok (.aload_n 0, 1) := by decide +kernel
theorem dX5_answerSilence_23 : decode cX5_answerSilence 23 = .ok (.getfield 12, 3) := by decide +kernel
theorem dX5_answerSilence_26 : decode cX5_answerSilence 26 = .ok (.aload_n 0, 1) := by decide +kernel
theorem dX5_answerSilence_27 : decode cX5_answerSilence 27 = .ok (.getfield 12, 3) := by decide +kernel
theorem dX5_answerSilence_30 : decode cX5_answerSilence 30 = .ok (.getfield 311, 3) := by decide +kernel
theorem dX5_answerSilence_33 : decode cX5_answerSilence 33 = .ok (.invokevirtual 202, 3) := by decide +kernel
theorem dX5_answerSilence_36 : decode cX5_answerSilence 36 = .ok (.putfield 304, 3) := by decide +kernel
theorem dX5_answerSilence_39 : decode cX5_answerSilence 39 = .ok (.aload_n 0, 1) := by decide +kernel
theorem dX5_answerSilence_40 : decode cX5_answerSilence 40 = .ok (.getfield 42, 3) := by decide +kernel
theorem dX5_answerSilence_43 : decode cX5_answerSilence 43 = .ok (.aload_n 0, 1) := by decide +kernel
theorem dX5_answerSilence_44 : decode cX5_answerSilence 44 = .ok (.getfield 12, 3) := by decide +kernel
theorem dX5_answerSilence_47 : decode cX5_answerSilence 47 = .ok (.aload_n 0, 1) := by decide +kernel
theorem dX5_answerSilence_48 : decode cX5_answerSilence 48 = .ok (.getfield 12, 3) := by decide +kernel
theorem dX5_answerSilence_51 : decode cX5_answerSilence 51 = .ok (.aload_n 0, 1) := by decide +kernel
theorem dX5_answerSilence_52 : decode cX5_answerSilence 52 = .ok (.getfield 12, 3) := by decide +kernel
theorem dX5_answerSilence_55 : decode cX5_answerSilence 55 = .ok (.getfield 311, 3) := by decide +kernel
theorem dX5_answerSilence_58 : decode cX5_answerSilence 58 = .ok (.invokevirtual 314, 3) := by decide +kernel
theorem dX5_answerSilence_61 : decode cX5_answerSilence 61 = .ok (.invokevirtual 317, 3) := by decide +kernel
theorem dX5_answerSilence_64 : decode cX5_answerSilence 64 = .ok (.putfield 298, 3) := by decide +kernel
theorem dX5_answerSilence_67 : decode cX5_answerSilence 67 = .ok (.aload_n 0, 1) := by decide +kernel
theorem dX5_answerSilence_68 : decode cX5_answerSilence 68 = .ok (.getfield 49, 3) := by decide +kernel
theorem dX5_answerSilence_71 : decode cX5_answerSilence 71 = .ok (.iconst 5, 1) := by decide +kernel
theorem dX5_answerSilence_72 : decode cX5_answerSilence 72 = .ok (.aload_n 0, 1) := by decide +kernel
theorem dX5_answerSilence_73 : decode cX5_answerSilence 73 = .ok (.getfield 53, 3) := by decide +kernel
theorem dX5_answerSilence_76 : decode cX5_answerSilence 76 = .ok (.aload_n 0, 1) := by decide +kernel
theorem dX5_answerSilence_77 : decode cX5_answerSilence 77 = .ok (.getfield 42, 3) := by decide +kernel
theorem dX5_answerSilence_80 : decode cX5_answerSilence 80 = .ok (.getfield 298, 3) := by decide +kernel
theorem dX5_answerSilence_83 : decode cX5_answerSilence 83 = .ok (.invokevirtual 185, 3) := by decide +kernel
theorem dX5_answerSilence_86 : decode cX5_answerSilence 86 = .ok (.goto 47, 3) := by decide +kernel
theorem dX5_answerSilence_89 : decode cX5_answerSilence 89 = .ok (.aload_n 0, 1) := by decide +kernel
theorem dX5_answerSilence_90 : decode cX5_answerSilence 90 = .ok (.getfield 12, 3) := by decide +kernel
theorem dX5_answerSilence_93 : decode cX5_answerSilence 93 = .ok (.invokevirtual 320, 3) := by decide +kernel
theorem dX5_answerSilence_96 : decode cX5_answerSilence 96 = .ok (.ifCond .eq 10, 3) := by decide +kernel
theorem dX5_answerSilence_99 : decode cX5_answerSilence 99 = .ok (.aload_n 0, 1) := by decide +kernel
theorem dX5_answerSilence_100 : decode cX5_answerSilence 100 = .ok (.invokevirtual 218, 3) := by decide +kernel
theorem dX5_answerSilence_103 : decode cX5_answerSilence 103 = .ok (.goto 30, 3) := by decide +kernel
theorem dX5_answerSilence_106 : decode cX5_answerSilence 106 = .ok (.aload_n 0, 1) := by decide +kernel
theorem dX5_answerSilence_107 : decode cX5_answerSilence 107 = .ok (.getfield 42, 3) := by decide +kernel
theorem dX5_answerSilence_110 : decode cX5_answerSilence 110 = .ok (.iconst 1, 1) := by decide +kernel
theorem dX5_answerSilence_111 : decode cX5_answerSilence 111 = .ok (.putfield 292, 3) := by decide +kernel
theorem dX5_answerSilence_114 : decode cX5_answerSilence 114 = .ok (.aload_n 0, 1) := by decide +kernel
theorem dX5_answerSilence_115 : decode cX5_answerSilence 115 = .ok (.getfield 49, 3) := by decide +kernel
theorem dX5_answerSilence_118 : decode cX5_answerSilence 118 = .ok (.iconst 4, 1) := by decide +kernel
theorem dX5_answerSilence_119 : decode cX5_answerSilence 119 = .ok (.aload_n 0, 1) := by decide +kernel
theorem dX5_answerSilence_120 : decode cX5_answerSilence 120 = .ok (.getfield 53, 3) := by decide +kernel
theorem dX5_answerSilence_123 : decode cX5_answerSilence 123 = .ok (.aload_n 0, 1) := by decide +kernel
theorem dX5_answerSilence_124 : decode cX5_answerSilence 124 = .ok (.getfield 12, 3) := by decide +kernel
theorem dX5_answerSilence_127 : decode cX5_answerSilence 127 = .ok (.invokevirtual 323, 3) := by decide +kernel
theorem dX5_answerSilence_130 : decode cX5_answerSilence 130 = .ok (.invokevirtual 185, 3) := by decide +kernel
theorem dX5_answerSilence_133 : decode cX5_answerSilence 133 = .ok (.return_, 1) := by decide +kernel
theorem dX5_blame_0 : decode cX5_blame 0 = .ok (.aload_n 0, 1) := by decide +kernel
theorem dX5_blame_1 : decode cX5_blame 1 = .ok (.getfield 12, 3) := by decide +kernel
theorem dX5_blame_4 : decode cX5_blame 4 = .ok (.iload_n 1, 1) := by decide +kernel
theorem dX5_blame_5 : decode cX5_blame 5 = .ok (.invokevirtual 326, 3) := by decide +kernel
theorem dX5_blame_8 : decode cX5_blame 8 = .ok (.ifCond .eq 4, 3) := by decide +kernel
theorem dX5_blame_11 : decode cX5_blame 11 = .ok (.return_, 1) := by decide +kernel
theorem dX5_blame_12 : decode cX5_blame 12 = .ok (.aload_n 0, 1) := by decide +kernel
theorem dX5_blame_13 : decode cX5_blame 13 = .ok (.iload_n 1, 1) := by decide +kernel
theorem dX5_blame_14 : decode cX5_blame 14 = .ok (.invokevirtual 329, 3) := by decide +kernel
theorem dX5_blame_17 : decode cX5_blame 17 = .ok (.aload_n 0, 1) := by decide +kernel
theorem dX5_blame_18 : decode cX5_blame 18 = .ok (.getfield 49, 3) := by decide +kernel
theorem dX5_blame_21 : decode cX5_blame 21 = .ok (.bipush 6, 2) := by decide +kernel
theorem dX5_blame_23 : decode cX5_blame 23 = .ok (.aload_n 0, 1) := by decide +kernel
theorem dX5_blame_24 : decode cX5_blame 24 = .ok (.getfield 53, 3) := by decide +kernel
theorem dX5_blame_27 : decode cX5_blame 27 = .ok (.iload_n 1, 1) := by decide +kernel
theorem dX5_blame_28 : decode cX5_blame 28 = .ok (.invokevirtual 185, 3) := by decide +kernel
theorem dX5_blame_31 : decode cX5_blame 31 = .ok (.aload_n 0, 1) := by decide +kernel
theorem dX5_blame_32 : decode cX5_blame 32 = .ok (.iload_n 1, 1) := by decide +kernel
theorem dX5_blame_33 : decode cX5_blame 33 = .ok (.putfield 63, 3) := by decide +kernel
theorem dX5_blame_36 : decode cX5_blame 36 = .ok (.aload_n 0, 1) := by decide +kernel
theorem dX5_blame_37 : decode cX5_blame 37 = .ok (.getfield 42, 3) := by decide +kernel
theorem dX5_blame_40 : decode cX5_blame 40 = .ok (.invokevirtual 76, 3) := by decide +kernel
theorem dX5_blame_43 : decode cX5_blame 43 = .ok (.return_, 1) := by decide +kernel
theorem dX5_clear_0 : decode cX5_clear 0 = .ok (.aload_n 0, 1) := by decide +kernel
theorem dX5_clear_1 : decode cX5_clear 1 = .ok (.getfield 12, 3) := by decide +kernel
theorem dX5_clear_4 : decode cX5_clear 4 = .ok (.invokevirtual 70, 3) := by decide +kernel
theorem dX5_clear_7 : decode cX5_clear 7 = .ok (.aload_n 0, 1) := by decide +kernel
theorem dX5_clear_8 : decode cX5_clear 8 = .ok (.getfield 21, 3) := by decide +kernel
theorem dX5_clear_11 : decode cX5_clear 11 = .ok (.invokevirtual 73, 3) := by decide +kernel
theorem dX5_clear_14 : decode cX5_clear 14 = .ok (.aload_n 0, 1) := by decide +kernel
theorem dX5_clear_15 : decode cX5_clear 15 = .ok (.getfield 28, 3) := by decide +kernel
theorem dX5_clear_18 : decode cX5_clear 18 = .ok (.invokevirtual 74, 3) := by decide +kernel
theorem dX5_clear_21 : decode cX5_clear 21 = .ok (.aload_n 0, 1) := by decide +kernel
theorem dX5_clear_22 : decode cX5_clear 22 = .ok (.getfield 35, 3) := by decide +kernel
theorem dX5_clear_25 : decode cX5_clear 25 = .ok (.invokevirtual 75, 3) := by decide +kernel
theorem dX5_clear_28 : decode cX5_clear 28 = .ok (.aload_n 0, 1) := by decide +kernel
theorem dX5_clear_29 : decode cX5_clear 29 = .ok (.getfield 42, 3) := by decide +kernel
theorem dX5_clear_32 : decode cX5_clear 32 = .ok (.invokevirtual 76, 3) := by decide +kernel
theorem dX5_clear_35 : decode cX5_clear 35 = .ok (.aload_n 0, 1) := by decide +kernel
theorem dX5_clear_36 : decode cX5_clear 36 = .ok (.getfield 49, 3) := by decide +kernel
theorem dX5_clear_39 : decode cX5_clear 39 = .ok (.invokevirtual 79, 3) := by decide +kernel
theorem dX5_clear_42 : decode cX5_clear 42 = .ok (.aload_n 0, 1) := by decide +kernel
theorem dX5_clear_43 : decode cX5_clear 43 = .ok (.iconst 0, 1) := by decide +kernel
theorem dX5_clear_44 : decode cX5_clear 44 = .ok (.putfield 53, 3) := by decide +kernel
theorem dX5_clear_47 : decode cX5_clear 47 = .ok (.aload_n 0, 1) := by decide +kernel
theorem dX5_clear_48 : decode cX5_clear 48 = .ok (.iconst 0, 1) := by decide +kernel
theorem dX5_clear_49 : decode cX5_clear 49 = .ok (.putfield 57, 3) := by decide +kernel
theorem dX5_clear_52 : decode cX5_clear 52 = .ok (.return_, 1) := by decide +kernel
theorem dX5_copyFrom_0 : decode cX5_copyFrom 0 = .ok (.aload_n 0, 1) := by decide +kernel
theorem dX5_copyFrom_1 : decode cX5_copyFrom 1 = .ok (.getfield 12, 3) := by decide +kernel
theorem dX5_copyFrom_4 : decode cX5_copyFrom 4 = .ok (.aload_n 1, 1) := by decide +kernel
theorem dX5_copyFrom_5 : decode cX5_copyFrom 5 = .ok (.getfield 12, 3) := by decide +kernel
theorem dX5_copyFrom_8 : decode cX5_copyFrom 8 = .ok (.invokevirtual 80, 3) := by decide +kernel
theorem dX5_copyFrom_11 : decode cX5_copyFrom 11 = .ok (.aload_n 0, 1) := by decide +kernel
theorem dX5_copyFrom_12 : decode cX5_copyFrom 12 = .ok (.getfield 21, 3) := by decide +kernel
theorem dX5_copyFrom_15 : decode cX5_copyFrom 15 = .ok (.aload_n 1, 1) := by decide +kernel
theorem dX5_copyFrom_16 : decode cX5_copyFrom 16 = .ok (.getfield 21, 3) := by decide +kernel
theorem dX5_copyFrom_19 : decode cX5_copyFrom 19 = .ok (.invokevirtual 84, 3) := by decide +kernel
theorem dX5_copyFrom_22 : decode cX5_copyFrom 22 = .ok (.aload_n 0, 1) := by decide +kernel
theorem dX5_copyFrom_23 : decode cX5_copyFrom 23 = .ok (.getfield 28, 3) := by decide +kernel
theorem dX5_copyFrom_26 : decode cX5_copyFrom 26 = .ok (.aload_n 1, 1) := by decide +kernel
theorem dX5_copyFrom_27 : decode cX5_copyFrom 27 = .ok (.getfield 28, 3) := by decide +kernel
theorem dX5_copyFrom_30 : decode cX5_copyFrom 30 = .ok (.invokevirtual 87, 3) := by decide +kernel
theorem dX5_copyFrom_33 : decode cX5_copyFrom 33 = .ok (.aload_n 0, 1) := by decide +kernel
theorem dX5_copyFrom_34 : decode cX5_copyFrom 34 = .ok (.getfield 35, 3) := by decide +kernel
theorem dX5_copyFrom_37 : decode cX5_copyFrom 37 = .ok (.aload_n 1, 1) := by decide +kernel
theorem dX5_copyFrom_38 : decode cX5_copyFrom 38 = .ok (.getfield 35, 3) := by decide +kernel
theorem dX5_copyFrom_41 : decode cX5_copyFrom 41 = .ok (.invokevirtual 90, 3) := by decide +kernel
theorem dX5_copyFrom_44 : decode cX5_copyFrom 44 = .ok (.aload_n 0, 1) := by decide +kernel
theorem dX5_copyFrom_45 : decode cX5_copyFrom 45 = .ok (.getfield 42, 3) := by decide +kernel
theorem dX5_copyFrom_48 : decode cX5_copyFrom 48 = .ok (.aload_n 1, 1) := by decide +kernel
theorem dX5_copyFrom_49 : decode cX5_copyFrom 49 = .ok (.getfield 42, 3) := by decide +kernel
theorem dX5_copyFrom_52 : decode cX5_copyFrom 52 = .ok (.invokevirtual 93, 3) := by decide +kernel
theorem dX5_copyFrom_55 : decode cX5_copyFrom 55 = .ok (.aload_n 0, 1) := by decide +kernel
theorem dX5_copyFrom_56 : decode cX5_copyFrom 56 = .ok (.getfield 49, 3) := by decide +kernel
theorem dX5_copyFrom_59 : decode cX5_copyFrom 59 = .ok (.aload_n 1, 1) := by decide +kernel
theorem dX5_copyFrom_60 : decode cX5_copyFrom 60 = .ok (.getfield 49, 3) := by decide +kernel
theorem dX5_copyFrom_63 : decode cX5_copyFrom 63 = .ok (.invokevirtual 96, 3) := by decide +kernel
theorem dX5_copyFrom_66 : decode cX5_copyFrom 66 = .ok (.aload_n 0, 1) := by decide +kernel
theorem dX5_copyFrom_67 : decode cX5_copyFrom 67 = .ok (.aload_n 1, 1) := by decide +kernel
theorem dX5_copyFrom_68 : decode cX5_copyFrom 68 = .ok (.getfield 53, 3) := by decide +kernel
theorem dX5_copyFrom_71 : decode cX5_copyFrom 71 = .ok (.putfield 53, 3) := by decide +kernel
theorem dX5_copyFrom_74 : decode cX5_copyFrom 74 = .ok (.aload_n 0, 1) := by decide +kernel
theorem dX5_copyFrom_75 : decode cX5_copyFrom 75 = .ok (.aload_n 1, 1) := by decide +kernel
theorem dX5_copyFrom_76 : decode cX5_copyFrom 76 = .ok (.getfield 57, 3) := by decide +kernel
theorem dX5_copyFrom_79 : decode cX5_copyFrom 79 = .ok (.putfield 57, 3) := by decide +kernel
theorem dX5_copyFrom_82 : decode cX5_copyFrom 82 = .ok (.aload_n 0, 1) := by decide +kernel
theorem dX5_copyFrom_83 : decode cX5_copyFrom 83 = .ok (.invokevirtual 99, 3) := by decide +kernel
theorem dX5_copyFrom_86 : decode cX5_copyFrom 86 = .ok (.return_, 1) := by decide +kernel
theorem dX5_crownGreatest_0 : decode cX5_crownGreatest 0 = .ok (.aload_n 0, 1) := by decide +kernel
theorem dX5_crownGreatest_1 : decode cX5_crownGreatest 1 = .ok (.getfield 12, 3) := by decide +kernel
theorem dX5_crownGreatest_4 : decode cX5_crownGreatest 4 = .ok (.aload_n 0, 1) := by decide +kernel
theorem dX5_crownGreatest_5 : decode cX5_crownGreatest 5 = .ok (.getfield 12, 3) := by decide +kernel
theorem dX5_crownGreatest_8 : decode cX5_crownGreatest 8 = .ok (.invokevirtual 323, 3) := by decide +kernel
theorem dX5_crownGreatest_11 : decode cX5_crownGreatest 11 = .ok (.putfield 189, 3) := by decide +kernel
theorem dX5_crownGreatest_14 : decode cX5_crownGreatest 14 = .ok (.aload_n 0, 1) := by decide +kernel
theorem dX5_crownGreatest_15 : decode cX5_crownGreatest 15 = .ok (.getfield 49, 3) := by decide +kernel
theorem dX5_crownGreatest_18 : decode cX5_crownGreatest 18 = .ok (.bipush 7, 2) := by decide +kernel
theorem dX5_crownGreatest_20 : decode cX5_crownGreatest 20 = .ok (.aload_n 0, 1) := by decide +kernel
theorem dX5_crownGreatest_21 : decode cX5_crownGreatest 21 = .ok (.getfield 53, 3) := by decide +kernel
theorem dX5_crownGreatest_24 : decode cX5_crownGreatest 24 = .ok (.aload_n 0, 1) := by decide +kernel
theorem dX5_crownGreatest_25 : decode cX5_crownGreatest 25 = .ok (.getfield 12, 3) := by decide +kernel
theorem dX5_crownGreatest_28 : decode cX5_crownGreatest 28 = .ok (.getfield 189, 3) := by decide +kernel
theorem dX5_crownGreatest_31 : decode cX5_crownGreatest 31 = .ok (.invokevirtual 185, 3) := by decide +kernel
theorem dX5_crownGreatest_34 : decode cX5_crownGreatest 34 = .ok (.aload_n 0, 1) := by decide +kernel
theorem dX5_crownGreatest_35 : decode cX5_crownGreatest 35 = .ok (.invokevirtual 218, 3) := by decide +kernel
theorem dX5_crownGreatest_38 : decode cX5_crownGreatest 38 = .ok (.return_, 1) := by decide +kernel
theorem dX5_drawFrame_0 : decode cX5_drawFrame 0 = .ok (.aload_n 0, 1) := by decide +kernel
theorem dX5_drawFrame_1 : decode cX5_drawFrame 1 = .ok (.iload_n 1, 1) := by decide +kernel
theorem dX5_drawFrame_2 : decode cX5_drawFrame 2 = .ok (.invokevirtual 166, 3) := by decide +kernel
theorem dX5_drawFrame_5 : decode cX5_drawFrame 5 = .ok (.istore_n 3, 1) := by decide +kernel
theorem dX5_drawFrame_6 : decode cX5_drawFrame 6 = .ok (.aload_n 0, 1) := by decide +kernel
theorem dX5_drawFrame_7 : decode cX5_drawFrame 7 = .ok (.iload_n 3, 1) := by decide +kernel
theorem dX5_drawFrame_8 : decode cX5_drawFrame 8 = .ok (.bipush 16, 2) := by decide +kernel
theorem dX5_drawFrame_10 : decode cX5_drawFrame 10 = .ok (.invokevirtual 169, 3) := by decide +kernel
theorem dX5_drawFrame_13 : decode cX5_drawFrame 13 = .ok (.iload_n 2, 1) := by decide +kernel
theorem dX5_drawFrame_14 : decode cX5_drawFrame 14 = .ok (.if_icmp .ge 13, 3) := by decide +kernel
theorem dX5_drawFrame_17 : decode cX5_drawFrame 17 = .ok (.aload_n 0, 1) := by decide +kernel
theorem dX5_drawFrame_18 : decode cX5_drawFrame 18 = .ok (.getfield 12, 3) := by decide +kernel
theorem dX5_drawFrame_21 : decode cX5_drawFrame 21 = .ok (.getfield 151, 3) := by decide +kernel
theorem dX5_drawFrame_24 : decode cX5_drawFrame 24 = .ok (.ifCond .ne 5, 3) := by decide +kernel
theorem dX5_drawFrame_27 : decode cX5_drawFrame 27 = .ok (.iload_n 3, 1) := by decide +kernel
theorem dX5_drawFrame_28 : decode cX5_drawFrame 28 = .ok (.ireturn, 1) := by decide +kernel
theorem dX5_drawFrame_29 : decode cX5_drawFrame 29 = .ok (.aload_n 0, 1) := by decide +kernel
theorem dX5_drawFrame_30 : decode cX5_drawFrame 30 = .ok (.iload_n 3, 1) := by decide +kernel
theorem dX5_drawFrame_31 : decode cX5_drawFrame 31 = .ok (.invokevirtual 166, 3) := by decide +kernel
theorem dX5_drawFrame_34 : decode cX5_drawFrame 34 = .ok (.istore_n 3, 1) := by decide +kernel
theorem dX5_drawFrame_35 : decode cX5_drawFrame 35 = .ok (.aload_n 0, 1) := by decide +kernel
theorem dX5_drawFrame_36 : decode cX5_drawFrame 36 = .ok (.iload_n 3, 1) := by decide +kernel
theorem dX5_drawFrame_37 : decode cX5_drawFrame 37 = .ok (.aload_n 0, 1) := by decide +kernel
theorem dX5_drawFrame_38 : decode cX5_drawFrame 38 = .ok (.getfield 12, 3) := by decide +kernel
theorem dX5_drawFrame_41 : decode cX5_drawFrame 41 = .ok (.getfield 151, 3) := by decide +kernel
theorem dX5_drawFrame_44 : decode cX5_drawFrame 44 = .ok (.invokevirtual 169, 3) := by decide +kernel
theorem dX5_drawFrame_47 : decode cX5_drawFrame 47 = .ok (.istore 4, 2) := by decide +kernel
theorem dX5_drawFrame_49 : decode cX5_drawFrame 49 = .ok (.aload_n 0, 1) := by decide +kernel
theorem dX5_drawFrame_50 : decode cX5_drawFrame 50 = .ok (.iload_n 3, 1) := by decide +kernel
theorem dX5_drawFrame_51 : decode cX5_drawFrame 51 = .ok (.invokevirtual 166, 3) := by decide +kernel
theorem dX5_drawFrame_54 : decode cX5_drawFrame 54 = .ok (.istore_n 3, 1) := by decide +kernel
theorem dX5_drawFrame_55 : decode cX5_drawFrame 55 = .ok (.aload_n 0, 1) := by decide +kernel
theorem dX5_drawFrame_56 : decode cX5_drawFrame 56 = .ok (.iload_n 3, 1) := by decide +kernel
theorem dX5_drawFrame_57 : decode cX5_drawFrame 57 = .ok (.aload_n 0, 1) := by decide +kernel
theorem dX5_drawFrame_58 : decode cX5_drawFrame 58 = .ok (.getfield 12, 3) := by decide +kernel
theorem dX5_drawFrame_61 : decode cX5_drawFrame 61 = .ok (.getfield 151, 3) := by decide +kernel
theorem dX5_drawFrame_64 : decode cX5_drawFrame 64 = .ok (.invokevirtual 169, 3) := by decide +kernel
theorem dX5_drawFrame_67 : decode cX5_drawFrame 67 = .ok (.istore 5, 2) := by decide +kernel
theorem dX5_drawFrame_69 : decode cX5_drawFrame 69 = .ok (.aload_n 0, 1) := by decide +kernel
theorem dX5_drawFrame_70 : decode cX5_drawFrame 70 = .ok (.iload_n 3, 1) := by decide +kernel
theorem dX5_drawFrame_71 : decode cX5_drawFrame 71 = .ok (.invokevirtual 166, 3) := by decide +kernel
theorem dX5_drawFrame_74 : decode cX5_drawFrame 74 = .ok (.istore_n 3, 1) := by decide +kernel
theorem dX5_drawFrame_75 : decode cX5_drawFrame 75 = .ok (.aload_n 0, 1) := by decide +kernel
theorem dX5_drawFrame_76 : decode cX5_drawFrame 76 = .ok (.iload_n 3, 1) := by decide +kernel
theorem dX5_drawFrame_77 : decode cX5_drawFrame 77 = .ok (.bipush 8, 2) := by decide +kernel
theorem dX5_drawFrame_79 : decode cX5_drawFrame 79 = .ok (.invokevirtual 169, 3) := by decide +kernel
theorem dX5_drawFrame_82 : decode cX5_drawFrame 82 = .ok (.istore 6, 2) := by decide +kernel
theorem dX5_drawFrame_84 : decode cX5_drawFrame 84 = .ok (.aload_n 0, 1) := by decide +kernel
theorem dX5_drawFrame_85 : decode cX5_drawFrame 85 = .ok (.getfield 12, 3) := by decide +kernel
theorem dX5_drawFrame_88 : decode cX5_drawFrame 88 = .ok (.iload 4, 2) := by decide +kernel
theorem dX5_drawFrame_90 : decode cX5_drawFrame 90 = .ok (.invokevirtual 110, 3) := by decide +kernel
theorem dX5_drawFrame_93 : decode cX5_drawFrame 93 = .ok (.ifCond .eq 36, 3) := by decide +kernel
theorem dX5_drawFrame_96 : decode cX5_drawFrame 96 = .ok (.iload 4, 2) := by decide +kernel
theorem dX5_drawFrame_98 : decode cX5_drawFrame 98 = .ok (.iload 5, 2) := by decide +kernel
theorem dX5_drawFrame_100 : decode cX5_drawFrame 100 = .ok (.if_icmp .eq 29, 3) := by decide +kernel
theorem dX5_drawFrame_103 : decode cX5_drawFrame 103 = .ok (.aload_n 0, 1) := by decide +kernel
theorem dX5_drawFrame_104 : decode cX5_drawFrame 104 = .ok (.getfield 21, 3) := by decide +kernel
theorem dX5_drawFrame_107 : decode cX5_drawFrame 107 = .ok (.iload 4, 2) := by decide +kernel
theorem dX5_drawFrame_109 : decode cX5_drawFrame 109 = .ok (.invokevirtual 172, 3) := by decide +kernel
theorem dX5_drawFrame_112 : decode cX5_drawFrame 112 = .ok (.ifCond .ne 17, 3) := by decide +kernel
theorem dX5_drawFrame_115 : decode cX5_drawFrame 115 = .ok (.aload_n 0, 1) := by decide +kernel
theorem dX5_drawFrame_116 : decode cX5_drawFrame 116 = .ok (.iload 4, 2) := by decide +kernel
theorem dX5_drawFrame_118 : decode cX5_drawFrame 118 = .ok (.iload 5, 2) := by decide +kernel
theorem dX5_drawFrame_120 : decode cX5_drawFrame 120 = .ok (.iload 6, 2) := by decide +kernel
theorem dX5_drawFrame_122 : decode cX5_drawFrame 122 = .ok (.invokevirtual 175, 3) := by decide +kernel
theorem dX5_drawFrame_125 : decode cX5_drawFrame 125 = .ok (.pop, 1) := by decide +kernel
theorem dX5_drawFrame_126 : decode cX5_drawFrame 126 = .ok (.goto 10, 3) := by decide +kernel
theorem dX5_drawFrame_129 : decode cX5_drawFrame 129 = .ok (.aload_n 0, 1) := by decide +kernel
theorem dX5_drawFrame_130 : decode cX5_drawFrame 130 = .ok (.getfield 49, 3) := by decide +kernel
theorem dX5_drawFrame_133 : decode cX5_drawFrame 133 = .ok (.invokevirtual 179, 3) := by decide +kernel
theorem dX5_drawFrame_136 : decode cX5_drawFrame 136 = .ok (.iload_n 3, 1) := by decide +kernel
theorem dX5_drawFrame_137 : decode cX5_drawFrame 137 = .ok (.ireturn, 1) := by decide +kernel
theorem dX5_drawn_0 : decode cX5_drawn 0 = .ok (.iload_n 1, 1) := by decide +kernel
theorem dX5_drawn_1 : decode cX5_drawn 1 = .ok (.iload_n 2, 1) := by decide +kernel
theorem dX5_drawn_2 : decode cX5_drawn 2 = .ok (.imul, 1) := by decide +kernel
theorem dX5_drawn_3 : decode cX5_drawn 3 = .ok (.ldc 165, 2) := by decide +kernel
theorem dX5_drawn_5 : decode cX5_drawn 5 = .ok (.idiv, 1) := by decide +kernel
theorem dX5_drawn_6 : decode cX5_drawn 6 = .ok (.ireturn, 1) := by decide +kernel
theorem dX5_dropIt_0 : decode cX5_dropIt 0 = .ok (.aload_n 0, 1) := by decide +kernel
theorem dX5_dropIt_1 : decode cX5_dropIt 1 = .ok (.getfield 49, 3) := by decide +kernel
theorem dX5_dropIt_4 : decode cX5_dropIt 4 = .ok (.iconst 2, 1) := by decide +kernel
theorem dX5_dropIt_5 : decode cX5_dropIt 5 = .ok (.aload_n 0, 1) := by decide +kernel
theorem dX5_dropIt_6 : decode cX5_dropIt 6 = .ok (.getfield 53, 3) := by decide +kernel
theorem dX5_dropIt_9 : decode cX5_dropIt 9 = .ok (.aload_n 0, 1) := by decide +kernel
theorem dX5_dropIt_10 : decode cX5_dropIt 10 = .ok (.getfield 35, 3) := by decide +kernel
theorem dX5_dropIt_13 : decode cX5_dropIt 13 = .ok (.getfield 182, 3) := by decide +kernel
theorem dX5_dropIt_16 : decode cX5_dropIt 16 = .ok (.invokevirtual 185, 3) := by decide +kernel
theorem dX5_dropIt_19 : decode cX5_dropIt 19 = .ok (.aload_n 0, 1) := by decide +kernel
theorem dX5_dropIt_20 : decode cX5_dropIt 20 = .ok (.getfield 35, 3) := by decide +kernel
theorem dX5_dropIt_23 : decode cX5_dropIt 23 = .ok (.invokevirtual 75, 3) := by decide +kernel
theorem dX5_dropIt_26 : decode cX5_dropIt 26 = .ok (.aload_n 0, 1) := by decide +kernel
theorem dX5_dropIt_27 : decode cX5_dropIt 27 = .ok (.getfield 42, 3) := by decide +kernel
theorem dX5_dropIt_30 : decode cX5_dropIt 30 = .ok (.invokevirtual 76, 3) := by decide +kernel
theorem dX5_dropIt_33 : decode cX5_dropIt 33 = .ok (.return_, 1) := by decide +kernel
theorem dX5_endFrame_0 : decode cX5_endFrame 0 = .ok (.aload_n 0, 1) := by decide +kernel
theorem dX5_endFrame_1 : decode cX5_endFrame 1 = .ok (.getfield 35, 3) := by decide +kernel
theorem dX5_endFrame_4 : decode cX5_endFrame 4 = .ok (.getfield 268, 3) := by decide +kernel
theorem dX5_endFrame_7 : decode cX5_endFrame 7 = .ok (.ifCond .eq 66, 3) := by decide +kernel
theorem dX5_endFrame_10 : decode cX5_endFrame 10 = .ok (.aload_n 0, 1) := by decide +kernel
theorem dX5_endFrame_11 : decode cX5_endFrame 11 = .ok (.getfield 49, 3) := by decide +kernel
theorem dX5_endFrame_14 : decode cX5_endFrame 14 = .ok (.aload_n 0, 1) := by decide +kernel
theorem dX5_endFrame_15 : decode cX5_endFrame 15 = .ok (.getfield 35, 3) := by decide +kernel
theorem dX5_endFrame_18 : decode cX5_endFrame 18 = .ok (.aload_n 0, 1) := by decide +kernel
theorem dX5_endFrame_19 : decode cX5_endFrame 19 = .ok (.getfield 53, 3) := by decide +kernel
theorem dX5_endFrame_22 : decode cX5_endFrame 22 = .ok (.invokevirtual 274, 3) := by decide +kernel
theorem dX5_endFrame_25 : decode cX5_endFrame 25 = .ok (.aload_n 0, 1) := by decide +kernel
theorem dX5_endFrame_26 : decode cX5_endFrame 26 = .ok (.getfield 12, 3) := by decide +kernel
theorem dX5_endFrame_29 : decode cX5_endFrame 29 = .ok (.aload_n 0, 1) := by decide +kernel
theorem dX5_endFrame_30 : decode cX5_endFrame 30 = .ok (.getfield 35, 3) := by decide +kernel
theorem dX5_endFrame_33 : decode cX5_endFrame 33 = .ok (.getfield 225, 3) := by decide +kernel
theorem dX5_endFrame_36 : decode cX5_endFrame 36 = .ok (.aload_n 0, 1) := by decide +kernel
theorem dX5_endFrame_37 : decode cX5_endFrame 37 = .ok (.getfield 35, 3) := by decide +kernel
theorem dX5_endFrame_40 : decode cX5_endFrame 40 = .ok (.getfield 265, 3) := by decide +kernel
theorem dX5_endFrame_43 : decode cX5_endFrame 43 = .ok (.invokevirtual 278, 3) := by decide +kernel
theorem dX5_endFrame_46 : decode cX5_endFrame 46 = .ok (.aload_n 0, 1) := by decide +kernel
theorem dX5_endFrame_47 : decode cX5_endFrame 47 = .ok (.getfield 49, 3) := by decide +kernel
theorem dX5_endFrame_50 : decode cX5_endFrame 50 = .ok (.iconst 0, 1) := by decide +kernel
theorem dX5_endFrame_51 : decode cX5_endFrame 51 = .ok (.aload_n 0, 1) := by decide +kernel
theorem dX5_endFrame_52 : decode cX5_endFrame 52 = .ok (.getfield 53, 3) := by decide +kernel
theorem dX5_endFrame_55 : decode cX5_endFrame 55 = .ok (.iload_n 1, 1) := by decide +kernel
theorem dX5_endFrame_56 : decode cX5_endFrame 56 = .ok (.invokevirtual 185, 3) := by decide +kernel
theorem dX5_endFrame_59 : decode cX5_endFrame 59 = .ok (.aload_n 0, 1) := by decide +kernel
theorem dX5_endFrame_60 : decode cX5_endFrame 60 = .ok (.aload_n 0, 1) := by decide +kernel
theorem dX5_endFrame_61 : decode cX5_endFrame 61 = .ok (.getfield 35, 3) := by decide +kernel
theorem dX5_endFrame_64 : decode cX5_endFrame 64 = .ok (.getfield 145, 3) := by decide +kernel
theorem dX5_endFrame_67 : decode cX5_endFrame 67 = .ok (.putfield 60, 3) := by decide +kernel
theorem dX5_endFrame_70 : decode cX5_endFrame 70 = .ok (.goto 16, 3) := by decide +kernel
theorem dX5_endFrame_73 : decode cX5_endFrame 73 = .ok (.aload_n 0, 1) := by decide +kernel
theorem dX5_endFrame_74 : decode cX5_endFrame 74 = .ok (.getfield 49, 3) := by decide +kernel
theorem dX5_endFrame_77 : decode cX5_endFrame 77 = .ok (.iconst 1, 1) := by decide +kernel
theorem dX5_endFrame_78 : decode cX5_endFrame 78 = .ok (.aload_n 0, 1) := by decide +kernel
theorem dX5_endFrame_79 : decode cX5_endFrame 79 = .ok (.getfield 53, 3) := by decide +kernel
theorem dX5_endFrame_82 : decode cX5_endFrame 82 = .ok (.iload_n 1, 1) := by decide +kernel
theorem dX5_endFrame_83 : decode cX5_endFrame 83 = .ok (.invokevirtual 185, 3) := by decide +kernel
theorem dX5_endFrame_86 : decode cX5_endFrame 86 = .ok (.aload_n 0, 1) := by decide +kernel
theorem dX5_endFrame_87 : decode cX5_endFrame 87 = .ok (.getfield 35, 3) := by decide +kernel
theorem dX5_endFrame_90 : decode cX5_endFrame 90 = .ok (.getfield 212, 3) := by decide +kernel
theorem dX5_endFrame_93 : decode cX5_endFrame 93 = .ok (.istore_n 3, 1) := by decide +kernel
theorem dX5_endFrame_94 : decode cX5_endFrame 94 = .ok (.iload_n 2, 1) := by decide +kernel
theorem dX5_endFrame_95 : decode cX5_endFrame 95 = .ok (.ifCond .eq 13, 3) := by decide +kernel
theorem dX5_endFrame_98 : decode cX5_endFrame 98 = .ok (.aload_n 0, 1) := by decide +kernel
theorem dX5_endFrame_99 : decode cX5_endFrame 99 = .ok (.getfield 35, 3) := by decide +kernel
theorem dX5_endFrame_102 : decode cX5_endFrame 102 = .ok (.getfield 250, 3) := by decide +kernel
theorem dX5_endFrame_105 : decode cX5_endFrame 105 = .ok (.goto 21, 3) := by decide +kernel
theorem dX5_endFrame_108 : decode cX5_endFrame 108 = .ok (.aload_n 0, 1) := by decide +kernel
theorem dX5_endFrame_109 : decode cX5_endFrame 109 = .ok (.getfield 35, 3) := by decide +kernel
theorem dX5_endFrame_112 : decode cX5_endFrame 112 = .ok (.getfield 250, 3) := by decide +kernel
theorem dX5_endFrame_115 : decode cX5_endFrame 115 = .ok (.aload_n 0, 1) := by decide +kernel
theorem dX5_endFrame_116 : decode cX5_endFrame 116 = .ok (.getfield 21, 3) := by decide +kernel
theorem dX5_endFrame_119 : decode cX5_endFrame 119 = .ok (.iload_n 1, 1) := by decide +kernel
theorem dX5_endFrame_120 : decode cX5_endFrame 120 = .ok (.invokevirtual 271, 3) := by decide +kernel
theorem dX5_endFrame_123 : decode cX5_endFrame 123 = .ok (.invokestatic 253, 3) := by decide +kernel
theorem dX5_endFrame_126 : decode cX5_endFrame 126 = .ok (.istore 4, 2) := by decide +kernel
theorem dX5_endFrame_128 : decode cX5_endFrame 128 = .ok (.iload 4, 2) := by decide +kernel
theorem dX5_endFrame_130 : decode cX5_endFrame 130 = .ok (.iload_n 3, 1) := by decide +kernel
theorem dX5_endFrame_131 : decode cX5_endFrame 131 = .ok (.if_icmp .gt 15, 3) := by decide +kernel
theorem dX5_endFrame_134 : decode cX5_endFrame 134 = .ok (.aload_n 0, 1) := by decide +kernel
theorem dX5_endFrame_135 : decode cX5_endFrame 135 = .ok (.getfield 35, 3) := by decide +kernel
theorem dX5_endFrame_138 : decode cX5_endFrame 138 = .ok (.iload_n 1, 1) := by decide +kernel
theorem dX5_endFrame_139 : decode cX5_endFrame 139 = .ok (.iload_n 3, 1) := by decide +kernel
theorem dX5_endFrame_140 : decode cX5_endFrame 140 = .ok (.iload 4, 2) := by decide +kernel
theorem dX5_endFrame_142 : decode cX5_endFrame 142 = .ok (.invokevirtual 192, 3) := by decide +kernel
theorem dX5_endFrame_145 : decode cX5_endFrame 145 = .ok (.return_, 1) := by decide +kernel
theorem dX5_endFrame_146 : decode cX5_endFrame 146 = .ok (.aload_n 0, 1) := by decide +kernel
theorem dX5_endFrame_147 : decode cX5_endFrame 147 = .ok (.getfield 35, 3) := by decide +kernel
theorem dX5_endFrame_150 : decode cX5_endFrame 150 = .ok (.iload_n 1, 1) := by decide +kernel
theorem dX5_endFrame_151 : decode cX5_endFrame 151 = .ok (.iload 4, 2) := by decide +kernel
theorem dX5_endFrame_153 : decode cX5_endFrame 153 = .ok (.iconst 0, 1) := by decide +kernel
theorem dX5_endFrame_154 : decode cX5_endFrame 154 = .ok (.invokevirtual 192, 3) := by decide +kernel
theorem dX5_endFrame_157 : decode cX5_endFrame 157 = .ok (.aload_n 0, 1) := by decide +kernel
theorem dX5_endFrame_158 : decode cX5_endFrame 158 = .ok (.getfield 28, 3) := by decide +kernel
theorem dX5_endFrame_161 : decode cX5_endFrame 161 = .ok (.iload_n 1, 1) := by decide +kernel
theorem dX5_endFrame_162 : decode cX5_endFrame 162 = .ok (.iconst 0, 1) := by decide +kernel
theorem dX5_endFrame_163 : decode cX5_endFrame 163 = .ok (.invokevirtual 130, 3) := by decide +kernel
theorem dX5_endFrame_166 : decode cX5_endFrame 166 = .ok (.iload_n 3, 1) := by decide +kernel
theorem dX5_endFrame_167 : decode cX5_endFrame 167 = .ok (.if_icmp .ne 16, 3) := by decide +kernel
theorem dX5_endFrame_170 : decode cX5_endFrame 170 = .ok (.aload_n 0, 1) := by decide +kernel
theorem dX5_endFrame_171 : decode cX5_endFrame 171 = .ok (.getfield 28, 3) := by decide +kernel
theorem dX5_endFrame_174 : decode cX5_endFrame 174 = .ok (.iload_n 1, 1) := by decide +kernel
theorem dX5_endFrame_175 : decode cX5_endFrame 175 = .ok (.iload 4, 2) := by decide +kernel
theorem dX5_endFrame_177 : decode cX5_endFrame 177 = .ok (.invokevirtual 258, 3) := by decide +kernel
theorem dX5_endFrame_180 : decode cX5_endFrame 180 = .ok (.goto 14, 3) := by decide +kernel
theorem dX5_endFrame_183 : decode cX5_endFrame 183 = .ok (.aload_n 0, 1) := by decide +kernel
theorem dX5_endFrame_184 : decode cX5_endFrame 184 = .ok (.getfield 28, 3) := by decide +kernel
theorem dX5_endFrame_187 : decode cX5_endFrame 187 = .ok (.iload_n 1, 1) := by decide +kernel
theorem dX5_endFrame_188 : decode cX5_endFrame 188 = .ok (.iload_n 3, 1) := by decide +kernel
theorem dX5_endFrame_189 : decode cX5_endFrame 189 = .ok (.iload 4, 2) := by decide +kernel
theorem dX5_endFrame_191 : decode cX5_endFrame 191 = .ok (.invokevirtual 281, 3) := by decide +kernel
theorem dX5_endFrame_194 : decode cX5_endFrame 194 = .ok (.return_, 1) := by decide +kernel
theorem dX5_forgetLatestTick_0 : decode cX5_forgetLatestTick 0 = .ok (.aload_n 0, 1) := by decide +kernel
theorem dX5_forgetLatestTick_1 : decode cX5_forgetLatestTick 1 = .ok (.iconst (-1), 1) := by decide +kernel
theorem dX5_forgetLatestTick_2 : decode cX5_forgetLatestTick 2 = .ok (.putfield 60, 3) := by decide +kernel
theorem dX5_forgetLatestTick_5 : decode cX5_forgetLatestTick 5 = .ok (.aload_n 0, 1) := by decide +kernel
theorem dX5_forgetLatestTick_6 : decode cX5_forgetLatestTick 6 = .ok (.iconst (-1), 1) := by decide +kernel
theorem dX5_forgetLatestTick_7 : decode cX5_forgetLatestTick 7 = .ok (.putfield 63, 3) := by decide +kernel
theorem dX5_forgetLatestTick_10 : decode cX5_forgetLatestTick 10 = .ok (.aload_n 0, 1) := by decide +kernel
theorem dX5_forgetLatestTick_11 : decode cX5_forgetLatestTick 11 = .ok (.iconst 0, 1) := by decide +kernel
theorem dX5_forgetLatestTick_12 : decode cX5_forgetLatestTick 12 = .ok (.putfield 66, 3) := by decide +kernel
theorem dX5_forgetLatestTick_15 : decode cX5_forgetLatestTick 15 = .ok (.return_, 1) := by decide +kernel
theorem dX5_frameComes_0 : decode cX5_frameComes 0 = .ok (.aload_n 0, 1) := by decide +kernel
theorem dX5_frameComes_1 : decode cX5_frameComes 1 = .ok (.getfield 35, 3) := by decide +kernel
theorem dX5_frameComes_4 : decode cX5_frameComes 4 = .ok (.getfield 265, 3) := by decide +kernel
theorem dX5_frameComes_7 : decode cX5_frameComes 7 = .ok (.iload_n 1, 1) := by decide +kernel
theorem dX5_frameComes_8 : decode cX5_frameComes 8 = .ok (.if_icmp .ne 11, 3) := by decide +kernel
theorem dX5_frameComes_11 : decode cX5_frameComes 11 = .ok (.aload_n 0, 1) := by decide +kernel
theorem dX5_frameComes_12 : decode cX5_frameComes 12 = .ok (.getfield 35, 3) := by decide +kernel
theorem dX5_frameComes_15 : decode cX5_frameComes 15 = .ok (.iconst 1, 1) := by decide +kernel
theorem dX5_frameComes_16 : decode cX5_frameComes 16 = .ok (.putfield 268, 3) := by decide +kernel
theorem dX5_frameComes_19 : decode cX5_frameComes 19 = .ok (.iload_n 2, 1) := by decide +kernel
theorem dX5_frameComes_20 : decode cX5_frameComes 20 = .ok (.ifCond .ne 28, 3) := by decide +kernel
theorem dX5_frameComes_23 : decode cX5_frameComes 23 = .ok (.aload_n 0, 1) := by decide +kernel
theorem dX5_frameComes_24 : decode cX5_frameComes 24 = .ok (.getfield 35, 3) := by decide +kernel
theorem dX5_frameComes_27 : decode cX5_frameComes 27 = .ok (.aload_n 0, 1) := by decide +kernel
theorem dX5_frameComes_28 : decode cX5_frameComes 28 = .ok (.getfield 35, 3) := by decide +kernel
theorem dX5_frameComes_31 : decode cX5_frameComes 31 = .ok (.getfield 250, 3) := by decide +kernel
theorem dX5_frameComes_34 : decode cX5_frameComes 34 = .ok (.aload_n 0, 1) := by decide +kernel
theorem dX5_frameComes_35 : decode cX5_frameComes 35 = .ok (.getfield 21, 3) := by decide +kernel
theorem dX5_frameComes_38 : decode cX5_frameComes 38 = .ok (.iload_n 1, 1) := by decide +kernel
theorem dX5_frameComes_39 : decode cX5_frameComes 39 = .ok (.invokevirtual 271, 3) := by decide +kernel
theorem dX5_frameComes_42 : decode cX5_frameComes 42 = .ok (.invokestatic 253, 3) := by decide +kernel
theorem dX5_frameComes_45 : decode cX5_frameComes 45 = .ok (.putfield 250, 3) := by decide +kernel
theorem dX5_frameComes_48 : decode cX5_frameComes 48 = .ok (.return_, 1) := by decide +kernel
theorem dX5_hasFrame_0 : decode cX5_hasFrame 0 = .ok (.aload_n 0, 1) := by decide +kernel
theorem dX5_hasFrame_1 : decode cX5_hasFrame 1 = .ok (.getfield 35, 3) := by decide +kernel
theorem dX5_hasFrame_4 : decode cX5_hasFrame 4 = .ok (.getfield 142, 3) := by decide +kernel
theorem dX5_hasFrame_7 : decode cX5_hasFrame 7 = .ok (.iconst 2, 1) := by decide +kernel
theorem dX5_hasFrame_8 : decode cX5_hasFrame 8 = .ok (.if_icmp .ne 14, 3) := by decide +kernel
theorem dX5_hasFrame_11 : decode cX5_hasFrame 11 = .ok (.aload_n 0, 1) := by decide +kernel
theorem dX5_hasFrame_12 : decode cX5_hasFrame 12 = .ok (.getfield 35, 3) := by decide +kernel
theorem dX5_hasFrame_15 : decode cX5_hasFrame 15 = .ok (.getfield 145, 3) := by decide +kernel
theorem dX5_hasFrame_18 : decode cX5_hasFrame 18 = .ok (.iload_n 1, 1) := by decide +kernel
theorem dX5_hasFrame_19 : decode cX5_hasFrame 19 = .ok (.if_icmp .eq 15, 3) := by decide +kernel
theorem dX5_hasFrame_22 : decode cX5_hasFrame 22 = .ok (.aload_n 0, 1) := by decide +kernel
theorem dX5_hasFrame_23 : decode cX5_hasFrame 23 = .ok (.getfield 21, 3) := by decide +kernel
theorem dX5_hasFrame_26 : decode cX5_hasFrame 26 = .ok (.iload_n 1, 1) := by decide +kernel
theorem dX5_hasFrame_27 : decode cX5_hasFrame 27 = .ok (.invokevirtual 148, 3) := by decide +kernel
theorem dX5_hasFrame_30 : decode cX5_hasFrame 30 = .ok (.iconst (-1), 1) := by decide +kernel
theorem dX5_hasFrame_31 : decode cX5_hasFrame 31 = .ok (.if_icmp .eq 7, 3) := by decide +kernel
theorem dX5_hasFrame_34 : decode cX5_hasFrame 34 = .ok (.iconst 1, 1) := by decide +kernel
theorem dX5_hasFrame_35 : decode cX5_hasFrame 35 = .ok (.goto 4, 3) := by decide +kernel
theorem dX5_hasFrame_38 : decode cX5_hasFrame 38 = .ok (.iconst 0, 1) := by decide +kernel
theorem dX5_hasFrame_39 : decode cX5_hasFrame 39 = .ok (.ireturn, 1) := by decide +kernel
theorem dX5_isQuiet_0 : decode cX5_isQuiet 0 = .ok (.aload_n 0, 1) := by decide +kernel
theorem dX5_isQuiet_1 : decode cX5_isQuiet 1 = .ok (.getfield 35, 3) := by decide +kernel
theorem dX5_isQuiet_4 : decode cX5_isQuiet 4 = .ok (.getfield 142, 3) := by decide +kernel
theorem dX5_isQuiet_7 : decode cX5_isQuiet 7 = .ok (.iconst 2, 1) := by decide +kernel
theorem dX5_isQuiet_8 : decode cX5_isQuiet 8 = .ok (.if_icmp .ne 5, 3) := by decide +kernel
theorem dX5_isQuiet_11 : decode cX5_isQuiet 11 = .ok (.iconst 0, 1) := by decide +kernel
theorem dX5_isQuiet_12 : decode cX5_isQuiet 12 = .ok (.ireturn, 1) := by decide +kernel
theorem dX5_isQuiet_13 : decode cX5_isQuiet 13 = .ok (.iconst 0, 1) := by decide +kernel
theorem dX5_isQuiet_14 : decode cX5_isQuiet 14 = .ok (.istore_n 1, 1) := by decide +kernel
theorem dX5_isQuiet_15 : decode cX5_isQuiet 15 = .ok (.iload_n 1, 1) := by decide +kernel
theorem dX5_isQuiet_16 : decode cX5_isQuiet 16 = .ok (.aload_n 0, 1) := by decide +kernel
theorem dX5_isQuiet_17 : decode cX5_isQuiet 17 = .ok (.getfield 12, 3) := by decide +kernel
theorem dX5_isQuiet_20 : decode cX5_isQuiet 20 = .ok (.getfield 151, 3) := by decide +kernel
theorem dX5_isQuiet_23 : decode cX5_isQuiet 23 = .ok (.if_icmp .ge 33, 3) := by decide +kernel
theorem dX5_isQuiet_26 : decode cX5_isQuiet 26 = .ok (.aload_n 0, 1) := by decide +kernel
theorem dX5_isQuiet_27 : decode cX5_isQuiet 27 = .ok (.getfield 12, 3) := by decide +kernel
theorem dX5_isQuiet_30 : decode cX5_isQuiet 30 = .ok (.iload_n 1, 1) := by decide +kernel
theorem dX5_isQuiet_31 : decode cX5_isQuiet 31 = .ok (.invokevirtual 110, 3) := by decide +kernel
theorem dX5_isQuiet_34 : decode cX5_isQuiet 34 = .ok (.ifCond .eq 16, 3) := by decide +kernel
theorem dX5_isQuiet_37 : decode cX5_isQuiet 37 = .ok (.aload_n 0, 1) := by decide +kernel
theorem dX5_isQuiet_38 : decode cX5_isQuiet 38 = .ok (.getfield 21, 3) := by decide +kernel
theorem dX5_isQuiet_41 : decode cX5_isQuiet 41 = .ok (.iload_n 1, 1) := by decide +kernel
theorem dX5_isQuiet_42 : decode cX5_isQuiet 42 = .ok (.invokevirtual 113, 3) := by decide +kernel
theorem dX5_isQuiet_45 : decode cX5_isQuiet 45 = .ok (.ifCond .le 5, 3) := by decide +kernel
theorem dX5_isQuiet_48 : decode cX5_isQuiet 48 = .ok (.iconst 0, 1) := by decide +kernel
theorem dX5_isQuiet_49 : decode cX5_isQuiet 49 = .ok (.ireturn, 1) := by decide +kernel
theorem dX5_isQuiet_50 : decode cX5_isQuiet 50 = .ok (.iinc 1 1, 3) := by decide +kernel
theorem dX5_isQuiet_53 : decode cX5_isQuiet 53 = .ok (.goto (-38), 3) := by decide +kernel
theorem dX5_isQuiet_56 : decode cX5_isQuiet 56 = .ok (.iconst 1, 1) := by decide +kernel
theorem dX5_isQuiet_57 : decode cX5_isQuiet 57 = .ok (.ireturn, 1) := by decide +kernel
theorem dX5_lowerToken_0 : decode cX5_lowerToken 0 = .ok (.aload_n 0, 1) := by decide +kernel
theorem dX5_lowerToken_1 : decode cX5_lowerToken 1 = .ok (.getfield 28, 3) := by decide +kernel
theorem dX5_lowerToken_4 : decode cX5_lowerToken 4 = .ok (.iload_n 1, 1) := by decide +kernel
theorem dX5_lowerToken_5 : decode cX5_lowerToken 5 = .ok (.iconst 0, 1) := by decide +kernel
theorem dX5_lowerToken_6 : decode cX5_lowerToken 6 = .ok (.invokevirtual 126, 3) := by decide +kernel
theorem dX5_lowerToken_9 : decode cX5_lowerToken 9 = .ok (.istore_n 2, 1) := by decide +kernel
theorem dX5_lowerToken_10 : decode cX5_lowerToken 10 = .ok (.aload_n 0, 1) := by decide +kernel
theorem dX5_lowerToken_11 : decode cX5_lowerToken 11 = .ok (.getfield 35, 3) := by decide +kernel
theorem dX5_lowerToken_14 : decode cX5_lowerToken 14 = .ok (.getfield 250, 3) := by decide +kernel
theorem dX5_lowerToken_17 : decode cX5_lowerToken 17 = .ok (.iload_n 2, 1) := by decide +kernel
theorem dX5_lowerToken_18 : decode cX5_lowerToken 18 = .ok (.if_icmp .le 43, 3) := by decide +kernel
theorem dX5_lowerToken_21 : decode cX5_lowerToken 21 = .ok (.aload_n 0, 1) := by decide +kernel
theorem dX5_lowerToken_22 : decode cX5_lowerToken 22 = .ok (.getfield 35, 3) := by decide +kernel
theorem dX5_lowerToken_25 : decode cX5_lowerToken 25 = .ok (.aload_n 0, 1) := by decide +kernel
theorem dX5_lowerToken_26 : decode cX5_lowerToken 26 = .ok (.getfield 35, 3) := by decide +kernel
theorem dX5_lowerToken_29 : decode cX5_lowerToken 29 = .ok (.getfield 250, 3) := by decide +kernel
theorem dX5_lowerToken_32 : decode cX5_lowerToken 32 = .ok (.putfield 212, 3) := by decide +kernel
theorem dX5_lowerToken_35 : decode cX5_lowerToken 35 = .ok (.aload_n 0, 1) := by decide +kernel
theorem dX5_lowerToken_36 : decode cX5_lowerToken 36 = .ok (.getfield 28, 3) := by decide +kernel
theorem dX5_lowerToken_39 : decode cX5_lowerToken 39 = .ok (.iload_n 1, 1) := by decide +kernel
theorem dX5_lowerToken_40 : decode cX5_lowerToken 40 = .ok (.aload_n 0, 1) := by decide +kernel
theorem dX5_lowerToken_41 : decode cX5_lowerToken 41 = .ok (.getfield 35, 3) := by decide +kernel
theorem dX5_lowerToken_44 : decode cX5_lowerToken 44 = .ok (.getfield 250, 3) := by decide +kernel
theorem dX5_lowerToken_47 : decode cX5_lowerToken 47 = .ok (.invokevirtual 258, 3) := by decide +kernel
theorem dX5_lowerToken_50 : decode cX5_lowerToken 50 = .ok (.aload_n 0, 1) := by decide +kernel
theorem dX5_lowerToken_51 : decode cX5_lowerToken 51 = .ok (.getfield 35, 3) := by decide +kernel
theorem dX5_lowerToken_54 : decode cX5_lowerToken 54 = .ok (.iconst 0, 1) := by decide +kernel
theorem dX5_lowerToken_55 : decode cX5_lowerToken 55 = .ok (.putfield 250, 3) := by decide +kernel
theorem dX5_lowerToken_58 : decode cX5_lowerToken 58 = .ok (.goto 19, 3) := by decide +kernel
theorem dX5_lowerToken_61 : decode cX5_lowerToken 61 = .ok (.aload_n 0, 1) := by decide +kernel
theorem dX5_lowerToken_62 : decode cX5_lowerToken 62 = .ok (.getfield 35, 3) := by decide +kernel
theorem dX5_lowerToken_65 : decode cX5_lowerToken 65 = .ok (.iload_n 2, 1) := by decide +kernel
theorem dX5_lowerToken_66 : decode cX5_lowerToken 66 = .ok (.putfield 212, 3) := by decide +kernel
theorem dX5_lowerToken_69 : decode cX5_lowerToken 69 = .ok (.aload_n 0, 1) := by decide +kernel
theorem dX5_lowerToken_70 : decode cX5_lowerToken 70 = .ok (.getfield 28, 3) := by decide +kernel
theorem dX5_lowerToken_73 : decode cX5_lowerToken 73 = .ok (.iload_n 1, 1) := by decide +kernel
theorem dX5_lowerToken_74 : decode cX5_lowerToken 74 = .ok (.invokevirtual 262, 3) := by decide +kernel
theorem dX5_lowerToken_77 : decode cX5_lowerToken 77 = .ok (.aload_n 0, 1) := by decide +kernel
theorem dX5_lowerToken_78 : decode cX5_lowerToken 78 = .ok (.getfield 35, 3) := by decide +kernel
theorem dX5_lowerToken_81 : decode cX5_lowerToken 81 = .ok (.iconst 0, 1) := by decide +kernel
theorem dX5_lowerToken_82 : decode cX5_lowerToken 82 = .ok (.putfield 215, 3) := by decide +kernel
theorem dX5_lowerToken_85 : decode cX5_lowerToken 85 = .ok (.return_, 1) := by decide +kernel
theorem dX5_moveOn_0 : decode cX5_moveOn 0 = .ok (.aload_n 0, 1) := by decide +kernel
theorem dX5_moveOn_1 : decode cX5_moveOn 1 = .ok (.getfield 12, 3) := by decide +kernel
theorem dX5_moveOn_4 : decode cX5_moveOn 4 = .ok (.aload_n 0, 1) := by decide +kernel
theorem dX5_moveOn_5 : decode cX5_moveOn 5 = .ok (.getfield 35, 3) := by decide +kernel
theorem dX5_moveOn_8 : decode cX5_moveOn 8 = .ok (.getfield 182, 3) := by decide +kernel
theorem dX5_moveOn_11 : decode cX5_moveOn 11 = .ok (.invokevirtual 202, 3) := by decide +kernel
theorem dX5_moveOn_14 : decode cX5_moveOn 14 = .ok (.istore_n 2, 1) := by decide +kernel
theorem dX5_moveOn_15 : decode cX5_moveOn 15 = .ok (.iload_n 2, 1) := by decide +kernel
theorem dX5_moveOn_16 : decode cX5_moveOn 16 = .ok (.iconst (-1), 1) := by decide +kernel
theorem dX5_moveOn_17 : decode cX5_moveOn 17 = .ok (.if_icmp .eq 21, 3) := by decide +kernel
theorem dX5_moveOn_20 : decode cX5_moveOn 20 = .ok (.aload_n 0, 1) := by decide +kernel
theorem dX5_moveOn_21 : decode cX5_moveOn 21 = .ok (.getfield 12, 3) := by decide +kernel
theorem dX5_moveOn_24 : decode cX5_moveOn 24 = .ok (.aload_n 0, 1) := by decide +kernel
theorem dX5_moveOn_25 : decode cX5_moveOn 25 = .ok (.getfield 35, 3) := by decide +kernel
theorem dX5_moveOn_28 : decode cX5_moveOn 28 = .ok (.getfield 182, 3) := by decide +kernel
theorem dX5_moveOn_31 : decode cX5_moveOn 31 = .ok (.iload_n 2, 1) := by decide +kernel
theorem dX5_moveOn_32 : decode cX5_moveOn 32 = .ok (.invokevirtual 205, 3) := by decide +kernel
theorem dX5_moveOn_35 : decode cX5_moveOn 35 = .ok (.ifCond .eq 8, 3) := by decide +kernel
theorem dX5_moveOn_38 : decode cX5_moveOn 38 = .ok (.aload_n 0, 1) := by decide +kernel
theorem dX5_moveOn_39 : decode cX5_moveOn 39 = .ok (.invokevirtual 209, 3) := by decide +kernel
theorem dX5_moveOn_42 : decode cX5_moveOn 42 = .ok (.return_, 1) := by decide +kernel
theorem dX5_moveOn_43 : decode cX5_moveOn 43 = .ok (.aload_n 0, 1) := by decide +kernel
theorem dX5_moveOn_44 : decode cX5_moveOn 44 = .ok (.getfield 35, 3) := by decide +kernel
theorem dX5_moveOn_47 : decode cX5_moveOn 47 = .ok (.iload_n 2, 1) := by decide +kernel
theorem dX5_moveOn_48 : decode cX5_moveOn 48 = .ok (.putfield 182, 3) := by decide +kernel
theorem dX5_moveOn_51 : decode cX5_moveOn 51 = .ok (.iload_n 2, 1) := by decide +kernel
theorem dX5_moveOn_52 : decode cX5_moveOn 52 = .ok (.aload_n 0, 1) := by decide +kernel
theorem dX5_moveOn_53 : decode cX5_moveOn 53 = .ok (.getfield 12, 3) := by decide +kernel
theorem dX5_moveOn_56 : decode cX5_moveOn 56 = .ok (.getfield 189, 3) := by decide +kernel
theorem dX5_moveOn_59 : decode cX5_moveOn 59 = .ok (.if_icmp .ne 47, 3) := by decide +kernel
theorem dX5_moveOn_62 : decode cX5_moveOn 62 = .ok (.aload_n 0, 1) := by decide +kernel
theorem dX5_moveOn_63 : decode cX5_moveOn 63 = .ok (.getfield 35, 3) := by decide +kernel
theorem dX5_moveOn_66 : decode cX5_moveOn 66 = .ok (.getfield 142, 3) := by decide +kernel
theorem dX5_moveOn_69 : decode cX5_moveOn 69 = .ok (.iconst 2, 1) := by decide +kernel
theorem dX5_moveOn_70 : decode cX5_moveOn 70 = .ok (.if_icmp .eq 13, 3) := by decide +kernel
theorem dX5_moveOn_73 : decode cX5_moveOn 73 = .ok (.aload_n 0, 1) := by decide +kernel
theorem dX5_moveOn_74 : decode cX5_moveOn 74 = .ok (.getfield 35, 3) := by decide +kernel
theorem dX5_moveOn_77 : decode cX5_moveOn 77 = .ok (.getfield 212, 3) := by decide +kernel
theorem dX5_moveOn_80 : decode cX5_moveOn 80 = .ok (.ifCond .le 26, 3) := by decide +kernel
theorem dX5_moveOn_83 : decode cX5_moveOn 83 = .ok (.aload_n 0, 1) := by decide +kernel
theorem dX5_moveOn_84 : decode cX5_moveOn 84 = .ok (.getfield 35, 3) := by decide +kernel
theorem dX5_moveOn_87 : decode cX5_moveOn 87 = .ok (.getfield 215, 3) := by decide +kernel
theorem dX5_moveOn_90 : decode cX5_moveOn 90 = .ok (.ifCond .eq 8, 3) := by decide +kernel
theorem dX5_moveOn_93 : decode cX5_moveOn 93 = .ok (.aload_n 0, 1) := by decide +kernel
theorem dX5_moveOn_94 : decode cX5_moveOn 94 = .ok (.invokevirtual 218, 3) := by decide +kernel
theorem dX5_moveOn_97 : decode cX5_moveOn 97 = .ok (.return_, 1) := by decide +kernel
theorem dX5_moveOn_98 : decode cX5_moveOn 98 = .ok (.aload_n 0, 1) := by decide +kernel
theorem dX5_moveOn_99 : decode cX5_moveOn 99 = .ok (.getfield 35, 3) := by decide +kernel
theorem dX5_moveOn_102 : decode cX5_moveOn 102 = .ok (.iconst 1, 1) := by decide +kernel
theorem dX5_moveOn_103 : decode cX5_moveOn 103 = .ok (.putfield 215, 3) := by decide +kernel
theorem dX5_moveOn_106 : decode cX5_moveOn 106 = .ok (.aload_n 0, 1) := by decide +kernel
theorem dX5_moveOn_107 : decode cX5_moveOn 107 = .ok (.getfield 35, 3) := by decide +kernel
theorem dX5_moveOn_110 : decode cX5_moveOn 110 = .ok (.getfield 142, 3) := by decide +kernel
theorem dX5_moveOn_113 : decode cX5_moveOn 113 = .ok (.iconst 1, 1) := by decide +kernel
theorem dX5_moveOn_114 : decode cX5_moveOn 114 = .ok (.if_icmp .ne 12, 3) := by decide +kernel
theorem dX5_moveOn_117 : decode cX5_moveOn 117 = .ok (.aload_n 0, 1) := by decide +kernel
theorem dX5_moveOn_118 : decode cX5_moveOn 118 = .ok (.iload_n 2, 1) := by decide +kernel
theorem dX5_moveOn_119 : decode cX5_moveOn 119 = .ok (.iload_n 1, 1) := by decide +kernel
theorem dX5_moveOn_120 : decode cX5_moveOn 120 = .ok (.invokevirtual 221, 3) := by decide +kernel
theorem dX5_moveOn_123 : decode cX5_moveOn 123 = .ok (.goto 29, 3) := by decide +kernel
theorem dX5_moveOn_126 : decode cX5_moveOn 126 = .ok (.aload_n 0, 1) := by decide +kernel
theorem dX5_moveOn_127 : decode cX5_moveOn 127 = .ok (.getfield 35, 3) := by decide +kernel
theorem dX5_moveOn_130 : decode cX5_moveOn 130 = .ok (.getfield 225, 3) := by decide +kernel
theorem dX5_moveOn_133 : decode cX5_moveOn 133 = .ok (.iload_n 2, 1) := by decide +kernel
theorem dX5_moveOn_134 : decode cX5_moveOn 134 = .ok (.if_icmp .ne 12, 3) := by decide +kernel
theorem dX5_moveOn_137 : decode cX5_moveOn 137 = .ok (.aload_n 0, 1) := by decide +kernel
theorem dX5_moveOn_138 : decode cX5_moveOn 138 = .ok (.iload_n 2, 1) := by decide +kernel
theorem dX5_moveOn_139 : decode cX5_moveOn 139 = .ok (.iload_n 1, 1) := by decide +kernel
theorem dX5_moveOn_140 : decode cX5_moveOn 140 = .ok (.invokevirtual 228, 3) := by decide +kernel
theorem dX5_moveOn_143 : decode cX5_moveOn 143 = .ok (.goto 9, 3) := by decide +kernel
theorem dX5_moveOn_146 : decode cX5_moveOn 146 = .ok (.aload_n 0, 1) := by decide +kernel
theorem dX5_moveOn_147 : decode cX5_moveOn 147 = .ok (.iload_n 2, 1) := by decide +kernel
theorem dX5_moveOn_148 : decode cX5_moveOn 148 = .ok (.iload_n 1, 1) := by decide +kernel
theorem dX5_moveOn_149 : decode cX5_moveOn 149 = .ok (.invokevirtual 231, 3) := by decide +kernel
theorem dX5_moveOn_152 : decode cX5_moveOn 152 = .ok (.aload_n 0, 1) := by decide +kernel
theorem dX5_moveOn_153 : decode cX5_moveOn 153 = .ok (.getfield 49, 3) := by decide +kernel
theorem dX5_moveOn_156 : decode cX5_moveOn 156 = .ok (.aload_n 0, 1) := by decide +kernel
theorem dX5_moveOn_157 : decode cX5_moveOn 157 = .ok (.getfield 35, 3) := by decide +kernel
theorem dX5_moveOn_160 : decode cX5_moveOn 160 = .ok (.getfield 212, 3) := by decide +kernel
theorem dX5_moveOn_163 : decode cX5_moveOn 163 = .ok (.invokevirtual 234, 3) := by decide +kernel
theorem dX5_moveOn_166 : decode cX5_moveOn 166 = .ok (.return_, 1) := by decide +kernel
theorem dX5_newFrame_0 : decode cX5_newFrame 0 = .ok (.aload_n 0, 1) := by decide +kernel
theorem dX5_newFrame_1 : decode cX5_newFrame 1 = .ok (.getfield 57, 3) := by decide +kernel
theorem dX5_newFrame_4 : decode cX5_newFrame 4 = .ok (.istore 4, 2) := by decide +kernel
theorem dX5_newFrame_6 : decode cX5_newFrame 6 = .ok (.aload_n 0, 1) := by decide +kernel
theorem dX5_newFrame_7 : decode cX5_newFrame 7 = .ok (.getfield 21, 3) := by decide +kernel
theorem dX5_newFrame_10 : decode cX5_newFrame 10 = .ok (.iload_n 1, 1) := by decide +kernel
theorem dX5_newFrame_11 : decode cX5_newFrame 11 = .ok (.iload 4, 2) := by decide +kernel
theorem dX5_newFrame_13 : decode cX5_newFrame 13 = .ok (.iload_n 2, 1) := by decide +kernel
theorem dX5_newFrame_14 : decode cX5_newFrame 14 = .ok (.iload_n 3, 1) := by decide +kernel
theorem dX5_newFrame_15 : decode cX5_newFrame 15 = .ok (.aload_n 0, 1) := by decide +kernel
theorem dX5_newFrame_16 : decode cX5_newFrame 16 = .ok (.getfield 53, 3) := by decide +kernel
theorem dX5_newFrame_19 : decode cX5_newFrame 19 = .ok (.invokevirtual 154, 3) := by decide +kernel
theorem dX5_newFrame_22 : decode cX5_newFrame 22 = .ok (.aload_n 0, 1) := by decide +kernel
theorem dX5_newFrame_23 : decode cX5_newFrame 23 = .ok (.dup, 1) := by decide +kernel
theorem dX5_newFrame_24 : decode cX5_newFrame 24 = .ok (.getfield 57, 3) := by decide +kernel
theorem dX5_newFrame_27 : decode cX5_newFrame 27 = .ok (.iconst 1, 1) := by decide +kernel
theorem dX5_newFrame_28 : decode cX5_newFrame 28 = .ok (.iadd, 1) := by decide +kernel
theorem dX5_newFrame_29 : decode cX5_newFrame 29 = .ok (.putfield 57, 3) := by decide +kernel
theorem dX5_newFrame_32 : decode cX5_newFrame 32 = .ok (.iload 4, 2) := by decide +kernel
theorem dX5_newFrame_34 : decode cX5_newFrame 34 = .ok (.ireturn, 1) := by decide +kernel
theorem dX5_nextDraw_0 : decode cX5_nextDraw 0 = .ok (.iload_n 1, 1) := by decide +kernel
theorem dX5_nextDraw_1 : decode cX5_nextDraw 1 = .ok (.sipush 3877, 3) := by decide +kernel
theorem dX5_nextDraw_4 : decode cX5_nextDraw 4 = .ok (.imul, 1) := by decide +kernel
theorem dX5_nextDraw_5 : decode cX5_nextDraw 5 = .ok (.sipush 29573, 3) := by decide +kernel
theorem dX5_nextDraw_8 : decode cX5_nextDraw 8 = .ok (.iadd, 1) := by decide +kernel
theorem dX5_nextDraw_9 : decode cX5_nextDraw 9 = .ok (.ldc 165, 2) := by decide +kernel
theorem dX5_nextDraw_11 : decode cX5_nextDraw 11 = .ok (.irem, 1) := by decide +kernel
theorem dX5_nextDraw_12 : decode cX5_nextDraw 12 = .ok (.ireturn, 1) := by decide +kernel
theorem dX5_passSilentTick_0 : decode cX5_passSilentTick 0 = .ok (.aload_n 0, 1) := by decide +kernel
theorem dX5_passSilentTick_1 : decode cX5_passSilentTick 1 = .ok (.getfield 42, 3) := by decide +kernel
theorem dX5_passSilentTick_4 : decode cX5_passSilentTick 4 = .ok (.dup, 1) := by decide +kernel
theorem dX5_passSilentTick_5 : decode cX5_passSilentTick 5 = .ok (.getfield 284, 3) := by decide +kernel
theorem dX5_passSilentTick_8 : decode cX5_passSilentTick 8 = .ok (.iconst 1, 1) := by decide +kernel
theorem dX5_passSilentTick_9 : decode cX5_passSilentTick 9 = .ok (.iadd, 1) := by decide +kernel
theorem dX5_passSilentTick_10 : decode cX5_passSilentTick 10 = .ok (.putfield 284, 3) := by decide +kernel
theorem dX5_passSilentTick_13 : decode cX5_passSilentTick 13 = .ok (.aload_n 0, 1) := by decide +kernel
theorem dX5_passSilentTick_14 : decode cX5_passSilentTick 14 = .ok (.getfield 12, 3) := by decide +kernel
theorem dX5_passSilentTick_17 : decode cX5_passSilentTick 17 = .ok (.invokevirtual 285, 3) := by decide +kernel
theorem dX5_passSilentTick_20 : decode cX5_passSilentTick 20 = .ok (.istore_n 1, 1) := by decide +kernel
theorem dX5_passSilentTick_21 : decode cX5_passSilentTick 21 = .ok (.iload_n 1, 1) := by decide +kernel
theorem dX5_passSilentTick_22 : decode cX5_passSilentTick 22 = .ok (.ifCond .ne 4, 3) := by decide +kernel
theorem dX5_passSilentTick_25 : decode cX5_passSilentTick 25 = .ok (.return_, 1) := by decide +kernel
theorem dX5_passSilentTick_26 : decode cX5_passSilentTick 26 = .ok (.aload_n 0, 1) := by decide +kernel
theorem dX5_passSilentTick_27 : decode cX5_passSilentTick 27 = .ok (.getfield 42, 3) := by decide +kernel
theorem dX5_passSilentTick_30 : decode cX5_passSilentTick 30 = .ok (.getfield 284, 3) := by decide +kernel
theorem dX5_passSilentTick_33 : decode cX5_passSilentTick 33 = .ok (.iload_n 1, 1) := by decide +kernel
theorem dX5_passSilentTick_34 : decode cX5_passSilentTick 34 = .ok (.iconst 1, 1) := by decide +kernel
theorem dX5_passSilentTick_35 : decode cX5_passSilentTick 35 = .ok (.iadd, 1) := by decide +kernel
theorem dX5_passSilentTick_36 : decode cX5_passSilentTick 36 = .ok (.if_icmp .ne 10, 3) := by decide +kernel
theorem dX5_passSilentTick_39 : decode cX5_passSilentTick 39 = .ok (.aload_n 0, 1) := by decide +kernel
theorem dX5_passSilentTick_40 : decode cX5_passSilentTick 40 = .ok (.invokevirtual 289, 3) := by decide +kernel
theorem dX5_passSilentTick_43 : decode cX5_passSilentTick 43 = .ok (.goto 113, 3) := by decide +kernel
theorem dX5_passSilentTick_46 : decode cX5_passSilentTick 46 = .ok (.aload_n 0, 1) := by decide +kernel
theorem dX5_passSilentTick_47 : decode cX5_passSilentTick 47 = .ok (.getfield 42, 3) := by decide +kernel
theorem dX5_passSilentTick_50 : decode cX5_passSilentTick 50 = .ok (.getfield 284, 3) := by decide +kernel
theorem dX5_passSilentTick_53 : decode cX5_passSilentTick 53 = .ok (.iload_n 1, 1) := by decide +kernel
theorem dX5_passSilentTick_54 : decode cX5_passSilentTick 54 = .ok (.iload_n 1, 1) := by decide +kernel
theorem dX5_passSilentTick_55 : decode cX5_passSilentTick 55 = .ok (.iadd, 1) := by decide +kernel
theorem dX5_passSilentTick_56 : decode cX5_passSilentTick 56 = .ok (.iconst 1, 1) := by decide +kernel
theorem dX5_passSilentTick_57 : decode cX5_passSilentTick 57 = .ok (.iadd, 1) := by decide +kernel
theorem dX5_passSilentTick_58 : decode cX5_passSilentTick 58 = .ok (.if_icmp .ne 21, 3) := by decide +kernel
theorem dX5_passSilentTick_61 : decode cX5_passSilentTick 61 = .ok (.aload_n 0, 1) := by decide +kernel
theorem dX5_passSilentTick_62 : decode cX5_passSilentTick 62 = .ok (.getfield 42, 3) := by decide +kernel
theorem dX5_passSilentTick_65 : decode cX5_passSilentTick 65 = .ok (.getfield 292, 3) := by decide +kernel
theorem dX5_passSilentTick_68 : decode cX5_passSilentTick 68 = .ok (.iconst 1, 1) := by decide +kernel
theorem dX5_passSilentTick_69 : decode cX5_passSilentTick 69 = .ok (.if_icmp .ne 10, 3) := by decide +kernel
theorem dX5_passSilentTick_72 : decode cX5_passSilentTick 72 = .ok (.aload_n 0, 1) := by decide +kernel
theorem dX5_passSilentTick_73 : decode cX5_passSilentTick 73 = .ok (.invokevirtual 295, 3) := by decide +kernel
theorem dX5_passSilentTick_76 : decode cX5_passSilentTick 76 = .ok (.goto 80, 3) := by decide +kernel
theorem dX5_passSilentTick_79 : decode cX5_passSilentTick 79 = .ok (.aload_n 0, 1) := by decide +kernel
theorem dX5_passSilentTick_80 : decode cX5_passSilentTick 80 = .ok (.getfield 42, 3) := by decide +kernel
theorem dX5_passSilentTick_83 : decode cX5_passSilentTick 83 = .ok (.getfield 284, 3) := by decide +kernel
theorem dX5_passSilentTick_86 : decode cX5_passSilentTick 86 = .ok (.iload_n 1, 1) := by decide +kernel
theorem dX5_passSilentTick_87 : decode cX5_passSilentTick 87 = .ok (.iload_n 1, 1) := by decide +kernel
theorem dX5_passSilentTick_88 : decode cX5_passSilentTick 88 = .ok (.iadd, 1) := by decide +kernel
theorem dX5_passSilentTick_89 : decode cX5_passSilentTick 89 = .ok (.iconst 1, 1) := by decide +kernel
theorem dX5_passSilentTick_90 : decode cX5_passSilentTick 90 = .ok (.iadd, 1) := by decide +kernel
theorem dX5_passSilentTick_91 : decode cX5_passSilentTick 91 = .ok (.if_icmp .ne 28, 3) := by decide +kernel
theorem dX5_passSilentTick_94 : decode cX5_passSilentTick 94 = .ok (.aload_n 0, 1) := by decide +kernel
theorem dX5_passSilentTick_95 : decode cX5_passSilentTick 95 = .ok (.getfield 42, 3) := by decide +kernel
theorem dX5_passSilentTick_98 : decode cX5_passSilentTick 98 = .ok (.getfield 292, 3) := by decide +kernel
theorem dX5_passSilentTick_101 : decode cX5_passSilentTick 101 = .ok (.iconst 2, 1) := by decide +kernel
theorem dX5_passSilentTick_102 : decode cX5_passSilentTick 102 = .ok (.if_icmp .ne 17, 3) := by decide +kernel
theorem dX5_passSilentTick_105 : decode cX5_passSilentTick 105 = .ok (.aload_n 0, 1) := by decide +kernel
theorem dX5_passSilentTick_106 : decode cX5_passSilentTick 106 = .ok (.aload_n 0, 1) := by decide +kernel
theorem dX5_passSilentTick_107 : decode cX5_passSilentTick 107 = .ok (.getfield 42, 3) := by decide +kernel
theorem dX5_passSilentTick_110 : decode cX5_passSilentTick 110 = .ok (.getfield 298, 3) := by decide +kernel
theorem dX5_passSilentTick_113 : decode cX5_passSilentTick 113 = .ok (.invokevirtual 301, 3) := by decide +kernel
theorem dX5_passSilentTick_116 : decode cX5_passSilentTick 116 = .ok (.goto 40, 3) := by decide +kernel
theorem dX5_passSilentTick_119 : decode cX5_passSilentTick 119 = .ok (.aload_n 0, 1) := by decide +kernel
theorem dX5_passSilentTick_120 : decode cX5_passSilentTick 120 = .ok (.getfield 42, 3) := by decide +kernel
theorem dX5_passSilentTick_123 : decode cX5_passSilentTick 123 = .ok (.getfield 284, 3) := by decide +kernel
theorem dX5_passSilentTick_126 : decode cX5_passSilentTick 126 = .ok (.iload_n 1, 1) := by decide +kernel
theorem dX5_passSilentTick_127 : decode cX5_passSilentTick 127 = .ok (.iload_n 1, 1) := by decide +kernel
theorem dX5_passSilentTick_128 : decode cX5_passSilentTick 128 = .ok (.iadd, 1) := by decide +kernel
theorem dX5_passSilentTick_129 : decode cX5_passSilentTick 129 = .ok (.iconst 2, 1) := by decide +kernel
theorem dX5_passSilentTick_130 : decode cX5_passSilentTick 130 = .ok (.iadd, 1) := by decide +kernel
theorem dX5_passSilentTick_131 : decode cX5_passSilentTick 131 = .ok (.if_icmp .ne 25, 3) := by decide +kernel
theorem dX5_passSilentTick_134 : decode cX5_passSilentTick 134 = .ok (.aload_n 0, 1) := by decide +kernel
theorem dX5_passSilentTick_135 : decode cX5_passSilentTick 135 = .ok (.getfield 42, 3) := by decide +kernel
theorem dX5_passSilentTick_138 : decode cX5_passSilentTick 138 = .ok (.getfield 292, 3) := by decide +kernel
theorem dX5_passSilentTick_141 : decode cX5_passSilentTick 141 = .ok (.iconst 2, 1) := by decide +kernel
theorem dX5_passSilentTick_142 : decode cX5_passSilentTick 142 = .ok (.if_icmp .ne 14, 3) := by decide +kernel
theorem dX5_passSilentTick_145 : decode cX5_passSilentTick 145 = .ok (.aload_n 0, 1) := by decide +kernel
theorem dX5_passSilentTick_146 : decode cX5_passSilentTick 146 = .ok (.aload_n 0, 1) := by decide +kernel
theorem dX5_passSilentTick_147 : decode cX5_passSilentTick 147 = .ok (.getfield 42, 3) := by decide +kernel
theorem dX5_passSilentTick_150 : decode cX5_passSilentTick 150 = .ok (.getfield 304, 3) := by decide +kernel
theorem dX5_passSilentTick_153 : decode cX5_passSilentTick 153 = .ok (.invokevirtual 301, 3) := by decide +kernel
theorem dX5_passSilentTick_156 : decode cX5_passSilentTick 156 = .ok (.return_, 1) := by decide +kernel
theorem dX5_passTick_0 : decode cX5_passTick 0 = .ok (.aload_n 0, 1) := by decide +kernel
theorem dX5_passTick_1 : decode cX5_passTick 1 = .ok (.dup, 1) := by decide +kernel
theorem dX5_passTick_2 : decode cX5_passTick 2 = .ok (.getfield 53, 3) := by decide +kernel
theorem dX5_passTick_5 : decode cX5_passTick 5 = .ok (.iconst 1, 1) := by decide +kernel
theorem dX5_passTick_6 : decode cX5_passTick 6 = .ok (.iadd, 1) := by decide +kernel
theorem dX5_passTick_7 : decode cX5_passTick 7 = .ok (.putfield 53, 3) := by decide +kernel
theorem dX5_passTick_10 : decode cX5_passTick 10 = .ok (.aload_n 0, 1) := by decide +kernel
theorem dX5_passTick_11 : decode cX5_passTick 11 = .ok (.invokevirtual 99, 3) := by decide +kernel
theorem dX5_passTick_14 : decode cX5_passTick 14 = .ok (.aload_n 0, 1) := by decide +kernel
theorem dX5_passTick_15 : decode cX5_passTick 15 = .ok (.getfield 35, 3) := by decide +kernel
theorem dX5_passTick_18 : decode cX5_passTick 18 = .ok (.getfield 142, 3) := by decide +kernel
theorem dX5_passTick_21 : decode cX5_passTick 21 = .ok (.ifCond .ne 10, 3) := by decide +kernel
theorem dX5_passTick_24 : decode cX5_passTick 24 = .ok (.aload_n 0, 1) := by decide +kernel
theorem dX5_passTick_25 : decode cX5_passTick 25 = .ok (.invokevirtual 195, 3) := by decide +kernel
theorem dX5_passTick_28 : decode cX5_passTick 28 = .ok (.goto 8, 3) := by decide +kernel
theorem dX5_passTick_31 : decode cX5_passTick 31 = .ok (.aload_n 0, 1) := by decide +kernel
theorem dX5_passTick_32 : decode cX5_passTick 32 = .ok (.iload_n 1, 1) := by decide +kernel
theorem dX5_passTick_33 : decode cX5_passTick 33 = .ok (.invokevirtual 198, 3) := by decide +kernel
theorem dX5_passTick_36 : decode cX5_passTick 36 = .ok (.return_, 1) := by decide +kernel
theorem dX5_purge_0 : decode cX5_purge 0 = .ok (.aload_n 0, 1) := by decide +kernel
theorem dX5_purge_1 : decode cX5_purge 1 = .ok (.getfield 28, 3) := by decide +kernel
theorem dX5_purge_4 : decode cX5_purge 4 = .ok (.invokevirtual 74, 3) := by decide +kernel
theorem dX5_purge_7 : decode cX5_purge 7 = .ok (.aload_n 0, 1) := by decide +kernel
theorem dX5_purge_8 : decode cX5_purge 8 = .ok (.getfield 35, 3) := by decide +kernel
theorem dX5_purge_11 : decode cX5_purge 11 = .ok (.getfield 142, 3) := by decide +kernel
theorem dX5_purge_14 : decode cX5_purge 14 = .ok (.iconst 2, 1) := by decide +kernel
theorem dX5_purge_15 : decode cX5_purge 15 = .ok (.if_icmp .ne 22, 3) := by decide +kernel
theorem dX5_purge_18 : decode cX5_purge 18 = .ok (.aload_n 0, 1) := by decide +kernel
theorem dX5_purge_19 : decode cX5_purge 19 = .ok (.getfield 49, 3) := by decide +kernel
theorem dX5_purge_22 : decode cX5_purge 22 = .ok (.iconst 2, 1) := by decide +kernel
theorem dX5_purge_23 : decode cX5_purge 23 = .ok (.aload_n 0, 1) := by decide +kernel
theorem dX5_purge_24 : decode cX5_purge 24 = .ok (.getfield 53, 3) := by decide +kernel
theorem dX5_purge_27 : decode cX5_purge 27 = .ok (.aload_n 0, 1) := by decide +kernel
theorem dX5_purge_28 : decode cX5_purge 28 = .ok (.getfield 35, 3) := by decide +kernel
theorem dX5_purge_31 : decode cX5_purge 31 = .ok (.getfield 182, 3) := by decide +kernel
theorem dX5_purge_34 : decode cX5_purge 34 = .ok (.invokevirtual 185, 3) := by decide +kernel
theorem dX5_purge_37 : decode cX5_purge 37 = .ok (.aload_n 0, 1) := by decide +kernel
theorem dX5_purge_38 : decode cX5_purge 38 = .ok (.getfield 35, 3) := by decide +kernel
theorem dX5_purge_41 : decode cX5_purge 41 = .ok (.aload_n 0, 1) := by decide +kernel
theorem dX5_purge_42 : decode cX5_purge 42 = .ok (.getfield 12, 3) := by decide +kernel
theorem dX5_purge_45 : decode cX5_purge 45 = .ok (.getfield 189, 3) := by decide +kernel
theorem dX5_purge_48 : decode cX5_purge 48 = .ok (.iconst 0, 1) := by decide +kernel
theorem dX5_purge_49 : decode cX5_purge 49 = .ok (.iconst 0, 1) := by decide +kernel
theorem dX5_purge_50 : decode cX5_purge 50 = .ok (.invokevirtual 192, 3) := by decide +kernel
theorem dX5_purge_53 : decode cX5_purge 53 = .ok (.aload_n 0, 1) := by decide +kernel
theorem dX5_purge_54 : decode cX5_purge 54 = .ok (.getfield 42, 3) := by decide +kernel
theorem dX5_purge_57 : decode cX5_purge 57 = .ok (.invokevirtual 76, 3) := by decide +kernel
theorem dX5_purge_60 : decode cX5_purge 60 = .ok (.aload_n 0, 1) := by decide +kernel
theorem dX5_purge_61 : decode cX5_purge 61 = .ok (.getfield 49, 3) := by decide +kernel
theorem dX5_purge_64 : decode cX5_purge 64 = .ok (.iconst 3, 1) := by decide +kernel
theorem dX5_purge_65 : decode cX5_purge 65 = .ok (.aload_n 0, 1) := by decide +kernel
theorem dX5_purge_66 : decode cX5_purge 66 = .ok (.getfield 53, 3) := by decide +kernel
theorem dX5_purge_69 : decode cX5_purge 69 = .ok (.aload_n 0, 1) := by decide +kernel
theorem dX5_purge_70 : decode cX5_purge 70 = .ok (.getfield 12, 3) := by decide +kernel
theorem dX5_purge_73 : decode cX5_purge 73 = .ok (.getfield 189, 3) := by decide +kernel
theorem dX5_purge_76 : decode cX5_purge 76 = .ok (.invokevirtual 185, 3) := by decide +kernel
theorem dX5_purge_79 : decode cX5_purge 79 = .ok (.aload_n 0, 1) := by decide +kernel
theorem dX5_purge_80 : decode cX5_purge 80 = .ok (.iconst 1, 1) := by decide +kernel
theorem dX5_purge_81 : decode cX5_purge 81 = .ok (.putfield 66, 3) := by decide +kernel
theorem dX5_purge_84 : decode cX5_purge 84 = .ok (.return_, 1) := by decide +kernel
theorem dX5_startSilence_0 : decode cX5_startSilence 0 = .ok (.aload_n 0, 1) := by decide +kernel
theorem dX5_startSilence_1 : decode cX5_startSilence 1 = .ok (.getfield 35, 3) := by decide +kernel
theorem dX5_startSilence_4 : decode cX5_startSilence 4 = .ok (.getfield 142, 3) := by decide +kernel
theorem dX5_startSilence_7 : decode cX5_startSilence 7 = .ok (.ifCond .ne 10, 3) := by decide +kernel
theorem dX5_startSilence_10 : decode cX5_startSilence 10 = .ok (.aload_n 0, 1) := by decide +kernel
theorem dX5_startSilence_11 : decode cX5_startSilence 11 = .ok (.getfield 42, 3) := by decide +kernel
theorem dX5_startSilence_14 : decode cX5_startSilence 14 = .ok (.invokevirtual 76, 3) := by decide +kernel
theorem dX5_startSilence_17 : decode cX5_startSilence 17 = .ok (.return_, 1) := by decide +kernel
theorem dX5_switchOff_0 : decode cX5_switchOff 0 = .ok (.aload_n 0, 1) := by decide +kernel
theorem dX5_switchOff_1 : decode cX5_switchOff 1 = .ok (.getfield 12, 3) := by decide +kernel
theorem dX5_switchOff_4 : decode cX5_switchOff 4 = .ok (.iload_n 1, 1) := by decide +kernel
theorem dX5_switchOff_5 : decode cX5_switchOff 5 = .ok (.invokevirtual 158, 3) := by decide +kernel
theorem dX5_switchOff_8 : decode cX5_switchOff 8 = .ok (.aload_n 0, 1) := by decide +kernel
theorem dX5_switchOff_9 : decode cX5_switchOff 9 = .ok (.getfield 28, 3) := by decide +kernel
theorem dX5_switchOff_12 : decode cX5_switchOff 12 = .ok (.iload_n 1, 1) := by decide +kernel
theorem dX5_switchOff_13 : decode cX5_switchOff 13 = .ok (.invokevirtual 162, 3) := by decide +kernel
theorem dX5_switchOff_16 : decode cX5_switchOff 16 = .ok (.return_, 1) := by decide +kernel
theorem dX5_tellOf_0 : decode cX5_tellOf 0 = .ok (.aload_n 0, 1) := by decide +kernel
theorem dX5_tellOf_1 : decode cX5_tellOf 1 = .ok (.getfield 12, 3) := by decide +kernel
theorem dX5_tellOf_4 : decode cX5_tellOf 4 = .ok (.iload_n 1, 1) := by decide +kernel
theorem dX5_tellOf_5 : decode cX5_tellOf 5 = .ok (.invokevirtual 102, 3) := by decide +kernel
theorem dX5_tellOf_8 : decode cX5_tellOf 8 = .ok (.ifCond .ne 5, 3) := by decide +kernel
theorem dX5_tellOf_11 : decode cX5_tellOf 11 = .ok (.iconst (-1), 1) := by decide +kernel
theorem dX5_tellOf_12 : decode cX5_tellOf 12 = .ok (.ireturn, 1) := by decide +kernel
theorem dX5_tellOf_13 : decode cX5_tellOf 13 = .ok (.iload_n 2, 1) := by decide +kernel
theorem dX5_tellOf_14 : decode cX5_tellOf 14 = .ok (.tableswitch 165 0 9 #[54, 64, 81, 90, 106, 115, 125, 135, 145, 155], 54) := by decide +kernel
theorem dX5_tellOf_68 : decode cX5_tellOf 68 = .ok (.aload_n 0, 1) := by decide +kernel
theorem dX5_tellOf_69 : decode cX5_tellOf 69 = .ok (.getfield 12, 3) := by decide +kernel
theorem dX5_tellOf_72 : decode cX5_tellOf 72 = .ok (.getfield 106, 3) := by decide +kernel
theorem dX5_tellOf_75 : decode cX5_tellOf 75 = .ok (.iload_n 1, 1) := by decide +kernel
theorem dX5_tellOf_76 : decode cX5_tellOf 76 = .ok (.iaload, 1) := by decide +kernel
theorem dX5_tellOf_77 : decode cX5_tellOf 77 = .ok (.ireturn, 1) := by decide +kernel
theorem dX5_tellOf_78 : decode cX5_tellOf 78 = .ok (.aload_n 0, 1) := by decide +kernel
theorem dX5_tellOf_79 : decode cX5_tellOf 79 = .ok (.getfield 12, 3) := by decide +kernel
theorem dX5_tellOf_82 : decode cX5_tellOf 82 = .ok (.iload_n 1, 1) := by decide +kernel
theorem dX5_tellOf_83 : decode cX5_tellOf 83 = .ok (.invokevirtual 110, 3) := by decide +kernel
theorem dX5_tellOf_86 : decode cX5_tellOf 86 = .ok (.ifCond .eq 7, 3) := by decide +kernel
theorem dX5_tellOf_89 : decode cX5_tellOf 89 = .ok (.iconst 1, 1) := by decide +kernel
theorem dX5_tellOf_90 : decode cX5_tellOf 90 = .ok (.goto 4, 3) := by decide +kernel
theorem dX5_tellOf_93 : decode cX5_tellOf 93 = .ok (.iconst 0, 1) := by decide +kernel
theorem dX5_tellOf_94 : decode cX5_tellOf 94 = .ok (.ireturn, 1) := by decide +kernel
theorem dX5_tellOf_95 : decode cX5_tellOf 95 = .ok (.aload_n 0, 1) := by decide +kernel
theorem dX5_tellOf_96 : decode cX5_tellOf 96 = .ok (.getfield 21, 3) := by decide +kernel
theorem dX5_tellOf_99 : decode cX5_tellOf 99 = .ok (.iload_n 1, 1) := by decide +kernel
theorem dX5_tellOf_100 : decode cX5_tellOf 100 = .ok (.invokevirtual 113, 3) := by decide +kernel
theorem dX5_tellOf_103 : decode cX5_tellOf 103 = .ok (.ireturn, 1) := by decide +kernel
theorem dX5_tellOf_104 : decode cX5_tellOf 104 = .ok (.aload_n 0, 1) := by decide +kernel
theorem dX5_tellOf_105 : decode cX5_tellOf 105 = .ok (.getfield 21, 3) := by decide +kernel
theorem dX5_tellOf_108 : decode cX5_tellOf 108 = .ok (.aload_n 0, 1) := by decide +kernel
theorem dX5_tellOf_109 : decode cX5_tellOf 109 = .ok (.getfield 21, 3) := by decide +kernel
theorem dX5_tellOf_112 : decode cX5_tellOf 112 = .ok (.iload_n 1, 1) := by decide +kernel
theorem dX5_tellOf_113 : decode cX5_tellOf 113 = .ok (.invokevirtual 117, 3) := by decide +kernel
theorem dX5_tellOf_116 : decode cX5_tellOf 116 = .ok (.invokevirtual 120, 3) := by decide +kernel
theorem dX5_tellOf_119 : decode cX5_tellOf 119 = .ok (.ireturn, 1) := by decide +kernel
theorem dX5_tellOf_120 : decode cX5_tellOf 120 = .ok (.aload_n 0, 1) := by decide +kernel
theorem dX5_tellOf_121 : decode cX5_tellOf 121 = .ok (.getfield 28, 3) := by decide +kernel
theorem dX5_tellOf_124 : decode cX5_tellOf 124 = .ok (.iload_n 1, 1) := by decide +kernel
theorem dX5_tellOf_125 : decode cX5_tellOf 125 = .ok (.invokevirtual 123, 3) := by decide +kernel
theorem dX5_tellOf_128 : decode cX5_tellOf 128 = .ok (.ireturn, 1) := by decide +kernel
theorem dX5_tellOf_129 : decode cX5_tellOf 129 = .ok (.aload_n 0, 1) := by decide +kernel
theorem dX5_tellOf_130 : decode cX5_tellOf 130 = .ok (.getfield 28, 3) := by decide +kernel
theorem dX5_tellOf_133 : decode cX5_tellOf 133 = .ok (.iload_n 1, 1) := by decide +kernel
theorem dX5_tellOf_134 : decode cX5_tellOf 134 = .ok (.iconst 0, 1) := by decide +kernel
theorem dX5_tellOf_135 : decode cX5_tellOf 135 = .ok (.invokevirtual 126, 3) := by decide +kernel
theorem dX5_tellOf_138 : decode cX5_tellOf 138 = .ok (.ireturn, 1) := by decide +kernel
theorem dX5_tellOf_139 : decode cX5_tellOf 139 = .ok (.aload_n 0, 1) := by decide +kernel
theorem dX5_tellOf_140 : decode cX5_tellOf 140 = .ok (.getfield 28, 3) := by decide +kernel
theorem dX5_tellOf_143 : decode cX5_tellOf 143 = .ok (.iload_n 1, 1) := by decide +kernel
theorem dX5_tellOf_144 : decode cX5_tellOf 144 = .ok (.iconst 0, 1) := by decide +kernel
theorem dX5_tellOf_145 : decode cX5_tellOf 145 = .ok (.invokevirtual 130, 3) := by decide +kernel
theorem dX5_tellOf_148 : decode cX5_tellOf 148 = .ok (.ireturn, 1) := by decide +kernel
theorem dX5_tellOf_149 : decode cX5_tellOf 149 = .ok (.aload_n 0, 1) := by decide +kernel
theorem dX5_tellOf_150 : decode cX5_tellOf 150 = .ok (.getfield 12, 3) := by decide +kernel
theorem dX5_tellOf_153 : decode cX5_tellOf 153 = .ok (.getfield 133, 3) := by decide +kernel
theorem dX5_tellOf_156 : decode cX5_tellOf 156 = .ok (.iload_n 1, 1) := by decide +kernel
theorem dX5_tellOf_157 : decode cX5_tellOf 157 = .ok (.iaload, 1) := by decide +kernel
theorem dX5_tellOf_158 : decode cX5_tellOf 158 = .ok (.ireturn, 1) := by decide +kernel
theorem dX5_tellOf_159 : decode cX5_tellOf 159 = .ok (.aload_n 0, 1) := by decide +kernel
theorem dX5_tellOf_160 : decode cX5_tellOf 160 = .ok (.getfield 12, 3) := by decide +kernel
theorem dX5_tellOf_163 : decode cX5_tellOf 163 = .ok (.getfield 136, 3) := by decide +kernel
theorem dX5_tellOf_166 : decode cX5_tellOf 166 = .ok (.iload_n 1, 1) := by decide +kernel
theorem dX5_tellOf_167 : decode cX5_tellOf 167 = .ok (.iaload, 1) := by decide +kernel
theorem dX5_tellOf_168 : decode cX5_tellOf 168 = .ok (.ireturn, 1) := by decide +kernel
theorem dX5_tellOf_169 : decode cX5_tellOf 169 = .ok (.aload_n 0, 1) := by decide +kernel
theorem dX5_tellOf_170 : decode cX5_tellOf 170 = .ok (.getfield 12, 3) := by decide +kernel
theorem dX5_tellOf_173 : decode cX5_tellOf 173 = .ok (.getfield 139, 3) := by decide +kernel
theorem dX5_tellOf_176 : decode cX5_tellOf 176 = .ok (.iload_n 1, 1) := by decide +kernel
theorem dX5_tellOf_177 : decode cX5_tellOf 177 = .ok (.iaload, 1) := by decide +kernel
theorem dX5_tellOf_178 : decode cX5_tellOf 178 = .ok (.ireturn, 1) := by decide +kernel
theorem dX5_tellOf_179 : decode cX5_tellOf 179 = .ok (.iconst (-1), 1) := by decide +kernel
theorem dX5_tellOf_180 : decode cX5_tellOf 180 = .ok (.ireturn, 1) := by decide +kernel
theorem dX5_tokenComes_0 : decode cX5_tokenComes 0 = .ok (.aload_n 0, 1) := by decide +kernel
theorem dX5_tokenComes_1 : decode cX5_tokenComes 1 = .ok (.getfield 28, 3) := by decide +kernel
theorem dX5_tokenComes_4 : decode cX5_tokenComes 4 = .ok (.iload_n 1, 1) := by decide +kernel
theorem dX5_tokenComes_5 : decode cX5_tokenComes 5 = .ok (.iconst 0, 1) := by decide +kernel
theorem dX5_tokenComes_6 : decode cX5_tokenComes 6 = .ok (.invokevirtual 130, 3) := by decide +kernel
theorem dX5_tokenComes_9 : decode cX5_tokenComes 9 = .ok (.aload_n 0, 1) := by decide +kernel
theorem dX5_tokenComes_10 : decode cX5_tokenComes 10 = .ok (.getfield 35, 3) := by decide +kernel
theorem dX5_tokenComes_13 : decode cX5_tokenComes 13 = .ok (.getfield 212, 3) := by decide +kernel
theorem dX5_tokenComes_16 : decode cX5_tokenComes 16 = .ok (.if_icmp .ne 8, 3) := by decide +kernel
theorem dX5_tokenComes_19 : decode cX5_tokenComes 19 = .ok (.aload_n 0, 1) := by decide +kernel
theorem dX5_tokenComes_20 : decode cX5_tokenComes 20 = .ok (.iload_n 1, 1) := by decide +kernel
theorem dX5_tokenComes_21 : decode cX5_tokenComes 21 = .ok (.invokevirtual 237, 3) := by decide +kernel
theorem dX5_tokenComes_24 : decode cX5_tokenComes 24 = .ok (.aload_n 0, 1) := by decide +kernel
theorem dX5_tokenComes_25 : decode cX5_tokenComes 25 = .ok (.getfield 21, 3) := by decide +kernel
theorem dX5_tokenComes_28 : decode cX5_tokenComes 28 = .ok (.iload_n 1, 1) := by decide +kernel
theorem dX5_tokenComes_29 : decode cX5_tokenComes 29 = .ok (.invokevirtual 117, 3) := by decide +kernel
theorem dX5_tokenComes_32 : decode cX5_tokenComes 32 = .ok (.istore_n 3, 1) := by decide +kernel
theorem dX5_tokenComes_33 : decode cX5_tokenComes 33 = .ok (.iload_n 3, 1) := by decide +kernel
theorem dX5_tokenComes_34 : decode cX5_tokenComes 34 = .ok (.iconst (-1), 1) := by decide +kernel
theorem dX5_tokenComes_35 : decode cX5_tokenComes 35 = .ok (.if_icmp .ne 4, 3) := by decide +kernel
theorem dX5_tokenComes_38 : decode cX5_tokenComes 38 = .ok (.return_, 1) := by decide +kernel
theorem dX5_tokenComes_39 : decode cX5_tokenComes 39 = .ok (.aload_n 0, 1) := by decide +kernel
theorem dX5_tokenComes_40 : decode cX5_tokenComes 40 = .ok (.getfield 21, 3) := by decide +kernel
theorem dX5_tokenComes_43 : decode cX5_tokenComes 43 = .ok (.iload_n 3, 1) := by decide +kernel
theorem dX5_tokenComes_44 : decode cX5_tokenComes 44 = .ok (.invokevirtual 240, 3) := by decide +kernel
theorem dX5_tokenComes_47 : decode cX5_tokenComes 47 = .ok (.aload_n 0, 1) := by decide +kernel
theorem dX5_tokenComes_48 : decode cX5_tokenComes 48 = .ok (.getfield 35, 3) := by decide +kernel
theorem dX5_tokenComes_51 : decode cX5_tokenComes 51 = .ok (.getfield 212, 3) := by decide +kernel
theorem dX5_tokenComes_54 : decode cX5_tokenComes 54 = .ok (.if_icmp .lt 27, 3) := by decide +kernel
theorem dX5_tokenComes_57 : decode cX5_tokenComes 57 = .ok (.aload_n 0, 1) := by decide +kernel
theorem dX5_tokenComes_58 : decode cX5_tokenComes 58 = .ok (.getfield 35, 3) := by decide +kernel
theorem dX5_tokenComes_61 : decode cX5_tokenComes 61 = .ok (.iload_n 1, 1) := by decide +kernel
theorem dX5_tokenComes_62 : decode cX5_tokenComes 62 = .ok (.aload_n 0, 1) := by decide +kernel
theorem dX5_tokenComes_63 : decode cX5_tokenComes 63 = .ok (.getfield 21, 3) := by decide +kernel
theorem dX5_tokenComes_66 : decode cX5_tokenComes 66 = .ok (.iload_n 3, 1) := by decide +kernel
theorem dX5_tokenComes_67 : decode cX5_tokenComes 67 = .ok (.invokevirtual 243, 3) := by decide +kernel
theorem dX5_tokenComes_70 : decode cX5_tokenComes 70 = .ok (.aload_n 0, 1) := by decide +kernel
theorem dX5_tokenComes_71 : decode cX5_tokenComes 71 = .ok (.getfield 21, 3) := by decide +kernel
theorem dX5_tokenComes_74 : decode cX5_tokenComes 74 = .ok (.iload_n 3, 1) := by decide +kernel
theorem dX5_tokenComes_75 : decode cX5_tokenComes 75 = .ok (.invokevirtual 247, 3) := by decide +kernel
theorem dX5_tokenComes_78 : decode cX5_tokenComes 78 = .ok (.goto 32, 3) := by decide +kernel
theorem dX5_tokenComes_81 : decode cX5_tokenComes 81 = .ok (.iload_n 2, 1) := by decide +kernel
theorem dX5_tokenComes_82 : decode cX5_tokenComes 82 = .ok (.ifCond .ne 28, 3) := by decide +kernel
theorem dX5_tokenComes_85 : decode cX5_tokenComes 85 = .ok (.aload_n 0, 1) := by decide +kernel
theorem dX5_tokenComes_86 : decode cX5_tokenComes 86 = .ok (.getfield 35, 3) := by decide +kernel
theorem dX5_tokenComes_89 : decode cX5_tokenComes 89 = .ok (.aload_n 0, 1) := by decide +kernel
theorem dX5_tokenComes_90 : decode cX5_tokenComes 90 = .ok (.getfield 35, 3) := by decide +kernel
theorem dX5_tokenComes_93 : decode cX5_tokenComes 93 = .ok (.getfield 250, 3) := by decide +kernel
theorem dX5_tokenComes_96 : decode cX5_tokenComes 96 = .ok (.aload_n 0, 1) := by decide +kernel
theorem dX5_tokenComes_97 : decode cX5_tokenComes 97 = .ok (.getfield 21, 3) := by decide +kernel
theorem dX5_tokenComes_100 : decode cX5_tokenComes 100 = .ok (.iload_n 3, 1) := by decide +kernel
theorem dX5_tokenComes_101 : decode cX5_tokenComes 101 = .ok (.invokevirtual 240, 3) := by decide +kernel
theorem dX5_tokenComes_104 : decode cX5_tokenComes 104 = .ok (.invokestatic 253, 3) := by decide +kernel
theorem dX5_tokenComes_107 : decode cX5_tokenComes 107 = .ok (.putfield 250, 3) := by decide +kernel
theorem dX5_tokenComes_110 : decode cX5_tokenComes 110 = .ok (.return_, 1) := by decide +kernel
theorem dX6_copyFrom_0 : decode cX6_copyFrom 0 = .ok (.aload_n 0, 1) := by decide +kernel
theorem dX6_copyFrom_1 : decode cX6_copyFrom 1 = .ok (.aload_n 1, 1) := by decide +kernel
theorem dX6_copyFrom_2 : decode cX6_copyFrom 2 = .ok (.getfield 9, 3) := by decide +kernel
theorem dX6_copyFrom_5 : decode cX6_copyFrom 5 = .ok (.putfield 9, 3) := by decide +kernel
theorem dX6_copyFrom_8 : decode cX6_copyFrom 8 = .ok (.aload_n 0, 1) := by decide +kernel
theorem dX6_copyFrom_9 : decode cX6_copyFrom 9 = .ok (.aload_n 1, 1) := by decide +kernel
theorem dX6_copyFrom_10 : decode cX6_copyFrom 10 = .ok (.getfield 15, 3) := by decide +kernel
theorem dX6_copyFrom_13 : decode cX6_copyFrom 13 = .ok (.putfield 15, 3) := by decide +kernel
theorem dX6_copyFrom_16 : decode cX6_copyFrom 16 = .ok (.aload_n 0, 1) := by decide +kernel
theorem dX6_copyFrom_17 : decode cX6_copyFrom 17 = .ok (.aload_n 1, 1) := by decide +kernel
theorem dX6_copyFrom_18 : decode cX6_copyFrom 18 = .ok (.getfield 18, 3) := by decide +kernel
theorem dX6_copyFrom_21 : decode cX6_copyFrom 21 = .ok (.putfield 18, 3) := by decide +kernel
theorem dX6_copyFrom_24 : decode cX6_copyFrom 24 = .ok (.aload_n 0, 1) := by decide +kernel
theorem dX6_copyFrom_25 : decode cX6_copyFrom 25 = .ok (.aload_n 1, 1) := by decide +kernel
theorem dX6_copyFrom_26 : decode cX6_copyFrom 26 = .ok (.getfield 21, 3) := by decide +kernel
theorem dX6_copyFrom_29 : decode cX6_copyFrom 29 = .ok (.putfield 21, 3) := by decide +kernel
theorem dX6_copyFrom_32 : decode cX6_copyFrom 32 = .ok (.return_, 1) := by decide +kernel
theorem dX6_restart_0 : decode cX6_restart 0 = .ok (.aload_n 0, 1) := by decide +kernel
theorem dX6_restart_1 : decode cX6_restart 1 = .ok (.iconst 0, 1) := by decide +kernel
theorem dX6_restart_2 : decode cX6_restart 2 = .ok (.putfield 9, 3) := by decide +kernel
theorem dX6_restart_5 : decode cX6_restart 5 = .ok (.aload_n 0, 1) := by decide +kernel
theorem dX6_restart_6 : decode cX6_restart 6 = .ok (.iconst 0, 1) := by decide +kernel
theorem dX6_restart_7 : decode cX6_restart 7 = .ok (.putfield 15, 3) := by decide +kernel
theorem dX6_restart_10 : decode cX6_restart 10 = .ok (.aload_n 0, 1) := by decide +kernel
theorem dX6_restart_11 : decode cX6_restart 11 = .ok (.iconst (-1), 1) := by decide +kernel
theorem dX6_restart_12 : decode cX6_restart 12 = .ok (.putfield 18, 3) := by decide +kernel
theorem dX6_restart_15 : decode cX6_restart 15 = .ok (.aload_n 0, 1) := by decide +kernel
theorem dX6_restart_16 : decode cX6_restart 16 = .ok (.iconst (-1), 1) := by decide +kernel
theorem dX6_restart_17 : decode cX6_restart 17 = .ok (.putfield 21, 3) := by decide +kernel
theorem dX6_restart_20 : decode cX6_restart 20 = .ok (.return_, 1) := by decide +kernel
theorem dX7_append_0 : decode cX7_append 0 = .ok (.aload_n 0, 1) := by decide +kernel
theorem dX7_append_1 : decode cX7_append 1 = .ok (.getfield 28, 3) := by decide +kernel
theorem dX7_append_4 : decode cX7_append 4 = .ok (.ifCond .lt 12, 3) := by decide +kernel
theorem dX7_append_7 : decode cX7_append 7 = .ok (.aload_n 0, 1) := by decide +kernel
theorem dX7_append_8 : decode cX7_append 8 = .ok (.getfield 28, 3) := by decide +kernel
theorem dX7_append_11 : decode cX7_append 11 = .ok (.bipush 8, 2) := by decide +kernel
theorem dX7_append_13 : decode cX7_append 13 = .ok (.if_icmp .lt 4, 3) := by decide +kernel
theorem dX7_append_16 : decode cX7_append 16 = .ok (.return_, 1) := by decide +kernel
theorem dX7_append_17 : decode cX7_append 17 = .ok (.aload_n 0, 1) := by decide +kernel
theorem dX7_append_18 : decode cX7_append 18 = .ok (.getfield 9, 3) := by decide +kernel
theorem dX7_append_21 : decode cX7_append 21 = .ok (.aload_n 0, 1) := by decide +kernel
theorem dX7_append_22 : decode cX7_append 22 = .ok (.getfield 28, 3) := by decide +kernel
theorem dX7_append_25 : decode cX7_append 25 = .ok (.iload_n 1, 1) := by decide +kernel
theorem dX7_append_26 : decode cX7_append 26 = .ok (.iastore, 1) := by decide +kernel
theorem dX7_append_27 : decode cX7_append 27 = .ok (.aload_n 0, 1) := by decide +kernel
theorem dX7_append_28 : decode cX7_append 28 = .ok (.getfield 15, 3) := by decide +kernel
theorem dX7_append_31 : decode cX7_append 31 = .ok (.aload_n 0, 1) := by decide +kernel
theorem dX7_append_32 : decode cX7_append 32 = .ok (.getfield 28, 3) := by decide +kernel
theorem dX7_append_35 : decode cX7_append 35 = .ok (.iconst 1, 1) := by decide +kernel
theorem dX7_append_36 : decode cX7_append 36 = .ok (.bastore, 1) := by decide +kernel
theorem dX7_append_37 : decode cX7_append 37 = .ok (.aload_n 0, 1) := by decide +kernel
theorem dX7_append_38 : decode cX7_append 38 = .ok (.getfield 19, 3) := by decide +kernel
theorem dX7_append_41 : decode cX7_append 41 = .ok (.aload_n 0, 1) := by decide +kernel
theorem dX7_append_42 : decode cX7_append 42 = .ok (.getfield 28, 3) := by decide +kernel
theorem dX7_append_45 : decode cX7_append 45 = .ok (.iconst (-1), 1) := by decide +kernel
theorem dX7_append_46 : decode cX7_append 46 = .ok (.iastore, 1) := by decide +kernel
theorem dX7_append_47 : decode cX7_append 47 = .ok (.aload_n 0, 1) := by decide +kernel
theorem dX7_append_48 : decode cX7_append 48 = .ok (.getfield 22, 3) := by decide +kernel
theorem dX7_append_51 : decode cX7_append 51 = .ok (.aload_n 0, 1) := by decide +kernel
theorem dX7_append_52 : decode cX7_append 52 = .ok (.getfield 28, 3) := by decide +kernel
theorem dX7_append_55 : decode cX7_append 55 = .ok (.iconst 0, 1) := by decide +kernel
theorem dX7_append_56 : decode cX7_append 56 = .ok (.iastore, 1) := by decide +kernel
theorem dX7_append_57 : decode cX7_append 57 = .ok (.aload_n 0, 1) := by decide +kernel
theorem dX7_append_58 : decode cX7_append 58 = .ok (.getfield 25, 3) := by decide +kernel
theorem dX7_append_61 : decode cX7_append 61 = .ok (.aload_n 0, 1) := by decide +kernel
theorem dX7_append_62 : decode cX7_append 62 = .ok (.getfield 28, 3) := by decide +kernel
theorem dX7_append_65 : decode cX7_append 65 = .ok (.iconst 0, 1) := by decide +kernel
theorem dX7_append_66 : decode cX7_append 66 = .ok (.iastore, 1) := by decide +kernel
theorem dX7_append_67 : decode cX7_append 67 = .ok (.aload_n 0, 1) := by decide +kernel
theorem dX7_append_68 : decode cX7_append 68 = .ok (.dup, 1) := by decide +kernel
theorem dX7_append_69 : decode cX7_append 69 = .ok (.getfield 28, 3) := by decide +kernel
theorem dX7_append_72 : decode cX7_append 72 = .ok (.iconst 1, 1) := by decide +kernel
theorem dX7_append_73 : decode cX7_append 73 = .ok (.iadd, 1) := by decide +kernel
theorem dX7_append_74 : decode cX7_append 74 = .ok (.putfield 28, 3) := by decide +kernel
theorem dX7_append_77 : decode cX7_append 77 = .ok (.return_, 1) := by decide +kernel
theorem dX7_breakBetween_0 : decode cX7_breakBetween 0 = .ok (.iload_n 1, 1) := by decide +kernel
theorem dX7_breakBetween_1 : decode cX7_breakBetween 1 = .ok (.istore_n 3, 1) := by decide +kernel
theorem dX7_breakBetween_2 : decode cX7_breakBetween 2 = .ok (.iconst 0, 1) := by decide +kernel
theorem dX7_breakBetween_3 : decode cX7_breakBetween 3 = .ok (.istore 4, 2) := by decide +kernel
theorem dX7_breakBetween_5 : decode cX7_breakBetween 5 = .ok (.iload 4, 2) := by decide +kernel
theorem dX7_breakBetween_7 : decode cX7_breakBetween 7 = .ok (.aload_n 0, 1) := by decide +kernel
theorem dX7_breakBetween_8 : decode cX7_breakBetween 8 = .ok (.getfield 28, 3) := by decide +kernel
theorem dX7_breakBetween_11 : decode cX7_breakBetween 11 = .ok (.if_icmp .ge 35, 3) := by decide +kernel
theorem dX7_breakBetween_14 : decode cX7_breakBetween 14 = .ok (.iload_n 3, 1) := by decide +kernel
theorem dX7_breakBetween_15 : decode cX7_breakBetween 15 = .ok (.aload_n 0, 1) := by decide +kernel
theorem dX7_breakBetween_16 : decode cX7_breakBetween 16 = .ok (.getfield 35, 3) := by decide +kernel
theorem dX7_breakBetween_19 : decode cX7_breakBetween 19 = .ok (.if_icmp .ne 8, 3) := by decide +kernel
theorem dX7_breakBetween_22 : decode cX7_breakBetween 22 = .ok (.aload_n 0, 1) := by decide +kernel
theorem dX7_breakBetween_23 : decode cX7_breakBetween 23 = .ok (.invokevirtual 77, 3) := by decide +kernel
theorem dX7_breakBetween_26 : decode cX7_breakBetween 26 = .ok (.ireturn, 1) := by decide +kernel
theorem dX7_breakBetween_27 : decode cX7_breakBetween 27 = .ok (.aload_n 0, 1) := by decide +kernel
theorem dX7_breakBetween_28 : decode cX7_breakBetween 28 = .ok (.iload_n 3, 1) := by decide +kernel
theorem dX7_breakBetween_29 : decode cX7_breakBetween 29 = .ok (.invokevirtual 68, 3) := by decide +kernel
theorem dX7_breakBetween_32 : decode cX7_breakBetween 32 = .ok (.istore_n 3, 1) := by decide +kernel
theorem dX7_breakBetween_33 : decode cX7_breakBetween 33 = .ok (.iload_n 3, 1) := by decide +kernel
theorem dX7_breakBetween_34 : decode cX7_breakBetween 34 = .ok (.iload_n 2, 1) := by decide +kernel
theorem dX7_breakBetween_35 : decode cX7_breakBetween 35 = .ok (.if_icmp .ne 5, 3) := by decide +kernel
theorem dX7_breakBetween_38 : decode cX7_breakBetween 38 = .ok (.iconst 0, 1) := by decide +kernel
theorem dX7_breakBetween_39 : decode cX7_breakBetween 39 = .ok (.ireturn, 1) := by decide +kernel
theorem dX7_breakBetween_40 : decode cX7_breakBetween 40 = .ok (.iinc 4 1, 3) := by decide +kernel
theorem dX7_breakBetween_43 : decode cX7_breakBetween 43 = .ok (.goto (-38), 3) := by decide +kernel
theorem dX7_breakBetween_46 : decode cX7_breakBetween 46 = .ok (.iconst 0, 1) := by decide +kernel
theorem dX7_breakBetween_47 : decode cX7_breakBetween 47 = .ok (.ireturn, 1) := by decide +kernel
theorem dX7_breakCounts_0 : decode cX7_breakCounts 0 = .ok (.aload_n 0, 1) := by decide +kernel
theorem dX7_breakCounts_1 : decode cX7_breakCounts 1 = .ok (.iconst (-1), 1) := by decide +kernel
theorem dX7_breakCounts_2 : decode cX7_breakCounts 2 = .ok (.invokevirtual 74, 3) := by decide +kernel
theorem dX7_breakCounts_5 : decode cX7_breakCounts 5 = .ok (.ireturn, 1) := by decide +kernel
theorem dX7_breakCountsWithout_0 : decode cX7_breakCountsWithout 0 = .ok (.aload_n 0, 1) := by decide +kernel
theorem dX7_breakCountsWithout_1 : decode cX7_breakCountsWithout 1 = .ok (.aload_n 0, 1) := by decide +kernel
theorem dX7_breakCountsWithout_2 : decode cX7_breakCountsWithout 2 = .ok (.getfield 35, 3) := by decide +kernel
theorem dX7_breakCountsWithout_5 : decode cX7_breakCountsWithout 5 = .ok (.invokevirtual 51, 3) := by decide +kernel
theorem dX7_breakCountsWithout_8 : decode cX7_breakCountsWithout 8 = .ok (.ifCond .ne 5, 3) := by decide +kernel
theorem dX7_breakCountsWithout_11 : decode cX7_breakCountsWithout 11 = .ok (.iconst 0, 1) := by decide +kernel
theorem dX7_breakCountsWithout_12 : decode cX7_breakCountsWithout 12 = .ok (.ireturn, 1) := by decide +kernel
theorem dX7_breakCountsWithout_13 : decode cX7_breakCountsWithout 13 = .ok (.aload_n 0, 1) := by decide +kernel
theorem dX7_breakCountsWithout_14 : decode cX7_breakCountsWithout 14 = .ok (.getfield 38, 3) := by decide +kernel
theorem dX7_breakCountsWithout_17 : decode cX7_breakCountsWithout 17 = .ok (.iconst 2, 1) := by decide +kernel
theorem dX7_breakCountsWithout_18 : decode cX7_breakCountsWithout 18 = .ok (.if_icmp .ne 5, 3) := by decide +kernel
theorem dX7_breakCountsWithout_21 : decode cX7_breakCountsWithout 21 = .ok (.iconst 1, 1) := by decide +kernel
theorem dX7_breakCountsWithout_22 : decode cX7_breakCountsWithout 22 = .ok (.ireturn, 1) := by decide +kernel
theorem dX7_breakCountsWithout_23 : decode cX7_breakCountsWithout 23 = .ok (.aload_n 0, 1) := by decide +kernel
theorem dX7_breakCountsWithout_24 : decode cX7_breakCountsWithout 24 = .ok (.getfield 38, 3) := by decide +kernel
theorem dX7_breakCountsWithout_27 : decode cX7_breakCountsWithout 27 = .ok (.ifCond .ne 10, 3) := by decide +kernel
theorem dX7_breakCountsWithout_30 : decode cX7_breakCountsWithout 30 = .ok (.aload_n 0, 1) := by decide +kernel
theorem dX7_breakCountsWithout_31 : decode cX7_breakCountsWithout 31 = .ok (.getfield 35, 3) := by decide +kernel
theorem dX7_breakCountsWithout_34 : decode cX7_breakCountsWithout 34 = .ok (.goto 11, 3) := by decide +kernel
theorem dX7_breakCountsWithout_37 : decode cX7_breakCountsWithout 37 = .ok (.aload_n 0, 1) := by decide +kernel
theorem dX7_breakCountsWithout_38 : decode cX7_breakCountsWithout 38 = .ok (.aload_n 0, 1) := by decide +kernel
theorem dX7_breakCountsWithout_39 : decode cX7_breakCountsWithout 39 = .ok (.getfield 35, 3) := by decide +kernel
theorem dX7_breakCountsWithout_42 : decode cX7_breakCountsWithout 42 = .ok (.invokevirtual 68, 3) := by decide +kernel
theorem dX7_breakCountsWithout_45 : decode cX7_breakCountsWithout 45 = .ok (.istore_n 2, 1) := by decide +kernel
theorem dX7_breakCountsWithout_46 : decode cX7_breakCountsWithout 46 = .ok (.iload_n 2, 1) := by decide +kernel
theorem dX7_breakCountsWithout_47 : decode cX7_breakCountsWithout 47 = .ok (.iload_n 1, 1) := by decide +kernel
theorem dX7_breakCountsWithout_48 : decode cX7_breakCountsWithout 48 = .ok (.if_icmp .eq 15, 3) := by decide +kernel
theorem dX7_breakCountsWithout_51 : decode cX7_breakCountsWithout 51 = .ok (.aload_n 0, 1) := by decide +kernel
theorem dX7_breakCountsWithout_52 : decode cX7_breakCountsWithout 52 = .ok (.iload_n 2, 1) := by decide +kernel
theorem dX7_breakCountsWithout_53 : decode cX7_breakCountsWithout 53 = .ok (.invokevirtual 65, 3) := by decide +kernel
theorem dX7_breakCountsWithout_56 : decode cX7_breakCountsWithout 56 = .ok (.ifCond .eq 7, 3) := by decide +kernel
theorem dX7_breakCountsWithout_59 : decode cX7_breakCountsWithout 59 = .ok (.iconst 1, 1) := by decide +kernel
theorem dX7_breakCountsWithout_60 : decode cX7_breakCountsWithout 60 = .ok (.goto 4, 3) := by decide +kernel
theorem dX7_breakCountsWithout_63 : decode cX7_breakCountsWithout 63 = .ok (.iconst 0, 1) := by decide +kernel
theorem dX7_breakCountsWithout_64 : decode cX7_breakCountsWithout 64 = .ok (.ireturn, 1) := by decide +kernel
theorem dX7_chiefIsOn_0 : decode cX7_chiefIsOn 0 = .ok (.aload_n 0, 1) := by decide +kernel
theorem dX7_chiefIsOn_1 : decode cX7_chiefIsOn 1 = .ok (.aload_n 0, 1) := by decide +kernel
theorem dX7_chiefIsOn_2 : decode cX7_chiefIsOn 2 = .ok (.getfield 32, 3) := by decide +kernel
theorem dX7_chiefIsOn_5 : decode cX7_chiefIsOn 5 = .ok (.invokevirtual 65, 3) := by decide +kernel
theorem dX7_chiefIsOn_8 : decode cX7_chiefIsOn 8 = .ok (.ireturn, 1) := by decide +kernel
theorem dX7_clear_0 : decode cX7_clear 0 = .ok (.aload_n 0, 1) := by decide +kernel
theorem dX7_clear_1 : decode cX7_clear 1 = .ok (.iconst 0, 1) := by decide +kernel
theorem dX7_clear_2 : decode cX7_clear 2 = .ok (.putfield 28, 3) := by decide +kernel
theorem dX7_clear_5 : decode cX7_clear 5 = .ok (.aload_n 0, 1) := by decide +kernel
theorem dX7_clear_6 : decode cX7_clear 6 = .ok (.iconst (-1), 1) := by decide +kernel
theorem dX7_clear_7 : decode cX7_clear 7 = .ok (.putfield 32, 3) := by decide +kernel
theorem dX7_clear_10 : decode cX7_clear 10 = .ok (.aload_n 0, 1) := by decide +kernel
theorem dX7_clear_11 : decode cX7_clear 11 = .ok (.iconst (-1), 1) := by decide +kernel
theorem dX7_clear_12 : decode cX7_clear 12 = .ok (.iconst (-1), 1) := by decide +kernel
theorem dX7_clear_13 : decode cX7_clear 13 = .ok (.invokevirtual 41, 3) := by decide +kernel
theorem dX7_clear_16 : decode cX7_clear 16 = .ok (.return_, 1) := by decide +kernel
theorem dX7_copyFrom_0 : decode cX7_copyFrom 0 = .ok (.aload_n 1, 1) := by decide +kernel
theorem dX7_copyFrom_1 : decode cX7_copyFrom 1 = .ok (.getfield 9, 3) := by decide +kernel
theorem dX7_copyFrom_4 : decode cX7_copyFrom 4 = .ok (.iconst 0, 1) := by decide +kernel
theorem dX7_copyFrom_5 : decode cX7_copyFrom 5 = .ok (.aload_n 0, 1) := by decide +kernel
theorem dX7_copyFrom_6 : decode cX7_copyFrom 6 = .ok (.getfield 9, 3) := by decide +kernel
theorem dX7_copyFrom_9 : decode cX7_copyFrom 9 = .ok (.iconst 0, 1) := by decide +kernel
theorem dX7_copyFrom_10 : decode cX7_copyFrom 10 = .ok (.bipush 8, 2) := by decide +kernel
theorem dX7_copyFrom_12 : decode cX7_copyFrom 12 = .ok (.invokestatic 45, 3) := by decide +kernel
theorem dX7_copyFrom_15 : decode cX7_copyFrom 15 = .ok (.aload_n 1, 1) := by decide +kernel
theorem dX7_copyFrom_16 : decode cX7_copyFrom 16 = .ok (.getfield 15, 3) := by decide +kernel
theorem dX7_copyFrom_19 : decode cX7_copyFrom 19 = .ok (.iconst 0, 1) := by decide +kernel
theorem dX7_copyFrom_20 : decode cX7_copyFrom 20 = .ok (.aload_n 0, 1) := by decide +kernel
theorem dX7_copyFrom_21 : decode cX7_copyFrom 21 = .ok (.getfield 15, 3) := by decide +kernel
theorem dX7_copyFrom_24 : decode cX7_copyFrom 24 = .ok (.iconst 0, 1) := by decide +kernel
theorem dX7_copyFrom_25 : decode cX7_copyFrom 25 = .ok (.bipush 8, 2) := by decide +kernel
theorem dX7_copyFrom_27 : decode cX7_copyFrom 27 = .ok (.invokestatic 45, 3) := by decide +kernel
theorem dX7_copyFrom_30 : decode cX7_copyFrom 30 = .ok (.aload_n 1, 1) := by decide +kernel
theorem dX7_copyFrom_31 : decode cX7_copyFrom 31 = .ok (.getfield 19, 3) := by decide +kernel
theorem dX7_copyFrom_34 : decode cX7_copyFrom 34 = .ok (.iconst 0, 1) := by decide +kernel
theorem dX7_copyFrom_35 : decode cX7_copyFrom 35 = .ok (.aload_n 0, 1) := by decide +kernel
theorem dX7_copyFrom_36 : decode cX7_copyFrom 36 = .ok (.getfield 19, 3) := by decide +kernel
theorem dX7_copyFrom_39 : decode cX7_copyFrom 39 = .ok (.iconst 0, 1) := by decide +kernel
theorem dX7_copyFrom_40 : decode cX7_copyFrom 40 = .ok (.bipush 8, 2) := by decide +kernel
theorem dX7_copyFrom_42 : decode cX7_copyFrom 42 = .ok (.invokestatic 45, 3) := by decide +kernel
theorem dX7_copyFrom_45 : decode cX7_copyFrom 45 = .ok (.aload_n 1, 1) := by decide +kernel
theorem dX7_copyFrom_46 : decode cX7_copyFrom 46 = .ok (.getfield 22, 3) := by decide +kernel
theorem dX7_copyFrom_49 : decode cX7_copyFrom 49 = .ok (.iconst 0, 1) := by decide +kernel
theorem dX7_copyFrom_50 : decode cX7_copyFrom 50 = .ok (.aload_n 0, 1) := by decide +kernel
theorem dX7_copyFrom_51 : decode cX7_copyFrom 51 = .ok (.getfield 22, 3) := by decide +kernel
theorem dX7_copyFrom_54 : decode cX7_copyFrom 54 = .ok (.iconst 0, 1) := by decide +kernel
theorem dX7_copyFrom_55 : decode cX7_copyFrom 55 = .ok (.bipush 8, 2) := by decide +kernel
theorem dX7_copyFrom_57 : decode cX7_copyFrom 57 = .ok (.invokestatic 45, 3) := by decide +kernel
theorem dX7_copyFrom_60 : decode cX7_copyFrom 60 = .ok (.aload_n 1, 1) := by decide +kernel
theorem dX7_copyFrom_61 : decode cX7_copyFrom 61 = .ok (.getfield 25, 3) := by decide +kernel
theorem dX7_copyFrom_64 : decode cX7_copyFrom 64 = .ok (.iconst 0, 1) := by decide +kernel
theorem dX7_copyFrom_65 : decode cX7_copyFrom 65 = .ok (.aload_n 0, 1) := by decide +kernel
theorem dX7_copyFrom_66 : decode cX7_copyFrom 66 = .ok (.getfield 25, 3) := by decide +kernel
theorem dX7_copyFrom_69 : decode cX7_copyFrom 69 = .ok (.iconst 0, 1) := by decide +kernel
theorem dX7_copyFrom_70 : decode cX7_copyFrom 70 = .ok (.bipush 8, 2) := by decide +kernel
theorem dX7_copyFrom_72 : decode cX7_copyFrom 72 = .ok (.invokestatic 45, 3) := by decide +kernel
theorem dX7_copyFrom_75 : decode cX7_copyFrom 75 = .ok (.aload_n 0, 1) := by decide +kernel
theorem dX7_copyFrom_76 : decode cX7_copyFrom 76 = .ok (.aload_n 1, 1) := by decide +kernel
theorem dX7_copyFrom_77 : decode cX7_copyFrom 77 = .ok (.getfield 28, 3) := by decide +kernel
theorem dX7_copyFrom_80 : decode cX7_copyFrom 80 = .ok (.putfield 28, 3) := by decide +kernel
theorem dX7_copyFrom_83 : decode cX7_copyFrom 83 = .ok (.aload_n 0, 1) := by decide +kernel
theorem dX7_copyFrom_84 : decode cX7_copyFrom 84 = .ok (.aload_n 1, 1) := by decide +kernel
theorem dX7_copyFrom_85 : decode cX7_copyFrom 85 = .ok (.getfield 32, 3) := by decide +kernel
theorem dX7_copyFrom_88 : decode cX7_copyFrom 88 = .ok (.putfield 32, 3) := by decide +kernel
theorem dX7_copyFrom_91 : decode cX7_copyFrom 91 = .ok (.aload_n 0, 1) := by decide +kernel
theorem dX7_copyFrom_92 : decode cX7_copyFrom 92 = .ok (.aload_n 1, 1) := by decide +kernel
theorem dX7_copyFrom_93 : decode cX7_copyFrom 93 = .ok (.getfield 35, 3) := by decide +kernel
theorem dX7_copyFrom_96 : decode cX7_copyFrom 96 = .ok (.putfield 35, 3) := by decide +kernel
theorem dX7_copyFrom_99 : decode cX7_copyFrom 99 = .ok (.aload_n 0, 1) := by decide +kernel
theorem dX7_copyFrom_100 : decode cX7_copyFrom 100 = .ok (.aload_n 1, 1) := by decide +kernel
theorem dX7_copyFrom_101 : decode cX7_copyFrom 101 = .ok (.getfield 38, 3) := by decide +kernel
theorem dX7_copyFrom_104 : decode cX7_copyFrom 104 = .ok (.putfield 38, 3) := by decide +kernel
theorem dX7_copyFrom_107 : decode cX7_copyFrom 107 = .ok (.return_, 1) := by decide +kernel
theorem dX7_countGot_0 : decode cX7_countGot 0 = .ok (.aload_n 0, 1) := by decide +kernel
theorem dX7_countGot_1 : decode cX7_countGot 1 = .ok (.iload_n 1, 1) := by decide +kernel
theorem dX7_countGot_2 : decode cX7_countGot 2 = .ok (.invokevirtual 51, 3) := by decide +kernel
theorem dX7_countGot_5 : decode cX7_countGot 5 = .ok (.ifCond .eq 31, 3) := by decide +kernel
theorem dX7_countGot_8 : decode cX7_countGot 8 = .ok (.aload_n 0, 1) := by decide +kernel
theorem dX7_countGot_9 : decode cX7_countGot 9 = .ok (.iload_n 2, 1) := by decide +kernel
theorem dX7_countGot_10 : decode cX7_countGot 10 = .ok (.invokevirtual 51, 3) := by decide +kernel
theorem dX7_countGot_13 : decode cX7_countGot 13 = .ok (.ifCond .eq 23, 3) := by decide +kernel
theorem dX7_countGot_16 : decode cX7_countGot 16 = .ok (.aload_n 0, 1) := by decide +kernel
theorem dX7_countGot_17 : decode cX7_countGot 17 = .ok (.getfield 22, 3) := by decide +kernel
theorem dX7_countGot_20 : decode cX7_countGot 20 = .ok (.iload_n 1, 1) := by decide +kernel
theorem dX7_countGot_21 : decode cX7_countGot 21 = .ok (.dup2, 1) := by decide +kernel
theorem dX7_countGot_22 : decode cX7_countGot 22 = .ok (.iaload, 1) := by decide +kernel
theorem dX7_countGot_23 : decode cX7_countGot 23 = .ok (.iconst 1, 1) := by decide +kernel
theorem dX7_countGot_24 : decode cX7_countGot 24 = .ok (.iadd, 1) := by decide +kernel
theorem dX7_countGot_25 : decode cX7_countGot 25 = .ok (.iastore, 1) := by decide +kernel
theorem dX7_countGot_26 : decode cX7_countGot 26 = .ok (.aload_n 0, 1) := by decide +kernel
theorem dX7_countGot_27 : decode cX7_countGot 27 = .ok (.getfield 25, 3) := by decide +kernel
theorem dX7_countGot_30 : decode cX7_countGot 30 = .ok (.iload_n 2, 1) := by decide +kernel
theorem dX7_countGot_31 : decode cX7_countGot 31 = .ok (.dup2, 1) := by decide +kernel
theorem dX7_countGot_32 : decode cX7_countGot 32 = .ok (.iaload, 1) := by decide +kernel
theorem dX7_countGot_33 : decode cX7_countGot 33 = .ok (.iconst 1, 1) := by decide +kernel
theorem dX7_countGot_34 : decode cX7_countGot 34 = .ok (.iadd, 1) := by decide +kernel
theorem dX7_countGot_35 : decode cX7_countGot 35 = .ok (.iastore, 1) := by decide +kernel
theorem dX7_countGot_36 : decode cX7_countGot 36 = .ok (.return_, 1) := by decide +kernel
theorem dX7_exists_0 : decode cX7_exists 0 = .ok (.iload_n 1, 1) := by decide +kernel
theorem dX7_exists_1 : decode cX7_exists 1 = .ok (.ifCond .lt 21, 3) := by decide +kernel
theorem dX7_exists_4 : decode cX7_exists 4 = .ok (.iload_n 1, 1) := by decide +kernel
theorem dX7_exists_5 : decode cX7_exists 5 = .ok (.aload_n 0, 1) := by decide +kernel
theorem dX7_exists_6 : decode cX7_exists 6 = .ok (.getfield 28, 3) := by decide +kernel
theorem dX7_exists_9 : decode cX7_exists 9 = .ok (.if_icmp .ge 13, 3) := by decide +kernel
theorem dX7_exists_12 : decode cX7_exists 12 = .ok (.iload_n 1, 1) := by decide +kernel
theorem dX7_exists_13 : decode cX7_exists 13 = .ok (.bipush 8, 2) := by decide +kernel
theorem dX7_exists_15 : decode cX7_exists 15 = .ok (.if_icmp .ge 7, 3) := by decide +kernel
theorem dX7_exists_18 : decode cX7_exists 18 = .ok (.iconst 1, 1) := by decide +kernel
theorem dX7_exists_19 : decode cX7_exists 19 = .ok (.goto 4, 3) := by decide +kernel
theorem dX7_exists_22 : decode cX7_exists 22 = .ok (.iconst 0, 1) := by decide +kernel
theorem dX7_exists_23 : decode cX7_exists 23 = .ok (.ireturn, 1) := by decide +kernel
theorem dX7_following_0 : decode cX7_following 0 = .ok (.iload_n 1, 1) := by decide +kernel
theorem dX7_following_1 : decode cX7_following 1 = .ok (.iconst 1, 1) := by decide +kernel
theorem dX7_following_2 : decode cX7_following 2 = .ok (.iadd, 1) := by decide +kernel
theorem dX7_following_3 : decode cX7_following 3 = .ok (.aload_n 0, 1) := by decide +kernel
theorem dX7_following_4 : decode cX7_following 4 = .ok (.getfield 28, 3) := by decide +kernel
theorem dX7_following_7 : decode cX7_following 7 = .ok (.if_icmp .ge 9, 3) := by decide +kernel
theorem dX7_following_10 : decode cX7_following 10 = .ok (.iload_n 1, 1) := by decide +kernel
theorem dX7_following_11 : decode cX7_following 11 = .ok (.iconst 1, 1) := by decide +kernel
theorem dX7_following_12 : decode cX7_following 12 = .ok (.iadd, 1) := by decide +kernel
theorem dX7_following_13 : decode cX7_following 13 = .ok (.goto 4, 3) := by decide +kernel
theorem dX7_following_16 : decode cX7_following 16 = .ok (.iconst 0, 1) := by decide +kernel
theorem dX7_following_17 : decode cX7_following 17 = .ok (.ireturn, 1) := by decide +kernel
theorem dX7_greatestOn_0 : decode cX7_greatestOn 0 = .ok (.iconst (-1), 1) := by decide +kernel
theorem dX7_greatestOn_1 : decode cX7_greatestOn 1 = .ok (.istore_n 1, 1) := by decide +kernel
theorem dX7_greatestOn_2 : decode cX7_greatestOn 2 = .ok (.iconst (-1), 1) := by decide +kernel
theorem dX7_greatestOn_3 : decode cX7_greatestOn 3 = .ok (.istore_n 2, 1) := by decide +kernel
theorem dX7_greatestOn_4 : decode cX7_greatestOn 4 = .ok (.iconst 0, 1) := by decide +kernel
theorem dX7_greatestOn_5 : decode cX7_greatestOn 5 = .ok (.istore_n 3, 1) := by decide +kernel
theorem dX7_greatestOn_6 : decode cX7_greatestOn 6 = .ok (.iload_n 3, 1) := by decide +kernel
theorem dX7_greatestOn_7 : decode cX7_greatestOn 7 = .ok (.aload_n 0, 1) := by decide +kernel
theorem dX7_greatestOn_8 : decode cX7_greatestOn 8 = .ok (.getfield 28, 3) := by decide +kernel
theorem dX7_greatestOn_11 : decode cX7_greatestOn 11 = .ok (.if_icmp .ge 36, 3) := by decide +kernel
theorem dX7_greatestOn_14 : decode cX7_greatestOn 14 = .ok (.aload_n 0, 1) := by decide +kernel
theorem dX7_greatestOn_15 : decode cX7_greatestOn 15 = .ok (.iload_n 3, 1) := by decide +kernel
theorem dX7_greatestOn_16 : decode cX7_greatestOn 16 = .ok (.invokevirtual 65, 3) := by decide +kernel
theorem dX7_greatestOn_19 : decode cX7_greatestOn 19 = .ok (.ifCond .eq 22, 3) := by decide +kernel
theorem dX7_greatestOn_22 : decode cX7_greatestOn 22 = .ok (.aload_n 0, 1) := by decide +kernel
theorem dX7_greatestOn_23 : decode cX7_greatestOn 23 = .ok (.getfield 9, 3) := by decide +kernel
theorem dX7_greatestOn_26 : decode cX7_greatestOn 26 = .ok (.iload_n 3, 1) := by decide +kernel
theorem dX7_greatestOn_27 : decode cX7_greatestOn 27 = .ok (.iaload, 1) := by decide +kernel
theorem dX7_greatestOn_28 : decode cX7_greatestOn 28 = .ok (.iload_n 2, 1) := by decide +kernel
theorem dX7_greatestOn_29 : decode cX7_greatestOn 29 = .ok (.if_icmp .le 12, 3) := by decide +kernel
theorem dX7_greatestOn_32 : decode cX7_greatestOn 32 = .ok (.iload_n 3, 1) := by decide +kernel
theorem dX7_greatestOn_33 : decode cX7_greatestOn 33 = .ok (.istore_n 1, 1) := by decide +kernel
theorem dX7_greatestOn_34 : decode cX7_greatestOn 34 = .ok (.aload_n 0, 1) := by decide +kernel
theorem dX7_greatestOn_35 : decode cX7_greatestOn 35 = .ok (.getfield 9, 3) := by decide +kernel
theorem dX7_greatestOn_38 : decode cX7_greatestOn 38 = .ok (.iload_n 3, 1) := by decide +kernel
theorem dX7_greatestOn_39 : decode cX7_greatestOn 39 = .ok (.iaload, 1) := by decide +kernel
theorem dX7_greatestOn_40 : decode cX7_greatestOn 40 = .ok (.istore_n 2, 1) := by decide +kernel
theorem dX7_greatestOn_41 : decode cX7_greatestOn 41 = .ok (.iinc 3 1, 3) := by decide +kernel
theorem dX7_greatestOn_44 : decode cX7_greatestOn 44 = .ok (.goto (-38), 3) := by decide +kernel
theorem dX7_greatestOn_47 : decode cX7_greatestOn 47 = .ok (.iload_n 1, 1) := by decide +kernel
theorem dX7_greatestOn_48 : decode cX7_greatestOn 48 = .ok (.ireturn, 1) := by decide +kernel
theorem dX7_hasAddress_0 : decode cX7_hasAddress 0 = .ok (.iconst 0, 1) := by decide +kernel
theorem dX7_hasAddress_1 : decode cX7_hasAddress 1 = .ok (.istore_n 2, 1) := by decide +kernel
theorem dX7_hasAddress_2 : decode cX7_hasAddress 2 = .ok (.iload_n 2, 1) := by decide +kernel
theorem dX7_hasAddress_3 : decode cX7_hasAddress 3 = .ok (.aload_n 0, 1) := by decide +kernel
theorem dX7_hasAddress_4 : decode cX7_hasAddress 4 = .ok (.getfield 28, 3) := by decide +kernel
theorem dX7_hasAddress_7 : decode cX7_hasAddress 7 = .ok (.if_icmp .ge 29, 3) := by decide +kernel
theorem dX7_hasAddress_10 : decode cX7_hasAddress 10 = .ok (.aload_n 0, 1) := by decide +kernel
theorem dX7_hasAddress_11 : decode cX7_hasAddress 11 = .ok (.iload_n 2, 1) := by decide +kernel
theorem dX7_hasAddress_12 : decode cX7_hasAddress 12 = .ok (.invokevirtual 51, 3) := by decide +kernel
theorem dX7_hasAddress_15 : decode cX7_hasAddress 15 = .ok (.ifCond .eq 15, 3) := by decide +kernel
theorem dX7_hasAddress_18 : decode cX7_hasAddress 18 = .ok (.aload_n 0, 1) := by decide +kernel
theorem dX7_hasAddress_19 : decode cX7_hasAddress 19 = .ok (.getfield 9, 3) := by decide +kernel
theorem dX7_hasAddress_22 : decode cX7_hasAddress 22 = .ok (.iload_n 2, 1) := by decide +kernel
theorem dX7_hasAddress_23 : decode cX7_hasAddress 23 = .ok (.iaload, 1) := by decide +kernel
theorem dX7_hasAddress_24 : decode cX7_hasAddress 24 = .ok (.iload_n 1, 1) := by decide +kernel
theorem dX7_hasAddress_25 : decode cX7_hasAddress 25 = .ok (.if_icmp .ne 5, 3) := by decide +kernel
theorem dX7_hasAddress_28 : decode cX7_hasAddress 28 = .ok (.iconst 1, 1) := by decide +kernel
theorem dX7_hasAddress_29 : decode cX7_hasAddress 29 = .ok (.ireturn, 1) := by decide +kernel
theorem dX7_hasAddress_30 : decode cX7_hasAddress 30 = .ok (.iinc 2 1, 3) := by decide +kernel
theorem dX7_hasAddress_33 : decode cX7_hasAddress 33 = .ok (.goto (-31), 3) := by decide +kernel
theorem dX7_hasAddress_36 : decode cX7_hasAddress 36 = .ok (.iconst 0, 1) := by decide +kernel
theorem dX7_hasAddress_37 : decode cX7_hasAddress 37 = .ok (.ireturn, 1) := by decide +kernel
theorem dX7_isOn_0 : decode cX7_isOn 0 = .ok (.iload_n 1, 1) := by decide +kernel
theorem dX7_isOn_1 : decode cX7_isOn 1 = .ok (.ifCond .lt 30, 3) := by decide +kernel
theorem dX7_isOn_4 : decode cX7_isOn 4 = .ok (.iload_n 1, 1) := by decide +kernel
theorem dX7_isOn_5 : decode cX7_isOn 5 = .ok (.aload_n 0, 1) := by decide +kernel
theorem dX7_isOn_6 : decode cX7_isOn 6 = .ok (.getfield 28, 3) := by decide +kernel
theorem dX7_isOn_9 : decode cX7_isOn 9 = .ok (.if_icmp .ge 22, 3) := by decide +kernel
theorem dX7_isOn_12 : decode cX7_isOn 12 = .ok (.iload_n 1, 1) := by decide +kernel
theorem dX7_isOn_13 : decode cX7_isOn 13 = .ok (.bipush 8, 2) := by decide +kernel
theorem dX7_isOn_15 : decode cX7_isOn 15 = .ok (.if_icmp .ge 16, 3) := by decide +kernel
theorem dX7_isOn_18 : decode cX7_isOn 18 = .ok (.aload_n 0, 1) := by decide +kernel
theorem dX7_isOn_19 : decode cX7_isOn 19 = .ok (.getfield 15, 3) := by decide +kernel
theorem dX7_isOn_22 : decode cX7_isOn 22 = .ok (.iload_n 1, 1) := by decide +kernel
theorem dX7_isOn_23 : decode cX7_isOn 23 = .ok (.baload, 1) := by decide +kernel
theorem dX7_isOn_24 : decode cX7_isOn 24 = .ok (.ifCond .eq 7, 3) := by decide +kernel
theorem dX7_isOn_27 : decode cX7_isOn 27 = .ok (.iconst 1, 1) := by decide +kernel
theorem dX7_isOn_28 : decode cX7_isOn 28 = .ok (.goto 4, 3) := by decide +kernel
theorem dX7_isOn_31 : decode cX7_isOn 31 = .ok (.iconst 0, 1) := by decide +kernel
theorem dX7_isOn_32 : decode cX7_isOn 32 = .ok (.ireturn, 1) := by decide +kernel
theorem dX7_nextOn_0 : decode cX7_nextOn 0 = .ok (.iload_n 1, 1) := by decide +kernel
theorem dX7_nextOn_1 : decode cX7_nextOn 1 = .ok (.istore_n 2, 1) := by decide +kernel
theorem dX7_nextOn_2 : decode cX7_nextOn 2 = .ok (.iconst 0, 1) := by decide +kernel
theorem dX7_nextOn_3 : decode cX7_nextOn 3 = .ok (.istore_n 3, 1) := by decide +kernel
theorem dX7_nextOn_4 : decode cX7_nextOn 4 = .ok (.iload_n 3, 1) := by decide +kernel
theorem dX7_nextOn_5 : decode cX7_nextOn 5 = .ok (.aload_n 0, 1) := by decide +kernel
theorem dX7_nextOn_6 : decode cX7_nextOn 6 = .ok (.getfield 28, 3) := by decide +kernel
theorem dX7_nextOn_9 : decode cX7_nextOn 9 = .ok (.if_icmp .ge 25, 3) := by decide +kernel
theorem dX7_nextOn_12 : decode cX7_nextOn 12 = .ok (.aload_n 0, 1) := by decide +kernel
theorem dX7_nextOn_13 : decode cX7_nextOn 13 = .ok (.iload_n 2, 1) := by decide +kernel
theorem dX7_nextOn_14 : decode cX7_nextOn 14 = .ok (.invokevirtual 68, 3) := by decide +kernel
theorem dX7_nextOn_17 : decode cX7_nextOn 17 = .ok (.istore_n 2, 1) := by decide +kernel
theorem dX7_nextOn_18 : decode cX7_nextOn 18 = .ok (.aload_n 0, 1) := by decide +kernel
theorem dX7_nextOn_19 : decode cX7_nextOn 19 = .ok (.iload_n 2, 1) := by decide +kernel
theorem dX7_nextOn_20 : decode cX7_nextOn 20 = .ok (.invokevirtual 65, 3) := by decide +kernel
theorem dX7_nextOn_23 : decode cX7_nextOn 23 = .ok (.ifCond .eq 5, 3) := by decide +kernel
theorem dX7_nextOn_26 : decode cX7_nextOn 26 = .ok (.iload_n 2, 1) := by decide +kernel
theorem dX7_nextOn_27 : decode cX7_nextOn 27 = .ok (.ireturn, 1) := by decide +kernel
theorem dX7_nextOn_28 : decode cX7_nextOn 28 = .ok (.iinc 3 1, 3) := by decide +kernel
theorem dX7_nextOn_31 : decode cX7_nextOn 31 = .ok (.goto (-27), 3) := by decide +kernel
theorem dX7_nextOn_34 : decode cX7_nextOn 34 = .ok (.iconst (-1), 1) := by decide +kernel
theorem dX7_nextOn_35 : decode cX7_nextOn 35 = .ok (.ireturn, 1) := by decide +kernel
theorem dX7_onBits_0 : decode cX7_onBits 0 = .ok (.iconst 0, 1) := by decide +kernel
theorem dX7_onBits_1 : decode cX7_onBits 1 = .ok (.istore_n 1, 1) := by decide +kernel
theorem dX7_onBits_2 : decode cX7_onBits 2 = .ok (.iconst 0, 1) := by decide +kernel
theorem dX7_onBits_3 : decode cX7_onBits 3 = .ok (.istore_n 2, 1) := by decide +kernel
theorem dX7_onBits_4 : decode cX7_onBits 4 = .ok (.iload_n 2, 1) := by decide +kernel
theorem dX7_onBits_5 : decode cX7_onBits 5 = .ok (.aload_n 0, 1) := by decide +kernel
theorem dX7_onBits_6 : decode cX7_onBits 6 = .ok (.getfield 28, 3) := by decide +kernel
theorem dX7_onBits_9 : decode cX7_onBits 9 = .ok (.if_icmp .ge 23, 3) := by decide +kernel
theorem dX7_onBits_12 : decode cX7_onBits 12 = .ok (.aload_n 0, 1) := by decide +kernel
theorem dX7_onBits_13 : decode cX7_onBits 13 = .ok (.iload_n 2, 1) := by decide +kernel
theorem dX7_onBits_14 : decode cX7_onBits 14 = .ok (.invokevirtual 65, 3) := by decide +kernel
theorem dX7_onBits_17 : decode cX7_onBits 17 = .ok (.ifCond .eq 9, 3) := by decide +kernel
theorem dX7_onBits_20 : decode cX7_onBits 20 = .ok (.iload_n 1, 1) := by decide +kernel
theorem dX7_onBits_21 : decode cX7_onBits 21 = .ok (.iconst 1, 1) := by decide +kernel
theorem dX7_onBits_22 : decode cX7_onBits 22 = .ok (.iload_n 2, 1) := by decide +kernel
theorem dX7_onBits_23 : decode cX7_onBits 23 = .ok (.ishl, 1) := by decide +kernel
theorem dX7_onBits_24 : decode cX7_onBits 24 = .ok (.ior, 1) := by decide +kernel
theorem dX7_onBits_25 : decode cX7_onBits 25 = .ok (.istore_n 1, 1) := by decide +kernel
theorem dX7_onBits_26 : decode cX7_onBits 26 = .ok (.iinc 2 1, 3) := by decide +kernel
theorem dX7_onBits_29 : decode cX7_onBits 29 = .ok (.goto (-25), 3) := by decide +kernel
theorem dX7_onBits_32 : decode cX7_onBits 32 = .ok (.iload_n 1, 1) := by decide +kernel
theorem dX7_onBits_33 : decode cX7_onBits 33 = .ok (.ireturn, 1) := by decide +kernel
theorem dX7_onCount_0 : decode cX7_onCount 0 = .ok (.aload_n 0, 1) := by decide +kernel
theorem dX7_onCount_1 : decode cX7_onCount 1 = .ok (.invokevirtual 55, 3) := by decide +kernel
theorem dX7_onCount_4 : decode cX7_onCount 4 = .ok (.invokestatic 59, 3) := by decide +kernel
theorem dX7_onCount_7 : decode cX7_onCount 7 = .ok (.ireturn, 1) := by decide +kernel
theorem dX7_preceding_0 : decode cX7_preceding 0 = .ok (.iload_n 1, 1) := by decide +kernel
theorem dX7_preceding_1 : decode cX7_preceding 1 = .ok (.ifCond .le 9, 3) := by decide +kernel
theorem dX7_preceding_4 : decode cX7_preceding 4 = .ok (.iload_n 1, 1) := by decide +kernel
theorem dX7_preceding_5 : decode cX7_preceding 5 = .ok (.iconst 1, 1) := by decide +kernel
theorem dX7_preceding_6 : decode cX7_preceding 6 = .ok (.isub, 1) := by decide +kernel
theorem dX7_preceding_7 : decode cX7_preceding 7 = .ok (.goto 9, 3) := by decide +kernel
theorem dX7_preceding_10 : decode cX7_preceding 10 = .ok (.aload_n 0, 1) := by decide +kernel
theorem dX7_preceding_11 : decode cX7_preceding 11 = .ok (.getfield 28, 3) := by decide +kernel
theorem dX7_preceding_14 : decode cX7_preceding 14 = .ok (.iconst 1, 1) := by decide +kernel
theorem dX7_preceding_15 : decode cX7_preceding 15 = .ok (.isub, 1) := by decide +kernel
theorem dX7_preceding_16 : decode cX7_preceding 16 = .ok (.ireturn, 1) := by decide +kernel
theorem dX7_previousOn_0 : decode cX7_previousOn 0 = .ok (.iload_n 1, 1) := by decide +kernel
theorem dX7_previousOn_1 : decode cX7_previousOn 1 = .ok (.istore_n 2, 1) := by decide +kernel
theorem dX7_previousOn_2 : decode cX7_previousOn 2 = .ok (.iconst 0, 1) := by decide +kernel
theorem dX7_previousOn_3 : decode cX7_previousOn 3 = .ok (.istore_n 3, 1) := by decide +kernel
theorem dX7_previousOn_4 : decode cX7_previousOn 4 = .ok (.iload_n 3, 1) := by decide +kernel
theorem dX7_previousOn_5 : decode cX7_previousOn 5 = .ok (.aload_n 0, 1) := by decide +kernel
theorem dX7_previousOn_6 : decode cX7_previousOn 6 = .ok (.getfield 28, 3) := by decide +kernel
theorem dX7_previousOn_9 : decode cX7_previousOn 9 = .ok (.if_icmp .ge 25, 3) := by decide +kernel
theorem dX7_previousOn_12 : decode cX7_previousOn 12 = .ok (.aload_n 0, 1) := by decide +kernel
theorem dX7_previousOn_13 : decode cX7_previousOn 13 = .ok (.iload_n 2, 1) := by decide +kernel
theorem dX7_previousOn_14 : decode cX7_previousOn 14 = .ok (.invokevirtual 71, 3) := by decide +kernel
theorem dX7_previousOn_17 : decode cX7_previousOn 17 = .ok (.istore_n 2, 1) := by decide +kernel
theorem dX7_previousOn_18 : decode cX7_previousOn 18 = .ok (.aload_n 0, 1) := by decide +kernel
theorem dX7_previousOn_19 : decode cX7_previousOn 19 = .ok (.iload_n 2, 1) := by decide +kernel
theorem dX7_previousOn_20 : decode cX7_previousOn 20 = .ok (.invokevirtual 65, 3) := by decide +kernel
theorem dX7_previousOn_23 : decode cX7_previousOn 23 = .ok (.ifCond .eq 5, 3) := by decide +kernel
theorem dX7_previousOn_26 : decode cX7_previousOn 26 = .ok (.iload_n 2, 1) := by decide +kernel
theorem dX7_previousOn_27 : decode cX7_previousOn 27 = .ok (.ireturn, 1) := by decide +kernel
theorem dX7_previousOn_28 : decode cX7_previousOn 28 = .ok (.iinc 3 1, 3) := by decide +kernel
theorem dX7_previousOn_31 : decode cX7_previousOn 31 = .ok (.goto (-27), 3) := by decide +kernel
theorem dX7_previousOn_34 : decode cX7_previousOn 34 = .ok (.iconst (-1), 1) := by decide +kernel
theorem dX7_previousOn_35 : decode cX7_previousOn 35 = .ok (.ireturn, 1) := by decide +kernel
theorem dX7_setBreak_0 : decode cX7_setBreak 0 = .ok (.aload_n 0, 1) := by decide +kernel
theorem dX7_setBreak_1 : decode cX7_setBreak 1 = .ok (.iload_n 1, 1) := by decide +kernel
theorem dX7_setBreak_2 : decode cX7_setBreak 2 = .ok (.putfield 35, 3) := by decide +kernel
theorem dX7_setBreak_5 : decode cX7_setBreak 5 = .ok (.aload_n 0, 1) := by decide +kernel
theorem dX7_setBreak_6 : decode cX7_setBreak 6 = .ok (.iload_n 2, 1) := by decide +kernel
theorem dX7_setBreak_7 : decode cX7_setBreak 7 = .ok (.putfield 38, 3) := by decide +kernel
theorem dX7_setBreak_10 : decode cX7_setBreak 10 = .ok (.return_, 1) := by decide +kernel
theorem dX7_staleBits_0 : decode cX7_staleBits 0 = .ok (.iconst 0, 1) := by decide +kernel
theorem dX7_staleBits_1 : decode cX7_staleBits 1 = .ok (.istore_n 1, 1) := by decide +kernel
theorem dX7_staleBits_2 : decode cX7_staleBits 2 = .ok (.iconst 0, 1) := by decide +kernel
theorem dX7_staleBits_3 : decode cX7_staleBits 3 = .ok (.istore_n 2, 1) := by decide +kernel
theorem dX7_staleBits_4 : decode cX7_staleBits 4 = .ok (.iload_n 2, 1) := by decide +kernel
theorem dX7_staleBits_5 : decode cX7_staleBits 5 = .ok (.aload_n 0, 1) := by decide +kernel
theorem dX7_staleBits_6 : decode cX7_staleBits 6 = .ok (.getfield 28, 3) := by decide +kernel
theorem dX7_staleBits_9 : decode cX7_staleBits 9 = .ok (.if_icmp .ge 37, 3) := by decide +kernel
theorem dX7_staleBits_12 : decode cX7_staleBits 12 = .ok (.aload_n 0, 1) := by decide +kernel
theorem dX7_staleBits_13 : decode cX7_staleBits 13 = .ok (.iload_n 2, 1) := by decide +kernel
theorem dX7_staleBits_14 : decode cX7_staleBits 14 = .ok (.invokevirtual 65, 3) := by decide +kernel
theorem dX7_staleBits_17 : decode cX7_staleBits 17 = .ok (.ifCond .eq 23, 3) := by decide +kernel
theorem dX7_staleBits_20 : decode cX7_staleBits 20 = .ok (.aload_n 0, 1) := by decide +kernel
theorem dX7_staleBits_21 : decode cX7_staleBits 21 = .ok (.getfield 19, 3) := by decide +kernel
theorem dX7_staleBits_24 : decode cX7_staleBits 24 = .ok (.iload_n 2, 1) := by decide +kernel
theorem dX7_staleBits_25 : decode cX7_staleBits 25 = .ok (.iaload, 1) := by decide +kernel
theorem dX7_staleBits_26 : decode cX7_staleBits 26 = .ok (.aload_n 0, 1) := by decide +kernel
theorem dX7_staleBits_27 : decode cX7_staleBits 27 = .ok (.iload_n 2, 1) := by decide +kernel
theorem dX7_staleBits_28 : decode cX7_staleBits 28 = .ok (.invokevirtual 81, 3) := by decide +kernel
theorem dX7_staleBits_31 : decode cX7_staleBits 31 = .ok (.if_icmp .eq 9, 3) := by decide +kernel
theorem dX7_staleBits_34 : decode cX7_staleBits 34 = .ok (.iload_n 1, 1) := by decide +kernel
theorem dX7_staleBits_35 : decode cX7_staleBits 35 = .ok (.iconst 1, 1) := by decide +kernel
theorem dX7_staleBits_36 : decode cX7_staleBits 36 = .ok (.iload_n 2, 1) := by decide +kernel
theorem dX7_staleBits_37 : decode cX7_staleBits 37 = .ok (.ishl, 1) := by decide +kernel
theorem dX7_staleBits_38 : decode cX7_staleBits 38 = .ok (.ior, 1) := by decide +kernel
theorem dX7_staleBits_39 : decode cX7_staleBits 39 = .ok (.istore_n 1, 1) := by decide +kernel
theorem dX7_staleBits_40 : decode cX7_staleBits 40 = .ok (.iinc 2 1, 3) := by decide +kernel
theorem dX7_staleBits_43 : decode cX7_staleBits 43 = .ok (.goto (-39), 3) := by decide +kernel
theorem dX7_staleBits_46 : decode cX7_staleBits 46 = .ok (.iload_n 1, 1) := by decide +kernel
theorem dX7_staleBits_47 : decode cX7_staleBits 47 = .ok (.ireturn, 1) := by decide +kernel
theorem dX7_stepsBetween_0 : decode cX7_stepsBetween 0 = .ok (.iconst 0, 1) := by decide +kernel
theorem dX7_stepsBetween_1 : decode cX7_stepsBetween 1 = .ok (.istore_n 3, 1) := by decide +kernel
theorem dX7_stepsBetween_2 : decode cX7_stepsBetween 2 = .ok (.iload_n 1, 1) := by decide +kernel
theorem dX7_stepsBetween_3 : decode cX7_stepsBetween 3 = .ok (.istore 4, 2) := by decide +kernel
theorem dX7_stepsBetween_5 : decode cX7_stepsBetween 5 = .ok (.iconst 0, 1) := by decide +kernel
theorem dX7_stepsBetween_6 : decode cX7_stepsBetween 6 = .ok (.istore 5, 2) := by decide +kernel
theorem dX7_stepsBetween_8 : decode cX7_stepsBetween 8 = .ok (.iload 5, 2) := by decide +kernel
theorem dX7_stepsBetween_10 : decode cX7_stepsBetween 10 = .ok (.aload_n 0, 1) := by decide +kernel
theorem dX7_stepsBetween_11 : decode cX7_stepsBetween 11 = .ok (.getfield 28, 3) := by decide +kernel
theorem dX7_stepsBetween_14 : decode cX7_stepsBetween 14 = .ok (.if_icmp .ge 37, 3) := by decide +kernel
theorem dX7_stepsBetween_17 : decode cX7_stepsBetween 17 = .ok (.aload_n 0, 1) := by decide +kernel
theorem dX7_stepsBetween_18 : decode cX7_stepsBetween 18 = .ok (.iload 4, 2) := by decide +kernel
theorem dX7_stepsBetween_20 : decode cX7_stepsBetween 20 = .ok (.invokevirtual 68, 3) := by decide +kernel
theorem dX7_stepsBetween_23 : decode cX7_stepsBetween 23 = .ok (.istore 4, 2) := by decide +kernel
theorem dX7_stepsBetween_25 : decode cX7_stepsBetween 25 = .ok (.aload_n 0, 1) := by decide +kernel
theorem dX7_stepsBetween_26 : decode cX7_stepsBetween 26 = .ok (.iload 4, 2) := by decide +kernel
theorem dX7_stepsBetween_28 : decode cX7_stepsBetween 28 = .ok (.invokevirtual 65, 3) := by decide +kernel
theorem dX7_stepsBetween_31 : decode cX7_stepsBetween 31 = .ok (.ifCond .eq 6, 3) := by decide +kernel
theorem dX7_stepsBetween_34 : decode cX7_stepsBetween 34 = .ok (.iinc 3 1, 3) := by decide +kernel
theorem dX7_stepsBetween_37 : decode cX7_stepsBetween 37 = .ok (.iload 4, 2) := by decide +kernel
theorem dX7_stepsBetween_39 : decode cX7_stepsBetween 39 = .ok (.iload_n 2, 1) := by decide +kernel
theorem dX7_stepsBetween_40 : decode cX7_stepsBetween 40 = .ok (.if_icmp .ne 5, 3) := by decide +kernel
theorem dX7_stepsBetween_43 : decode cX7_stepsBetween 43 = .ok (.iload_n 3, 1) := by decide +kernel
theorem dX7_stepsBetween_44 : decode cX7_stepsBetween 44 = .ok (.ireturn, 1) := by decide +kernel
theorem dX7_stepsBetween_45 : decode cX7_stepsBetween 45 = .ok (.iinc 5 1, 3) := by decide +kernel
theorem dX7_stepsBetween_48 : decode cX7_stepsBetween 48 = .ok (.goto (-40), 3) := by decide +kernel
theorem dX7_stepsBetween_51 : decode cX7_stepsBetween 51 = .ok (.iload_n 3, 1) := by decide +kernel
theorem dX7_stepsBetween_52 : decode cX7_stepsBetween 52 = .ok (.ireturn, 1) := by decide +kernel
theorem dX7_switchOff_0 : decode cX7_switchOff 0 = .ok (.aload_n 0, 1) := by decide +kernel
theorem dX7_switchOff_1 : decode cX7_switchOff 1 = .ok (.iload_n 1, 1) := by decide +kernel
theorem dX7_switchOff_2 : decode cX7_switchOff 2 = .ok (.invokevirtual 51, 3) := by decide +kernel
theorem dX7_switchOff_5 : decode cX7_switchOff 5 = .ok (.ifCond .eq 10, 3) := by decide +kernel
theorem dX7_switchOff_8 : decode cX7_switchOff 8 = .ok (.aload_n 0, 1) := by decide +kernel
theorem dX7_switchOff_9 : decode cX7_switchOff 9 = .ok (.getfield 15, 3) := by decide +kernel
theorem dX7_switchOff_12 : decode cX7_switchOff 12 = .ok (.iload_n 1, 1) := by decide +kernel
theorem dX7_switchOff_13 : decode cX7_switchOff 13 = .ok (.iconst 0, 1) := by decide +kernel
theorem dX7_switchOff_14 : decode cX7_switchOff 14 = .ok (.bastore, 1) := by decide +kernel
theorem dX7_switchOff_15 : decode cX7_switchOff 15 = .ok (.return_, 1) := by decide +kernel
theorem dX7_switchOn_0 : decode cX7_switchOn 0 = .ok (.aload_n 0, 1) := by decide +kernel
theorem dX7_switchOn_1 : decode cX7_switchOn 1 = .ok (.iload_n 1, 1) := by decide +kernel
theorem dX7_switchOn_2 : decode cX7_switchOn 2 = .ok (.invokevirtual 51, 3) := by decide +kernel
theorem dX7_switchOn_5 : decode cX7_switchOn 5 = .ok (.ifCond .eq 17, 3) := by decide +kernel
theorem dX7_switchOn_8 : decode cX7_switchOn 8 = .ok (.aload_n 0, 1) := by decide +kernel
theorem dX7_switchOn_9 : decode cX7_switchOn 9 = .ok (.getfield 15, 3) := by decide +kernel
theorem dX7_switchOn_12 : decode cX7_switchOn 12 = .ok (.iload_n 1, 1) := by decide +kernel
theorem dX7_switchOn_13 : decode cX7_switchOn 13 = .ok (.iconst 1, 1) := by decide +kernel
theorem dX7_switchOn_14 : decode cX7_switchOn 14 = .ok (.bastore, 1) := by decide +kernel
theorem dX7_switchOn_15 : decode cX7_switchOn 15 = .ok (.aload_n 0, 1) := by decide +kernel
theorem dX7_switchOn_16 : decode cX7_switchOn 16 = .ok (.getfield 19, 3) := by decide +kernel
theorem dX7_switchOn_19 : decode cX7_switchOn 19 = .ok (.iload_n 1, 1) := by decide +kernel
theorem dX7_switchOn_20 : decode cX7_switchOn 20 = .ok (.iconst (-1), 1) := by decide +kernel
theorem dX7_switchOn_21 : decode cX7_switchOn 21 = .ok (.iastore, 1) := by decide +kernel
theorem dX7_switchOn_22 : decode cX7_switchOn 22 = .ok (.return_, 1) := by decide +kernel
theorem dX7_tellNeighbours_0 : decode cX7_tellNeighbours 0 = .ok (.iconst 0, 1) := by decide +kernel
theorem dX7_tellNeighbours_1 : decode cX7_tellNeighbours 1 = .ok (.istore_n 1, 1) := by decide +kernel
theorem dX7_tellNeighbours_2 : decode cX7_tellNeighbours 2 = .ok (.iconst 0, 1) := by decide +kernel
theorem dX7_tellNeighbours_3 : decode cX7_tellNeighbours 3 = .ok (.istore_n 2, 1) := by decide +kernel
theorem dX7_tellNeighbours_4 : decode cX7_tellNeighbours 4 = .ok (.iload_n 2, 1) := by decide +kernel
theorem dX7_tellNeighbours_5 : decode cX7_tellNeighbours 5 = .ok (.aload_n 0, 1) := by decide +kernel
theorem dX7_tellNeighbours_6 : decode cX7_tellNeighbours 6 = .ok (.getfield 28, 3) := by decide +kernel
theorem dX7_tellNeighbours_9 : decode cX7_tellNeighbours 9 = .ok (.if_icmp .ge 45, 3) := by decide +kernel
theorem dX7_tellNeighbours_12 : decode cX7_tellNeighbours 12 = .ok (.aload_n 0, 1) := by decide +kernel
theorem dX7_tellNeighbours_13 : decode cX7_tellNeighbours 13 = .ok (.iload_n 2, 1) := by decide +kernel
theorem dX7_tellNeighbours_14 : decode cX7_tellNeighbours 14 = .ok (.invokevirtual 65, 3) := by decide +kernel
theorem dX7_tellNeighbours_17 : decode cX7_tellNeighbours 17 = .ok (.ifCond .eq 31, 3) := by decide +kernel
theorem dX7_tellNeighbours_20 : decode cX7_tellNeighbours 20 = .ok (.aload_n 0, 1) := by decide +kernel
theorem dX7_tellNeighbours_21 : decode cX7_tellNeighbours 21 = .ok (.getfield 19, 3) := by decide +kernel
theorem dX7_tellNeighbours_24 : decode cX7_tellNeighbours 24 = .ok (.iload_n 2, 1) := by decide +kernel
theorem dX7_tellNeighbours_25 : decode cX7_tellNeighbours 25 = .ok (.iaload, 1) := by decide +kernel
theorem dX7_tellNeighbours_26 : decode cX7_tellNeighbours 26 = .ok (.aload_n 0, 1) := by decide +kernel
theorem dX7_tellNeighbours_27 : decode cX7_tellNeighbours 27 = .ok (.iload_n 2, 1) := by decide +kernel
theorem dX7_tellNeighbours_28 : decode cX7_tellNeighbours 28 = .ok (.invokevirtual 81, 3) := by decide +kernel
theorem dX7_tellNeighbours_31 : decode cX7_tellNeighbours 31 = .ok (.if_icmp .eq 17, 3) := by decide +kernel
theorem dX7_tellNeighbours_34 : decode cX7_tellNeighbours 34 = .ok (.aload_n 0, 1) := by decide +kernel
theorem dX7_tellNeighbours_35 : decode cX7_tellNeighbours 35 = .ok (.getfield 19, 3) := by decide +kernel
theorem dX7_tellNeighbours_38 : decode cX7_tellNeighbours 38 = .ok (.iload_n 2, 1) := by decide +kernel
theorem dX7_tellNeighbours_39 : decode cX7_tellNeighbours 39 = .ok (.aload_n 0, 1) := by decide +kernel
theorem dX7_tellNeighbours_40 : decode cX7_tellNeighbours 40 = .ok (.iload_n 2, 1) := by decide +kernel
theorem dX7_tellNeighbours_41 : decode cX7_tellNeighbours 41 = .ok (.invokevirtual 81, 3) := by decide +kernel
theorem dX7_tellNeighbours_44 : decode cX7_tellNeighbours 44 = .ok (.iastore, 1) := by decide +kernel
theorem dX7_tellNeighbours_45 : decode cX7_tellNeighbours 45 = .ok (.iinc 1 1, 3) := by decide +kernel
theorem dX7_tellNeighbours_48 : decode cX7_tellNeighbours 48 = .ok (.iinc 2 1, 3) := by decide +kernel
theorem dX7_tellNeighbours_51 : decode cX7_tellNeighbours 51 = .ok (.goto (-47), 3) := by decide +kernel
theorem dX7_tellNeighbours_54 : decode cX7_tellNeighbours 54 = .ok (.iload_n 1, 1) := by decide +kernel
theorem dX7_tellNeighbours_55 : decode cX7_tellNeighbours 55 = .ok (.ireturn, 1) := by decide +kernel
theorem dX8_append_0 : decode cX8_append 0 = .ok (.bipush 24, 2) := by decide +kernel
theorem dX8_append_2 : decode cX8_append 2 = .ok (.istore_n 2, 1) := by decide +kernel
theorem dX8_append_3 : decode cX8_append 3 = .ok (.iload_n 2, 1) := by decide +kernel
theorem dX8_append_4 : decode cX8_append 4 = .ok (.ifCond .lt 49, 3) := by decide +kernel
theorem dX8_append_7 : decode cX8_append 7 = .ok (.aload_n 0, 1) := by decide +kernel
theorem dX8_append_8 : decode cX8_append 8 = .ok (.getfield 15, 3) := by decide +kernel
theorem dX8_append_11 : decode cX8_append 11 = .ok (.ifCond .lt 36, 3) := by decide +kernel
theorem dX8_append_14 : decode cX8_append 14 = .ok (.aload_n 0, 1) := by decide +kernel
theorem dX8_append_15 : decode cX8_append 15 = .ok (.getfield 15, 3) := by decide +kernel
theorem dX8_append_18 : decode cX8_append 18 = .ok (.sipush 500, 3) := by decide +kernel
theorem dX8_append_21 : decode cX8_append 21 = .ok (.if_icmp .ge 26, 3) := by decide +kernel
theorem dX8_append_24 : decode cX8_append 24 = .ok (.aload_n 0, 1) := by decide +kernel
theorem dX8_append_25 : decode cX8_append 25 = .ok (.getfield 9, 3) := by decide +kernel
theorem dX8_append_28 : decode cX8_append 28 = .ok (.aload_n 0, 1) := by decide +kernel
theorem dX8_append_29 : decode cX8_append 29 = .ok (.getfield 15, 3) := by decide +kernel
theorem dX8_append_32 : decode cX8_append 32 = .ok (.iload_n 1, 1) := by decide +kernel
theorem dX8_append_33 : decode cX8_append 33 = .ok (.iload_n 2, 1) := by decide +kernel
theorem dX8_append_34 : decode cX8_append 34 = .ok (.ishr, 1) := by decide +kernel
theorem dX8_append_35 : decode cX8_append 35 = .ok (.i2b, 1) := by decide +kernel
theorem dX8_append_36 : decode cX8_append 36 = .ok (.bastore, 1) := by decide +kernel
theorem dX8_append_37 : decode cX8_append 37 = .ok (.aload_n 0, 1) := by decide +kernel
theorem dX8_append_38 : decode cX8_append 38 = .ok (.dup, 1) := by decide +kernel
theorem dX8_append_39 : decode cX8_append 39 = .ok (.getfield 15, 3) := by decide +kernel
theorem dX8_append_42 : decode cX8_append 42 = .ok (.iconst 1, 1) := by decide +kernel
theorem dX8_append_43 : decode cX8_append 43 = .ok (.iadd, 1) := by decide +kernel
theorem dX8_append_44 : decode cX8_append 44 = .ok (.putfield 15, 3) := by decide +kernel
theorem dX8_append_47 : decode cX8_append 47 = .ok (.iinc 2 (-8), 3) := by decide +kernel
theorem dX8_append_50 : decode cX8_append 50 = .ok (.goto (-47), 3) := by decide +kernel
theorem dX8_append_53 : decode cX8_append 53 = .ok (.return_, 1) := by decide +kernel
theorem dX8_byteAt_0 : decode cX8_byteAt 0 = .ok (.iload_n 1, 1) := by decide +kernel
theorem dX8_byteAt_1 : decode cX8_byteAt 1 = .ok (.ifCond .lt 23, 3) := by decide +kernel
theorem dX8_byteAt_4 : decode cX8_byteAt 4 = .ok (.iload_n 1, 1) := by decide +kernel
theorem dX8_byteAt_5 : decode cX8_byteAt 5 = .ok (.sipush 500, 3) := by decide +kernel
theorem dX8_byteAt_8 : decode cX8_byteAt 8 = .ok (.if_icmp .ge 16, 3) := by decide +kernel
theorem dX8_byteAt_11 : decode cX8_byteAt 11 = .ok (.aload_n 0, 1) := by decide +kernel
theorem dX8_byteAt_12 : decode cX8_byteAt 12 = .ok (.getfield 9, 3) := by decide +kernel
theorem dX8_byteAt_15 : decode cX8_byteAt 15 = .ok (.iload_n 1, 1) := by decide +kernel
theorem dX8_byteAt_16 : decode cX8_byteAt 16 = .ok (.baload, 1) := by decide +kernel
theorem dX8_byteAt_17 : decode cX8_byteAt 17 = .ok (.sipush 255, 3) := by decide +kernel
theorem dX8_byteAt_20 : decode cX8_byteAt 20 = .ok (.iand, 1) := by decide +kernel
theorem dX8_byteAt_21 : decode cX8_byteAt 21 = .ok (.goto 4, 3) := by decide +kernel
theorem dX8_byteAt_24 : decode cX8_byteAt 24 = .ok (.iconst 0, 1) := by decide +kernel
theorem dX8_byteAt_25 : decode cX8_byteAt 25 = .ok (.ireturn, 1) := by decide +kernel
theorem dX8_copyFrom_0 : decode cX8_copyFrom 0 = .ok (.aload_n 1, 1) := by decide +kernel
theorem dX8_copyFrom_1 : decode cX8_copyFrom 1 = .ok (.getfield 9, 3) := by decide +kernel
theorem dX8_copyFrom_4 : decode cX8_copyFrom 4 = .ok (.iconst 0, 1) := by decide +kernel
theorem dX8_copyFrom_5 : decode cX8_copyFrom 5 = .ok (.aload_n 0, 1) := by decide +kernel
theorem dX8_copyFrom_6 : decode cX8_copyFrom 6 = .ok (.getfield 9, 3) := by decide +kernel
theorem dX8_copyFrom_9 : decode cX8_copyFrom 9 = .ok (.iconst 0, 1) := by decide +kernel
theorem dX8_copyFrom_10 : decode cX8_copyFrom 10 = .ok (.sipush 500, 3) := by decide +kernel
theorem dX8_copyFrom_13 : decode cX8_copyFrom 13 = .ok (.invokestatic 25, 3) := by decide +kernel
theorem dX8_copyFrom_16 : decode cX8_copyFrom 16 = .ok (.aload_n 0, 1) := by decide +kernel
theorem dX8_copyFrom_17 : decode cX8_copyFrom 17 = .ok (.aload_n 1, 1) := by decide +kernel
theorem dX8_copyFrom_18 : decode cX8_copyFrom 18 = .ok (.getfield 15, 3) := by decide +kernel
theorem dX8_copyFrom_21 : decode cX8_copyFrom 21 = .ok (.putfield 15, 3) := by decide +kernel
theorem dX8_copyFrom_24 : decode cX8_copyFrom 24 = .ok (.aload_n 0, 1) := by decide +kernel
theorem dX8_copyFrom_25 : decode cX8_copyFrom 25 = .ok (.aload_n 1, 1) := by decide +kernel
theorem dX8_copyFrom_26 : decode cX8_copyFrom 26 = .ok (.getfield 19, 3) := by decide +kernel
theorem dX8_copyFrom_29 : decode cX8_copyFrom 29 = .ok (.putfield 19, 3) := by decide +kernel
theorem dX8_copyFrom_32 : decode cX8_copyFrom 32 = .ok (.aload_n 0, 1) := by decide +kernel
theorem dX8_copyFrom_33 : decode cX8_copyFrom 33 = .ok (.aload_n 1, 1) := by decide +kernel
theorem dX8_copyFrom_34 : decode cX8_copyFrom 34 = .ok (.getfield 22, 3) := by decide +kernel
theorem dX8_copyFrom_37 : decode cX8_copyFrom 37 = .ok (.putfield 22, 3) := by decide +kernel
theorem dX8_copyFrom_40 : decode cX8_copyFrom 40 = .ok (.return_, 1) := by decide +kernel
theorem dX9_becomeFrame_0 : decode cX9_becomeFrame 0 = .ok (.aload_n 0, 1) := by decide +kernel
theorem dX9_becomeFrame_1 : decode cX9_becomeFrame 1 = .ok (.iconst 2, 1) := by decide +kernel
theorem dX9_becomeFrame_2 : decode cX9_becomeFrame 2 = .ok (.putfield 9, 3) := by decide +kernel
theorem dX9_becomeFrame_5 : decode cX9_becomeFrame 5 = .ok (.aload_n 0, 1) := by decide +kernel
theorem dX9_becomeFrame_6 : decode cX9_becomeFrame 6 = .ok (.iload_n 1, 1) := by decide +kernel
theorem dX9_becomeFrame_7 : decode cX9_becomeFrame 7 = .ok (.putfield 15, 3) := by decide +kernel
theorem dX9_becomeFrame_10 : decode cX9_becomeFrame 10 = .ok (.aload_n 0, 1) := by decide +kernel
theorem dX9_becomeFrame_11 : decode cX9_becomeFrame 11 = .ok (.iconst 0, 1) := by decide +kernel
theorem dX9_becomeFrame_12 : decode cX9_becomeFrame 12 = .ok (.putfield 21, 3) := by decide +kernel
theorem dX9_becomeFrame_15 : decode cX9_becomeFrame 15 = .ok (.aload_n 0, 1) := by decide +kernel
theorem dX9_becomeFrame_16 : decode cX9_becomeFrame 16 = .ok (.iconst 0, 1) := by decide +kernel
theorem dX9_becomeFrame_17 : decode cX9_becomeFrame 17 = .ok (.putfield 24, 3) := by decide +kernel
theorem dX9_becomeFrame_20 : decode cX9_becomeFrame 20 = .ok (.aload_n 0, 1) := by decide +kernel
theorem dX9_becomeFrame_21 : decode cX9_becomeFrame 21 = .ok (.iload_n 1, 1) := by decide +kernel
theorem dX9_becomeFrame_22 : decode cX9_becomeFrame 22 = .ok (.putfield 28, 3) := by decide +kernel
theorem dX9_becomeFrame_25 : decode cX9_becomeFrame 25 = .ok (.aload_n 0, 1) := by decide +kernel
theorem dX9_becomeFrame_26 : decode cX9_becomeFrame 26 = .ok (.aload_n 2, 1) := by decide +kernel
theorem dX9_becomeFrame_27 : decode cX9_becomeFrame 27 = .ok (.iload_n 3, 1) := by decide +kernel
theorem dX9_becomeFrame_28 : decode cX9_becomeFrame 28 = .ok (.invokevirtual 46, 3) := by decide +kernel
theorem dX9_becomeFrame_31 : decode cX9_becomeFrame 31 = .ok (.putfield 31, 3) := by decide +kernel
theorem dX9_becomeFrame_34 : decode cX9_becomeFrame 34 = .ok (.aload_n 0, 1) := by decide +kernel
theorem dX9_becomeFrame_35 : decode cX9_becomeFrame 35 = .ok (.aload_n 2, 1) := by decide +kernel
theorem dX9_becomeFrame_36 : decode cX9_becomeFrame 36 = .ok (.iload_n 3, 1) := by decide +kernel
theorem dX9_becomeFrame_37 : decode cX9_becomeFrame 37 = .ok (.invokevirtual 52, 3) := by decide +kernel
theorem dX9_becomeFrame_40 : decode cX9_becomeFrame 40 = .ok (.putfield 34, 3) := by decide +kernel
theorem dX9_becomeFrame_43 : decode cX9_becomeFrame 43 = .ok (.aload_n 0, 1) := by decide +kernel
theorem dX9_becomeFrame_44 : decode cX9_becomeFrame 44 = .ok (.iconst 0, 1) := by decide +kernel
theorem dX9_becomeFrame_45 : decode cX9_becomeFrame 45 = .ok (.putfield 37, 3) := by decide +kernel
theorem dX9_becomeFrame_48 : decode cX9_becomeFrame 48 = .ok (.aload_n 0, 1) := by decide +kernel
theorem dX9_becomeFrame_49 : decode cX9_becomeFrame 49 = .ok (.aload_n 2, 1) := by decide +kernel
theorem dX9_becomeFrame_50 : decode cX9_becomeFrame 50 = .ok (.iload_n 3, 1) := by decide +kernel
theorem dX9_becomeFrame_51 : decode cX9_becomeFrame 51 = .ok (.invokevirtual 55, 3) := by decide +kernel
theorem dX9_becomeFrame_54 : decode cX9_becomeFrame 54 = .ok (.putfield 40, 3) := by decide +kernel
theorem dX9_becomeFrame_57 : decode cX9_becomeFrame 57 = .ok (.aload_n 0, 1) := by decide +kernel
theorem dX9_becomeFrame_58 : decode cX9_becomeFrame 58 = .ok (.aload_n 2, 1) := by decide +kernel
theorem dX9_becomeFrame_59 : decode cX9_becomeFrame 59 = .ok (.iload_n 3, 1) := by decide +kernel
theorem dX9_becomeFrame_60 : decode cX9_becomeFrame 60 = .ok (.invokevirtual 58, 3) := by decide +kernel
theorem dX9_becomeFrame_63 : decode cX9_becomeFrame 63 = .ok (.putfield 43, 3) := by decide +kernel
theorem dX9_becomeFrame_66 : decode cX9_becomeFrame 66 = .ok (.return_, 1) := by decide +kernel
theorem dX9_becomeToken_0 : decode cX9_becomeToken 0 = .ok (.aload_n 0, 1) := by decide +kernel
theorem dX9_becomeToken_1 : decode cX9_becomeToken 1 = .ok (.iconst 1, 1) := by decide +kernel
theorem dX9_becomeToken_2 : decode cX9_becomeToken 2 = .ok (.putfield 9, 3) := by decide +kernel
theorem dX9_becomeToken_5 : decode cX9_becomeToken 5 = .ok (.aload_n 0, 1) := by decide +kernel
theorem dX9_becomeToken_6 : decode cX9_becomeToken 6 = .ok (.iload_n 1, 1) := by decide +kernel
theorem dX9_becomeToken_7 : decode cX9_becomeToken 7 = .ok (.putfield 15, 3) := by decide +kernel
theorem dX9_becomeToken_10 : decode cX9_becomeToken 10 = .ok (.aload_n 0, 1) := by decide +kernel
theorem dX9_becomeToken_11 : decode cX9_becomeToken 11 = .ok (.iload_n 2, 1) := by decide +kernel
theorem dX9_becomeToken_12 : decode cX9_becomeToken 12 = .ok (.putfield 18, 3) := by decide +kernel
theorem dX9_becomeToken_15 : decode cX9_becomeToken 15 = .ok (.aload_n 0, 1) := by decide +kernel
theorem dX9_becomeToken_16 : decode cX9_becomeToken 16 = .ok (.iload_n 3, 1) := by decide +kernel
theorem dX9_becomeToken_17 : decode cX9_becomeToken 17 = .ok (.putfield 21, 3) := by decide +kernel
theorem dX9_becomeToken_20 : decode cX9_becomeToken 20 = .ok (.aload_n 0, 1) := by decide +kernel
theorem dX9_becomeToken_21 : decode cX9_becomeToken 21 = .ok (.iconst 0, 1) := by decide +kernel
theorem dX9_becomeToken_22 : decode cX9_becomeToken 22 = .ok (.putfield 24, 3) := by decide +kernel
theorem dX9_becomeToken_25 : decode cX9_becomeToken 25 = .ok (.return_, 1) := by decide +kernel
theorem dX9_clear_0 : decode cX9_clear 0 = .ok (.aload_n 0, 1) := by decide +kernel
theorem dX9_clear_1 : decode cX9_clear 1 = .ok (.iconst 0, 1) := by decide +kernel
theorem dX9_clear_2 : decode cX9_clear 2 = .ok (.putfield 9, 3) := by decide +kernel
theorem dX9_clear_5 : decode cX9_clear 5 = .ok (.aload_n 0, 1) := by decide +kernel
theorem dX9_clear_6 : decode cX9_clear 6 = .ok (.iconst (-1), 1) := by decide +kernel
theorem dX9_clear_7 : decode cX9_clear 7 = .ok (.putfield 15, 3) := by decide +kernel
theorem dX9_clear_10 : decode cX9_clear 10 = .ok (.aload_n 0, 1) := by decide +kernel
theorem dX9_clear_11 : decode cX9_clear 11 = .ok (.iconst 0, 1) := by decide +kernel
theorem dX9_clear_12 : decode cX9_clear 12 = .ok (.putfield 18, 3) := by decide +kernel
theorem dX9_clear_15 : decode cX9_clear 15 = .ok (.aload_n 0, 1) := by decide +kernel
theorem dX9_clear_16 : decode cX9_clear 16 = .ok (.iconst 0, 1) := by decide +kernel
theorem dX9_clear_17 : decode cX9_clear 17 = .ok (.putfield 21, 3) := by decide +kernel
theorem dX9_clear_20 : decode cX9_clear 20 = .ok (.aload_n 0, 1) := by decide +kernel
theorem dX9_clear_21 : decode cX9_clear 21 = .ok (.iconst 0, 1) := by decide +kernel
theorem dX9_clear_22 : decode cX9_clear 22 = .ok (.putfield 24, 3) := by decide +kernel
theorem dX9_clear_25 : decode cX9_clear 25 = .ok (.return_, 1) := by decide +kernel
theorem dX9_copyFrom_0 : decode cX9_copyFrom 0 = .ok (.aload_n 0, 1) := by decide +kernel
theorem dX9_copyFrom_1 : decode cX9_copyFrom 1 = .ok (.aload_n 1, 1) := by decide +kernel
theorem dX9_copyFrom_2 : decode cX9_copyFrom 2 = .ok (.getfield 9, 3) := by decide +kernel
theorem dX9_copyFrom_5 : decode cX9_copyFrom 5 = .ok (.putfield 9, 3) := by decide +kernel
theorem dX9_copyFrom_8 : decode cX9_copyFrom 8 = .ok (.aload_n 0, 1) := by decide +kernel
theorem dX9_copyFrom_9 : decode cX9_copyFrom 9 = .ok (.aload_n 1, 1) := by decide +kernel
theorem dX9_copyFrom_10 : decode cX9_copyFrom 10 = .ok (.getfield 15, 3) := by decide +kernel
theorem dX9_copyFrom_13 : decode cX9_copyFrom 13 = .ok (.putfield 15, 3) := by decide +kernel
theorem dX9_copyFrom_16 : decode cX9_copyFrom 16 = .ok (.aload_n 0, 1) := by decide +kernel
theorem dX9_copyFrom_17 : decode cX9_copyFrom 17 = .ok (.aload_n 1, 1) := by decide +kernel
theorem dX9_copyFrom_18 : decode cX9_copyFrom 18 = .ok (.getfield 18, 3) := by decide +kernel
theorem dX9_copyFrom_21 : decode cX9_copyFrom 21 = .ok (.putfield 18, 3) := by decide +kernel
theorem dX9_copyFrom_24 : decode cX9_copyFrom 24 = .ok (.aload_n 0, 1) := by decide +kernel
theorem dX9_copyFrom_25 : decode cX9_copyFrom 25 = .ok (.aload_n 1, 1) := by decide +kernel
theorem dX9_copyFrom_26 : decode cX9_copyFrom 26 = .ok (.getfield 21, 3) := by decide +kernel
theorem dX9_copyFrom_29 : decode cX9_copyFrom 29 = .ok (.putfield 21, 3) := by decide +kernel
theorem dX9_copyFrom_32 : decode cX9_copyFrom 32 = .ok (.aload_n 0, 1) := by decide +kernel
theorem dX9_copyFrom_33 : decode cX9_copyFrom 33 = .ok (.aload_n 1, 1) := by decide +kernel
theorem dX9_copyFrom_34 : decode cX9_copyFrom 34 = .ok (.getfield 24, 3) := by decide +kernel
theorem dX9_copyFrom_37 : decode cX9_copyFrom 37 = .ok (.putfield 24, 3) := by decide +kernel
theorem dX9_copyFrom_40 : decode cX9_copyFrom 40 = .ok (.aload_n 0, 1) := by decide +kernel
theorem dX9_copyFrom_41 : decode cX9_copyFrom 41 = .ok (.aload_n 1, 1) := by decide +kernel
theorem dX9_copyFrom_42 : decode cX9_copyFrom 42 = .ok (.getfield 28, 3) := by decide +kernel
theorem dX9_copyFrom_45 : decode cX9_copyFrom 45 = .ok (.putfield 28, 3) := by decide +kernel
theorem dX9_copyFrom_48 : decode cX9_copyFrom 48 = .ok (.aload_n 0, 1) := by decide +kernel
theorem dX9_copyFrom_49 : decode cX9_copyFrom 49 = .ok (.aload_n 1, 1) := by decide +kernel
theorem dX9_copyFrom_50 : decode cX9_copyFrom 50 = .ok (.getfield 31, 3) := by decide +kernel
theorem dX9_copyFrom_53 : decode cX9_copyFrom 53 = .ok (.putfield 31, 3) := by decide +kernel
theorem dX9_copyFrom_56 : decode cX9_copyFrom 56 = .ok (.aload_n 0, 1) := by decide +kernel
theorem dX9_copyFrom_57 : decode cX9_copyFrom 57 = .ok (.aload_n 1, 1) := by decide +kernel
theorem dX9_copyFrom_58 : decode cX9_copyFrom 58 = .ok (.getfield 34, 3) := by decide +kernel
theorem dX9_copyFrom_61 : decode cX9_copyFrom 61 = .ok (.putfield 34, 3) := by decide +kernel
theorem dX9_copyFrom_64 : decode cX9_copyFrom 64 = .ok (.aload_n 0, 1) := by decide +kernel
theorem dX9_copyFrom_65 : decode cX9_copyFrom 65 = .ok (.aload_n 1, 1) := by decide +kernel
theorem dX9_copyFrom_66 : decode cX9_copyFrom 66 = .ok (.getfield 37, 3) := by decide +kernel
theorem dX9_copyFrom_69 : decode cX9_copyFrom 69 = .ok (.putfield 37, 3) := by decide +kernel
theorem dX9_copyFrom_72 : decode cX9_copyFrom 72 = .ok (.aload_n 0, 1) := by decide +kernel
theorem dX9_copyFrom_73 : decode cX9_copyFrom 73 = .ok (.aload_n 1, 1) := by decide +kernel
theorem dX9_copyFrom_74 : decode cX9_copyFrom 74 = .ok (.getfield 40, 3) := by decide +kernel
theorem dX9_copyFrom_77 : decode cX9_copyFrom 77 = .ok (.putfield 40, 3) := by decide +kernel
theorem dX9_copyFrom_80 : decode cX9_copyFrom 80 = .ok (.aload_n 0, 1) := by decide +kernel
theorem dX9_copyFrom_81 : decode cX9_copyFrom 81 = .ok (.aload_n 1, 1) := by decide +kernel
theorem dX9_copyFrom_82 : decode cX9_copyFrom 82 = .ok (.getfield 43, 3) := by decide +kernel
theorem dX9_copyFrom_85 : decode cX9_copyFrom 85 = .ok (.putfield 43, 3) := by decide +kernel
theorem dX9_copyFrom_88 : decode cX9_copyFrom 88 = .ok (.return_, 1) := by decide +kernel
theorem dX9_tell_0 : decode cX9_tell 0 = .ok (.iload_n 1, 1) := by decide +kernel
theorem dX9_tell_1 : decode cX9_tell 1 = .ok (.tableswitch 121 0 9 #[55, 60, 65, 70, 75, 88, 93, 98, 103, 116], 55) := by decide +kernel
theorem dX9_tell_56 : decode cX9_tell 56 = .ok (.aload_n 0, 1) := by decide +kernel
theorem dX9_tell_57 : decode cX9_tell 57 = .ok (.getfield 9, 3) := by decide +kernel
theorem dX9_tell_60 : decode cX9_tell 60 = .ok (.ireturn, 1) := by decide +kernel
theorem dX9_tell_61 : decode cX9_tell 61 = .ok (.aload_n 0, 1) := by decide +kernel
theorem dX9_tell_62 : decode cX9_tell 62 = .ok (.getfield 15, 3) := by decide +kernel
theorem dX9_tell_65 : decode cX9_tell 65 = .ok (.ireturn, 1) := by decide +kernel
theorem dX9_tell_66 : decode cX9_tell 66 = .ok (.aload_n 0, 1) := by decide +kernel
theorem dX9_tell_67 : decode cX9_tell 67 = .ok (.getfield 18, 3) := by decide +kernel
theorem dX9_tell_70 : decode cX9_tell 70 = .ok (.ireturn, 1) := by decide +kernel
theorem dX9_tell_71 : decode cX9_tell 71 = .ok (.aload_n 0, 1) := by decide +kernel
theorem dX9_tell_72 : decode cX9_tell 72 = .ok (.getfield 21, 3) := by decide +kernel
theorem dX9_tell_75 : decode cX9_tell 75 = .ok (.ireturn, 1) := by decide +kernel
theorem dX9_tell_76 : decode cX9_tell 76 = .ok (.aload_n 0, 1) := by decide +kernel
theorem dX9_tell_77 : decode cX9_tell 77 = .ok (.getfield 24, 3) := by decide +kernel
theorem dX9_tell_80 : decode cX9_tell 80 = .ok (.ifCond .eq 7, 3) := by decide +kernel
theorem dX9_tell_83 : decode cX9_tell 83 = .ok (.iconst 1, 1) := by decide +kernel
theorem dX9_tell_84 : decode cX9_tell 84 = .ok (.goto 4, 3) := by decide +kernel
theorem dX9_tell_87 : decode cX9_tell 87 = .ok (.iconst 0, 1) := by decide +kernel
theorem dX9_tell_88 : decode cX9_tell 88 = .ok (.ireturn, 1) := by decide +kernel
theorem dX9_tell_89 : decode cX9_tell 89 = .ok (.aload_n 0, 1) := by decide +kernel
theorem dX9_tell_90 : decode cX9_tell 90 = .ok (.getfield 28, 3) := by decide +kernel
theorem dX9_tell_93 : decode cX9_tell 93 = .ok (.ireturn, 1) := by decide +kernel
theorem dX9_tell_94 : decode cX9_tell 94 = .ok (.aload_n 0, 1) := by decide +kernel
theorem dX9_tell_95 : decode cX9_tell 95 = .ok (.getfield 31, 3) := by decide +kernel
theorem dX9_tell_98 : decode cX9_tell 98 = .ok (.ireturn, 1) := by decide +kernel
theorem dX9_tell_99 : decode cX9_tell 99 = .ok (.aload_n 0, 1) := by decide +kernel
theorem dX9_tell_100 : decode cX9_tell 100 = .ok (.getfield 34, 3) := by decide +kernel
theorem dX9_tell_103 : decode cX9_tell 103 = .ok (.ireturn, 1) := by decide +kernel
theorem dX9_tell_104 : decode cX9_tell 104 = .ok (.aload_n 0, 1) := by decide +kernel
theorem dX9_tell_105 : decode cX9_tell 105 = .ok (.getfield 37, 3) := by decide +kernel
theorem dX9_tell_108 : decode cX9_tell 108 = .ok (.ifCond .eq 7, 3) := by decide +kernel
theorem dX9_tell_111 : decode cX9_tell 111 = .ok (.iconst 1, 1) := by decide +kernel
theorem dX9_tell_112 : decode cX9_tell 112 = .ok (.goto 4, 3) := by decide +kernel
theorem dX9_tell_115 : decode cX9_tell 115 = .ok (.iconst 0, 1) := by decide +kernel
theorem dX9_tell_116 : decode cX9_tell 116 = .ok (.ireturn, 1) := by decide +kernel
theorem dX9_tell_117 : decode cX9_tell 117 = .ok (.aload_n 0, 1) := by decide +kernel
theorem dX9_tell_118 : decode cX9_tell 118 = .ok (.getfield 40, 3) := by decide +kernel
theorem dX9_tell_121 : decode cX9_tell 121 = .ok (.ireturn, 1) := by decide +kernel
theorem dX9_tell_122 : decode cX9_tell 122 = .ok (.iconst (-1), 1) := by decide +kernel
theorem dX9_tell_123 : decode cX9_tell 123 = .ok (.ireturn, 1) := by decide +kernel
