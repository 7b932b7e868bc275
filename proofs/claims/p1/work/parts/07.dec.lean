theorem dJ6_bitCount_0f7a4_0 : decode cJ6_bitCount_0f7a4 0 = .ok (.iload_n 0, 1) := by decide +kernel
theorem dJ6_bitCount_0f7a4_1 : decode cJ6_bitCount_0f7a4 1 = .ok (.iload_n 0, 1) := by decide +kernel
theorem dJ6_bitCount_0f7a4_2 : decode cJ6_bitCount_0f7a4 2 = .ok (.iconst 1, 1) := by decide +kernel
theorem dJ6_bitCount_0f7a4_3 : decode cJ6_bitCount_0f7a4 3 = .ok (.iushr, 1) := by decide +kernel
theorem dJ6_bitCount_0f7a4_4 : decode cJ6_bitCount_0f7a4 4 = .ok (.ldc_w 265, 3) := by decide +kernel
theorem dJ6_bitCount_0f7a4_7 : decode cJ6_bitCount_0f7a4 7 = .ok (.iand, 1) := by decide +kernel
theorem dJ6_bitCount_0f7a4_8 : decode cJ6_bitCount_0f7a4 8 = .ok (.isub, 1) := by decide +kernel
theorem dJ6_bitCount_0f7a4_9 : decode cJ6_bitCount_0f7a4 9 = .ok (.istore_n 0, 1) := by decide +kernel
theorem dJ6_bitCount_0f7a4_10 : decode cJ6_bitCount_0f7a4 10 = .ok (.iload_n 0, 1) := by decide +kernel
theorem dJ6_bitCount_0f7a4_11 : decode cJ6_bitCount_0f7a4 11 = .ok (.ldc_w 266, 3) := by decide +kernel
theorem dJ6_bitCount_0f7a4_14 : decode cJ6_bitCount_0f7a4 14 = .ok (.iand, 1) := by decide +kernel
theorem dJ6_bitCount_0f7a4_15 : decode cJ6_bitCount_0f7a4 15 = .ok (.iload_n 0, 1) := by decide +kernel
theorem dJ6_bitCount_0f7a4_16 : decode cJ6_bitCount_0f7a4 16 = .ok (.iconst 2, 1) := by decide +kernel
theorem dJ6_bitCount_0f7a4_17 : decode cJ6_bitCount_0f7a4 17 = .ok (.iushr, 1) := by decide +kernel
theorem dJ6_bitCount_0f7a4_18 : decode cJ6_bitCount_0f7a4 18 = .ok (.ldc_w 266, 3) := by decide +kernel
theorem dJ6_bitCount_0f7a4_21 : decode cJ6_bitCount_0f7a4 21 = .ok (.iand, 1) := by decide +kernel
theorem dJ6_bitCount_0f7a4_22 : decode cJ6_bitCount_0f7a4 22 = .ok (.iadd, 1) := by decide +kernel
theorem dJ6_bitCount_0f7a4_23 : decode cJ6_bitCount_0f7a4 23 = .ok (.istore_n 0, 1) := by decide +kernel
theorem dJ6_bitCount_0f7a4_24 : decode cJ6_bitCount_0f7a4 24 = .ok (.iload_n 0, 1) := by decide +kernel
theorem dJ6_bitCount_0f7a4_25 : decode cJ6_bitCount_0f7a4 25 = .ok (.iload_n 0, 1) := by decide +kernel
theorem dJ6_bitCount_0f7a4_26 : decode cJ6_bitCount_0f7a4 26 = .ok (.iconst 4, 1) := by decide +kernel
theorem dJ6_bitCount_0f7a4_27 : decode cJ6_bitCount_0f7a4 27 = .ok (.iushr, 1) := by decide +kernel
theorem dJ6_bitCount_0f7a4_28 : decode cJ6_bitCount_0f7a4 28 = .ok (.iadd, 1) := by decide +kernel
theorem dJ6_bitCount_0f7a4_29 : decode cJ6_bitCount_0f7a4 29 = .ok (.ldc_w 267, 3) := by decide +kernel
theorem dJ6_bitCount_0f7a4_32 : decode cJ6_bitCount_0f7a4 32 = .ok (.iand, 1) := by decide +kernel
theorem dJ6_bitCount_0f7a4_33 : decode cJ6_bitCount_0f7a4 33 = .ok (.istore_n 0, 1) := by decide +kernel
theorem dJ6_bitCount_0f7a4_34 : decode cJ6_bitCount_0f7a4 34 = .ok (.iload_n 0, 1) := by decide +kernel
theorem dJ6_bitCount_0f7a4_35 : decode cJ6_bitCount_0f7a4 35 = .ok (.iload_n 0, 1) := by decide +kernel
theorem dJ6_bitCount_0f7a4_36 : decode cJ6_bitCount_0f7a4 36 = .ok (.bipush 8, 2) := by decide +kernel
theorem dJ6_bitCount_0f7a4_38 : decode cJ6_bitCount_0f7a4 38 = .ok (.iushr, 1) := by decide +kernel
theorem dJ6_bitCount_0f7a4_39 : decode cJ6_bitCount_0f7a4 39 = .ok (.iadd, 1) := by decide +kernel
theorem dJ6_bitCount_0f7a4_40 : decode cJ6_bitCount_0f7a4 40 = .ok (.istore_n 0, 1) := by decide +kernel
theorem dJ6_bitCount_0f7a4_41 : decode cJ6_bitCount_0f7a4 41 = .ok (.iload_n 0, 1) := by decide +kernel
theorem dJ6_bitCount_0f7a4_42 : decode cJ6_bitCount_0f7a4 42 = .ok (.iload_n 0, 1) := by decide +kernel
theorem dJ6_bitCount_0f7a4_43 : decode cJ6_bitCount_0f7a4 43 = .ok (.bipush 16, 2) := by decide +kernel
theorem dJ6_bitCount_0f7a4_45 : decode cJ6_bitCount_0f7a4 45 = .ok (.iushr, 1) := by decide +kernel
theorem dJ6_bitCount_0f7a4_46 : decode cJ6_bitCount_0f7a4 46 = .ok (.iadd, 1) := by decide +kernel
theorem dJ6_bitCount_0f7a4_47 : decode cJ6_bitCount_0f7a4 47 = .ok (.istore_n 0, 1) := by decide +kernel
theorem dJ6_bitCount_0f7a4_48 : decode cJ6_bitCount_0f7a4 48 = .ok (.iload_n 0, 1) := by decide +kernel
theorem dJ6_bitCount_0f7a4_49 : decode cJ6_bitCount_0f7a4 49 = .ok (.bipush 63, 2) := by decide +kernel
theorem dJ6_bitCount_0f7a4_51 : decode cJ6_bitCount_0f7a4 51 = .ok (.iand, 1) := by decide +kernel
theorem dJ6_bitCount_0f7a4_52 : decode cJ6_bitCount_0f7a4 52 = .ok (.ireturn, 1) := by decide +kernel
theorem dJ7_fill_53178_0 : decode cJ7_fill_53178 0 = .ok (.iconst 0, 1) := by decide +kernel
theorem dJ7_fill_53178_1 : decode cJ7_fill_53178 1 = .ok (.istore_n 2, 1) := by decide +kernel
theorem dJ7_fill_53178_2 : decode cJ7_fill_53178 2 = .ok (.aload_n 0, 1) := by decide +kernel
theorem dJ7_fill_53178_3 : decode cJ7_fill_53178 3 = .ok (.arraylength, 1) := by decide +kernel
theorem dJ7_fill_53178_4 : decode cJ7_fill_53178 4 = .ok (.istore_n 3, 1) := by decide +kernel
theorem dJ7_fill_53178_5 : decode cJ7_fill_53178 5 = .ok (.iload_n 2, 1) := by decide +kernel
theorem dJ7_fill_53178_6 : decode cJ7_fill_53178 6 = .ok (.iload_n 3, 1) := by decide +kernel
theorem dJ7_fill_53178_7 : decode cJ7_fill_53178 7 = .ok (.if_icmp .ge 13, 3) := by decide +kernel
theorem dJ7_fill_53178_10 : decode cJ7_fill_53178 10 = .ok (.aload_n 0, 1) := by decide +kernel
theorem dJ7_fill_53178_11 : decode cJ7_fill_53178 11 = .ok (.iload_n 2, 1) := by decide +kernel
theorem dJ7_fill_53178_12 : decode cJ7_fill_53178 12 = .ok (.iload_n 1, 1) := by decide +kernel
theorem dJ7_fill_53178_13 : decode cJ7_fill_53178 13 = .ok (.iastore, 1) := by decide +kernel
theorem dJ7_fill_53178_14 : decode cJ7_fill_53178 14 = .ok (.iinc 2 1, 3) := by decide +kernel
theorem dJ7_fill_53178_17 : decode cJ7_fill_53178 17 = .ok (.goto (-12), 3) := by decide +kernel
theorem dJ7_fill_53178_20 : decode cJ7_fill_53178 20 = .ok (.return_, 1) := by decide +kernel
theorem dX7_breakCounts_0 : decode cX7_breakCounts 0 = .ok (.aload_n 0, 1) := by decide +kernel
theorem dX7_breakCounts_1 : decode cX7_breakCounts 1 = .ok (.iconst (-1), 1) := by decide +kernel
theorem dX7_breakCounts_2 : decode cX7_breakCounts 2 = .ok (.invokevirtual 74, 3) := by decide +kernel
theorem dX7_breakCounts_5 : decode cX7_breakCounts 5 = .ok (.ireturn, 1) := by decide +kernel
theorem dX7_breakCountsWithout_0 : decode cX7_breakCountsWithout 0 = .ok (.aload_n 0, 1) := by decide +kernel
theorem dX7_breakCountsWithout_1 : decode cX7_breakCountsWithout 1 = .ok (.aload_n 0, 1) := by decide +kernel
theorem dX7_breakCountsWithout_2 : decode cX7_breakCountsWithout 2 = .ok (.getfield 35, 3) := by decide +kernel
theorem dX7_breakCountsWithout_5 : decode cX7_breakCountsWithout 5 = .ok (.invokevirtual 51, 3) := by decide +kernel
theorem dX7_breakCountsWithout_8 : decode cX7_breakCountsWithout 8 = .ok (.ifCond .ne 5, 3) := by decide +kernel
theorem dX7_breakCountsWithout_11 : decode cX7_breakCountsWithout 11 = .ok (.iconst 0, 1) := by decide +kernel
theorem dX7_breakCountsWithout_12 : decode cX7_breakCountsWithout 12 = .ok (.ireturn, 1) := by decide +kernel
theorem dX7_chiefIsOn_0 : decode cX7_chiefIsOn 0 = .ok (.aload_n 0, 1) := by decide +kernel
theorem dX7_chiefIsOn_1 : decode cX7_chiefIsOn 1 = .ok (.aload_n 0, 1) := by decide +kernel
theorem dX7_chiefIsOn_2 : decode cX7_chiefIsOn 2 = .ok (.getfield 32, 3) := by decide +kernel
theorem dX7_chiefIsOn_5 : decode cX7_chiefIsOn 5 = .ok (.invokevirtual 65, 3) := by decide +kernel
theorem dX7_chiefIsOn_8 : decode cX7_chiefIsOn 8 = .ok (.ireturn, 1) := by decide +kernel
theorem dX7_exists_0 : decode cX7_exists 0 = .ok (.iload_n 1, 1) := by decide +kernel
theorem dX7_exists_1 : decode cX7_exists 1 = .ok (.ifCond .lt 21, 3) := by decide +kernel
theorem dX7_exists_4 : decode cX7_exists 4 = .ok (.iload_n 1, 1) := by decide +kernel
theorem dX7_exists_5 : decode cX7_exists 5 = .ok (.aload_n 0, 1) := by decide +kernel
theorem dX7_exists_6 : decode cX7_exists 6 = .ok (.getfield 28, 3) := by decide +kernel
theorem dX7_exists_9 : decode cX7_exists 9 = .ok (.if_icmp .ge 13, 3) := by decide +kernel
theorem dX7_exists_22 : decode cX7_exists 22 = .ok (.iconst 0, 1) := by decide +kernel
theorem dX7_exists_23 : decode cX7_exists 23 = .ok (.ireturn, 1) := by decide +kernel
theorem dX7_greatestOn_0 : decode cX7_greatestOn 0 = .ok (.iconst (-1), 1) := by decide +kernel
theorem dX7_greatestOn_1 : decode cX7_greatestOn 1 = .ok (.istore_n 1, 1) := by decide +kernel
theorem dX7_greatestOn_2 : decode cX7_greatestOn 2 = .ok (.iconst (-1), 1) := by decide +kernel
theorem dX7_greatestOn_3 : decode cX7_greatestOn 3 = .ok (.istore_n 2, 1) := by decide +kernel
theorem dX7_greatestOn_4 : decode cX7_greatestOn 4 = .ok (.iconst 0, 1) := by decide +kernel
theorem dX7_greatestOn_5 : decode cX7_greatestOn 5 = .ok (.istore_n 3, 1) := by decide +kernel
theorem dX7_greatestOn_6 : decode cX7_greatestOn 6 = .ok (.iload_n 3, 1) := by decide +kernel
theorem dX7_greatestOn_7 : decode cX7_greatestOn 7 = .ok (.aload_n 0, 1) := by decide +kernel
theorem dX7_greatestOn_8 : decode cX7_greatestOn 8 = .ok (.getfield 28, 3) := by decide +kernel
theorem dX7_greatestOn_11 : decode cX7_greatestOn 11 = .ok (.if_icmp .ge 36, 3) := by decide +kernel
theorem dX7_greatestOn_47 : decode cX7_greatestOn 47 = .ok (.iload_n 1, 1) := by decide +kernel
theorem dX7_greatestOn_48 : decode cX7_greatestOn 48 = .ok (.ireturn, 1) := by decide +kernel
theorem dX7_isOn_0 : decode cX7_isOn 0 = .ok (.iload_n 1, 1) := by decide +kernel
theorem dX7_isOn_1 : decode cX7_isOn 1 = .ok (.ifCond .lt 30, 3) := by decide +kernel
theorem dX7_isOn_4 : decode cX7_isOn 4 = .ok (.iload_n 1, 1) := by decide +kernel
theorem dX7_isOn_5 : decode cX7_isOn 5 = .ok (.aload_n 0, 1) := by decide +kernel
theorem dX7_isOn_6 : decode cX7_isOn 6 = .ok (.getfield 28, 3) := by decide +kernel
theorem dX7_isOn_9 : decode cX7_isOn 9 = .ok (.if_icmp .ge 22, 3) := by decide +kernel
theorem dX7_isOn_31 : decode cX7_isOn 31 = .ok (.iconst 0, 1) := by decide +kernel
theorem dX7_isOn_32 : decode cX7_isOn 32 = .ok (.ireturn, 1) := by decide +kernel
theorem dX7_onBits_0 : decode cX7_onBits 0 = .ok (.iconst 0, 1) := by decide +kernel
theorem dX7_onBits_1 : decode cX7_onBits 1 = .ok (.istore_n 1, 1) := by decide +kernel
theorem dX7_onBits_2 : decode cX7_onBits 2 = .ok (.iconst 0, 1) := by decide +kernel
theorem dX7_onBits_3 : decode cX7_onBits 3 = .ok (.istore_n 2, 1) := by decide +kernel
theorem dX7_onBits_4 : decode cX7_onBits 4 = .ok (.iload_n 2, 1) := by decide +kernel
theorem dX7_onBits_5 : decode cX7_onBits 5 = .ok (.aload_n 0, 1) := by decide +kernel
theorem dX7_onBits_6 : decode cX7_onBits 6 = .ok (.getfield 28, 3) := by decide +kernel
theorem dX7_onBits_9 : decode cX7_onBits 9 = .ok (.if_icmp .ge 23, 3) := by decide +kernel
theorem dX7_onBits_32 : decode cX7_onBits 32 = .ok (.iload_n 1, 1) := by decide +kernel
theorem dX7_onBits_33 : decode cX7_onBits 33 = .ok (.ireturn, 1) := by decide +kernel
theorem dX7_onCount_0 : decode cX7_onCount 0 = .ok (.aload_n 0, 1) := by decide +kernel
theorem dX7_onCount_1 : decode cX7_onCount 1 = .ok (.invokevirtual 55, 3) := by decide +kernel
theorem dX7_onCount_4 : decode cX7_onCount 4 = .ok (.invokestatic 59, 3) := by decide +kernel
theorem dX7_onCount_7 : decode cX7_onCount 7 = .ok (.ireturn, 1) := by decide +kernel
theorem dX7_staleBits_0 : decode cX7_staleBits 0 = .ok (.iconst 0, 1) := by decide +kernel
theorem dX7_staleBits_1 : decode cX7_staleBits 1 = .ok (.istore_n 1, 1) := by decide +kernel
theorem dX7_staleBits_2 : decode cX7_staleBits 2 = .ok (.iconst 0, 1) := by decide +kernel
theorem dX7_staleBits_3 : decode cX7_staleBits 3 = .ok (.istore_n 2, 1) := by decide +kernel
theorem dX7_staleBits_4 : decode cX7_staleBits 4 = .ok (.iload_n 2, 1) := by decide +kernel
theorem dX7_staleBits_5 : decode cX7_staleBits 5 = .ok (.aload_n 0, 1) := by decide +kernel
theorem dX7_staleBits_6 : decode cX7_staleBits 6 = .ok (.getfield 28, 3) := by decide +kernel
theorem dX7_staleBits_9 : decode cX7_staleBits 9 = .ok (.if_icmp .ge 37, 3) := by decide +kernel
theorem dX7_staleBits_46 : decode cX7_staleBits 46 = .ok (.iload_n 1, 1) := by decide +kernel
theorem dX7_staleBits_47 : decode cX7_staleBits 47 = .ok (.ireturn, 1) := by decide +kernel
