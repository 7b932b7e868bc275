theorem dJ6_bitCount_0f7a4_0 : decode cJ6_bitCount_0f7a4 0 = .ok (.iload_n 0, 1) := by decide +kernel
theorem dJ6_bitCount_0f7a4_1 : decode cJ6_bitCount_0f7a4 1 = .ok (.iload_n 0, 1) := by decide +kernel
theorem dJ6_bitCount_0f7a4_2 : decode cJ6_bitCount_0f7a4 2 = .ok (.iconst 1, 1) := by decide +kernel
theorem dJ6_bitCount_0f7a4_3 : decode cJ6_bitCount_0f7a4 3 = .ok (.iushr, 1) := by decide +kernel
theorem dJ6_bitCount_0f7a4_4 : decode cJ6_bitCount_0f7a4 4 = .ok (.ldc_w 265, 3) := by decide +kernel
theorem dJ6_bitCount_0f7a4_7 : decode cJ6_bitCount_0f7a4 7 = .ok (.iand, 1) := by decide +kernel
theorem dJ6_bitCount_0f7a4_8 : decode cJ6_bitCount_0f7a4 8 = .ok (.isub, 1) := by decide +kernel
theorem dJ6_bitCount_0f7a4_9 : decode cJ6_bitCount_0f7a4 9 = .ok (.istore_n 0, 1) := by decide +kernel
theorem dJ6_bitCount_0f7a4_10 : decode cJ6_bitCount_0f7a4 10 = .ok (.iload_n 0, 1) := by decide +kernel
theorem dJ6_bitCount_0f7a4_11 : decode cJ6_bitCount_0f7a4 11 = .ok (.ldc_w 266, 3) := by decide +kernel
theorem dJ6_bitCount_0f7a4_14 : decode cJ6_bitCount_0f7a4 14 = .ok (.iand, 1) := by decide +kernel
theorem dJ6_bitCount_0f7a4_15 : decode cJ6_bitCount_0f7a4 15 = .ok (.iload_n 0, 1) := by decide +kernel
theorem dJ6_bitCount_0f7a4_16 : decode cJ6_bitCount_0f7a4 16 = .ok (.iconst 2, 1) := by decide +kernel
theorem dJ6_bitCount_0f7a4_17 : decode cJ6_bitCount_0f7a4 17 = .ok (.iushr, 1) := by decide +kernel
theorem dJ6_bitCount_0f7a4_18 : decode cJ6_bitCount_0f7a4 18 = .ok (.ldc_w 266, 3) := by decide +kernel
theorem dJ6_bitCount_0f7a4_21 : decode cJ6_bitCount_0f7a4 21 = .ok (.iand, 1) := by decide +kernel
theorem dJ6_bitCount_0f7a4_22 : decode cJ6_bitCount_0f7a4 22 = .ok (.iadd, 1) := by decide +kernel
theorem dJ6_bitCount_0f7a4_23 : decode cJ6_bitCount_0f7a4 23 = .ok (.istore_n 0, 1) := by decide +kernel
theorem dJ6_bitCount_0f7a4_24 : decode cJ6_bitCount_0f7a4 24 = .ok (.iload_n 0, 1) := by decide +kernel
theorem dJ6_bitCount_0f7a4_25 : decode cJ6_bitCount_0f7a4 25 = .ok (.iload_n 0, 1) := by decide +kernel
theorem dJ6_bitCount_0f7a4_26 : decode cJ6_bitCount_0f7a4 26 = .ok (.iconst 4, 1) := by decide +kernel
theorem dJ6_bitCount_0f7a4_27 : decode cJ6_bitCount_0f7a4 27 = .ok (.iushr, 1) := by decide +kernel
theorem dJ6_bitCount_0f7a4_28 : decode cJ6_bitCount_0f7a4 28 = .ok (.iadd, 1) := by decide +kernel
theorem dJ6_bitCount_0f7a4_29 : decode cJ6_bitCount_0f7a4 29 = .ok (.ldc_w 267, 3) := by decide +kernel
theorem dJ6_bitCount_0f7a4_32 : decode cJ6_bitCount_0f7a4 32 = .ok (.iand, 1) := by decide +kernel
theorem dJ6_bitCount_0f7a4_33 : decode cJ6_bitCount_0f7a4 33 = .ok (.istore_n 0, 1) := by decide +kernel
theorem dJ6_bitCount_0f7a4_34 : decode cJ6_bitCount_0f7a4 34 = .ok (.iload_n 0, 1) := by decide +kernel
theorem dJ6_bitCount_0f7a4_35 : decode cJ6_bitCount_0f7a4 35 = .ok (.iload_n 0, 1) := by decide +kernel
theorem dJ6_bitCount_0f7a4_36 : decode cJ6_bitCount_0f7a4 36 = .ok (.bipush 8, 2) := by decide +kernel
theorem dJ6_bitCount_0f7a4_38 : decode cJ6_bitCount_0f7a4 38 = .ok (.iushr, 1) := by decide +kernel
theorem dJ6_bitCount_0f7a4_39 : decode cJ6_bitCount_0f7a4 39 = .ok (.iadd, 1) := by decide +kernel
theorem dJ6_bitCount_0f7a4_40 : decode cJ6_bitCount_0f7a4 40 = .ok (.istore_n 0, 1) := by decide +kernel
theorem dJ6_bitCount_0f7a4_41 : decode cJ6_bitCount_0f7a4 41 = .ok (.iload_n 0, 1) := by decide +kernel
theorem dJ6_bitCount_0f7a4_42 : decode cJ6_bitCount_0f7a4 42 = .ok (.iload_n 0, 1) := by decide +kernel
theorem dJ6_bitCount_0f7a4_43 : decode cJ6_bitCount_0f7a4 43 = .ok (.bipush 16, 2) := by decide +kernel
theorem dJ6_bitCount_0f7a4_45 : decode cJ6_bitCount_0f7a4 45 = .ok (.iushr, 1) := by decide +kernel
theorem dJ6_bitCount_0f7a4_46 : decode cJ6_bitCount_0f7a4 46 = .ok (.iadd, 1) := by decide +kernel
theorem dJ6_bitCount_0f7a4_47 : decode cJ6_bitCount_0f7a4 47 = .ok (.istore_n 0, 1) := by decide +kernel
theorem dJ6_bitCount_0f7a4_48 : decode cJ6_bitCount_0f7a4 48 = .ok (.iload_n 0, 1) := by decide +kernel
theorem dJ6_bitCount_0f7a4_49 : decode cJ6_bitCount_0f7a4 49 = .ok (.bipush 63, 2) := by decide +kernel
theorem dJ6_bitCount_0f7a4_51 : decode cJ6_bitCount_0f7a4 51 = .ok (.iand, 1) := by decide +kernel
theorem dJ6_bitCount_0f7a4_52 : decode cJ6_bitCount_0f7a4 52 = .ok (.ireturn, 1) := by decide +kernel
theorem dJ7_fill_53178_0 : decode cJ7_fill_53178 0 = .ok (.iconst 0, 1) := by decide +kernel
theorem dJ7_fill_53178_1 : decode cJ7_fill_53178 1 = .ok (.istore_n 2, 1) := by decide +kernel
theorem dJ7_fill_53178_2 : decode cJ7_fill_53178 2 = .ok (.aload_n 0, 1) := by decide +kernel
theorem dJ7_fill_53178_3 : decode cJ7_fill_53178 3 = .ok (.arraylength, 1) := by decide +kernel
theorem dJ7_fill_53178_4 : decode cJ7_fill_53178 4 = .ok (.istore_n 3, 1) := by decide +kernel
theorem dJ7_fill_53178_5 : decode cJ7_fill_53178 5 = .ok (.iload_n 2, 1) := by decide +kernel
theorem dJ7_fill_53178_6 : decode cJ7_fill_53178 6 = .ok (.iload_n 3, 1) := by decide +kernel
theorem dJ7_fill_53178_7 : decode cJ7_fill_53178 7 = .ok (.if_icmp .ge 13, 3) := by decide +kernel
theorem dJ7_fill_53178_10 : decode cJ7_fill_53178 10 = .ok (.aload_n 0, 1) := by decide +kernel
theorem dJ7_fill_53178_11 : decode cJ7_fill_53178 11 = .ok (.iload_n 2, 1) := by decide +kernel
theorem dJ7_fill_53178_12 : decode cJ7_fill_53178 12 = .ok (.iload_n 1, 1) := by decide +kernel
theorem dJ7_fill_53178_13 : decode cJ7_fill_53178 13 = .ok (.iastore, 1) := by decide +kernel
theorem dJ7_fill_53178_14 : decode cJ7_fill_53178 14 = .ok (.iinc 2 1, 3) := by decide +kernel
theorem dJ7_fill_53178_17 : decode cJ7_fill_53178 17 = .ok (.goto (-12), 3) := by decide +kernel
theorem dJ7_fill_53178_20 : decode cJ7_fill_53178 20 = .ok (.return_, 1) := by decide +kernel
theorem dX0_agesOf_0 : decode cX0_agesOf 0 = .ok (.iload_n 1, 1) := by decide +kernel
theorem dX0_agesOf_1 : decode cX0_agesOf 1 = .ok (.ifCond .lt 18, 3) := by decide +kernel
theorem dX0_agesOf_4 : decode cX0_agesOf 4 = .ok (.iload_n 1, 1) := by decide +kernel
theorem dX0_agesOf_5 : decode cX0_agesOf 5 = .ok (.bipush 8, 2) := by decide +kernel
theorem dX0_agesOf_7 : decode cX0_agesOf 7 = .ok (.if_icmp .ge 12, 3) := by decide +kernel
theorem dX0_agesOf_10 : decode cX0_agesOf 10 = .ok (.aload_n 0, 1) := by decide +kernel
theorem dX0_agesOf_11 : decode cX0_agesOf 11 = .ok (.getfield 18, 3) := by decide +kernel
theorem dX0_agesOf_14 : decode cX0_agesOf 14 = .ok (.iload_n 1, 1) := by decide +kernel
theorem dX0_agesOf_15 : decode cX0_agesOf 15 = .ok (.iaload, 1) := by decide +kernel
theorem dX0_agesOf_16 : decode cX0_agesOf 16 = .ok (.goto 4, 3) := by decide +kernel
theorem dX0_agesOf_19 : decode cX0_agesOf 19 = .ok (.iconst 0, 1) := by decide +kernel
theorem dX0_agesOf_20 : decode cX0_agesOf 20 = .ok (.ireturn, 1) := by decide +kernel
theorem dX0_clear_0 : decode cX0_clear 0 = .ok (.aload_n 0, 1) := by decide +kernel
theorem dX0_clear_1 : decode cX0_clear 1 = .ok (.getfield 9, 3) := by decide +kernel
theorem dX0_clear_4 : decode cX0_clear 4 = .ok (.iconst 0, 1) := by decide +kernel
theorem dX0_clear_5 : decode cX0_clear 5 = .ok (.invokestatic 31, 3) := by decide +kernel
theorem dX0_clear_8 : decode cX0_clear 8 = .ok (.aload_n 0, 1) := by decide +kernel
theorem dX0_clear_9 : decode cX0_clear 9 = .ok (.getfield 15, 3) := by decide +kernel
theorem dX0_clear_12 : decode cX0_clear 12 = .ok (.iconst 0, 1) := by decide +kernel
theorem dX0_clear_13 : decode cX0_clear 13 = .ok (.invokestatic 31, 3) := by decide +kernel
theorem dX0_clear_16 : decode cX0_clear 16 = .ok (.aload_n 0, 1) := by decide +kernel
theorem dX0_clear_17 : decode cX0_clear 17 = .ok (.getfield 18, 3) := by decide +kernel
theorem dX0_clear_20 : decode cX0_clear 20 = .ok (.iconst 0, 1) := by decide +kernel
theorem dX0_clear_21 : decode cX0_clear 21 = .ok (.invokestatic 31, 3) := by decide +kernel
theorem dX0_clear_24 : decode cX0_clear 24 = .ok (.aload_n 0, 1) := by decide +kernel
theorem dX0_clear_25 : decode cX0_clear 25 = .ok (.iconst 0, 1) := by decide +kernel
theorem dX0_clear_26 : decode cX0_clear 26 = .ok (.putfield 27, 3) := by decide +kernel
theorem dX0_clear_29 : decode cX0_clear 29 = .ok (.return_, 1) := by decide +kernel
theorem dX0_copyFrom_0 : decode cX0_copyFrom 0 = .ok (.aload_n 1, 1) := by decide +kernel
theorem dX0_copyFrom_1 : decode cX0_copyFrom 1 = .ok (.getfield 9, 3) := by decide +kernel
theorem dX0_copyFrom_4 : decode cX0_copyFrom 4 = .ok (.iconst 0, 1) := by decide +kernel
theorem dX0_copyFrom_5 : decode cX0_copyFrom 5 = .ok (.aload_n 0, 1) := by decide +kernel
theorem dX0_copyFrom_6 : decode cX0_copyFrom 6 = .ok (.getfield 9, 3) := by decide +kernel
theorem dX0_copyFrom_9 : decode cX0_copyFrom 9 = .ok (.iconst 0, 1) := by decide +kernel
theorem dX0_copyFrom_10 : decode cX0_copyFrom 10 = .ok (.bipush 10, 2) := by decide +kernel
theorem dX0_copyFrom_12 : decode cX0_copyFrom 12 = .ok (.invokestatic 37, 3) := by decide +kernel
theorem dX0_copyFrom_15 : decode cX0_copyFrom 15 = .ok (.aload_n 1, 1) := by decide +kernel
theorem dX0_copyFrom_16 : decode cX0_copyFrom 16 = .ok (.getfield 15, 3) := by decide +kernel
theorem dX0_copyFrom_19 : decode cX0_copyFrom 19 = .ok (.iconst 0, 1) := by decide +kernel
theorem dX0_copyFrom_20 : decode cX0_copyFrom 20 = .ok (.aload_n 0, 1) := by decide +kernel
theorem dX0_copyFrom_21 : decode cX0_copyFrom 21 = .ok (.getfield 15, 3) := by decide +kernel
theorem dX0_copyFrom_24 : decode cX0_copyFrom 24 = .ok (.iconst 0, 1) := by decide +kernel
theorem dX0_copyFrom_25 : decode cX0_copyFrom 25 = .ok (.bipush 8, 2) := by decide +kernel
theorem dX0_copyFrom_27 : decode cX0_copyFrom 27 = .ok (.invokestatic 37, 3) := by decide +kernel
theorem dX0_copyFrom_30 : decode cX0_copyFrom 30 = .ok (.aload_n 1, 1) := by decide +kernel
theorem dX0_copyFrom_31 : decode cX0_copyFrom 31 = .ok (.getfield 18, 3) := by decide +kernel
theorem dX0_copyFrom_34 : decode cX0_copyFrom 34 = .ok (.iconst 0, 1) := by decide +kernel
theorem dX0_copyFrom_35 : decode cX0_copyFrom 35 = .ok (.aload_n 0, 1) := by decide +kernel
theorem dX0_copyFrom_36 : decode cX0_copyFrom 36 = .ok (.getfield 18, 3) := by decide +kernel
theorem dX0_copyFrom_39 : decode cX0_copyFrom 39 = .ok (.iconst 0, 1) := by decide +kernel
theorem dX0_copyFrom_40 : decode cX0_copyFrom 40 = .ok (.bipush 8, 2) := by decide +kernel
theorem dX0_copyFrom_42 : decode cX0_copyFrom 42 = .ok (.invokestatic 37, 3) := by decide +kernel
theorem dX0_copyFrom_45 : decode cX0_copyFrom 45 = .ok (.aload_n 1, 1) := by decide +kernel
theorem dX0_copyFrom_46 : decode cX0_copyFrom 46 = .ok (.getfield 21, 3) := by decide +kernel
theorem dX0_copyFrom_49 : decode cX0_copyFrom 49 = .ok (.iconst 0, 1) := by decide +kernel
theorem dX0_copyFrom_50 : decode cX0_copyFrom 50 = .ok (.aload_n 0, 1) := by decide +kernel
theorem dX0_copyFrom_51 : decode cX0_copyFrom 51 = .ok (.getfield 21, 3) := by decide +kernel
theorem dX0_copyFrom_54 : decode cX0_copyFrom 54 = .ok (.iconst 0, 1) := by decide +kernel
theorem dX0_copyFrom_55 : decode cX0_copyFrom 55 = .ok (.bipush 96, 2) := by decide +kernel
theorem dX0_copyFrom_57 : decode cX0_copyFrom 57 = .ok (.invokestatic 37, 3) := by decide +kernel
theorem dX0_copyFrom_60 : decode cX0_copyFrom 60 = .ok (.aload_n 1, 1) := by decide +kernel
theorem dX0_copyFrom_61 : decode cX0_copyFrom 61 = .ok (.getfield 24, 3) := by decide +kernel
theorem dX0_copyFrom_64 : decode cX0_copyFrom 64 = .ok (.iconst 0, 1) := by decide +kernel
theorem dX0_copyFrom_65 : decode cX0_copyFrom 65 = .ok (.aload_n 0, 1) := by decide +kernel
theorem dX0_copyFrom_66 : decode cX0_copyFrom 66 = .ok (.getfield 24, 3) := by decide +kernel
theorem dX0_copyFrom_69 : decode cX0_copyFrom 69 = .ok (.iconst 0, 1) := by decide +kernel
theorem dX0_copyFrom_70 : decode cX0_copyFrom 70 = .ok (.bipush 72, 2) := by decide +kernel
theorem dX0_copyFrom_72 : decode cX0_copyFrom 72 = .ok (.invokestatic 37, 3) := by decide +kernel
theorem dX0_copyFrom_75 : decode cX0_copyFrom 75 = .ok (.aload_n 0, 1) := by decide +kernel
theorem dX0_copyFrom_76 : decode cX0_copyFrom 76 = .ok (.aload_n 1, 1) := by decide +kernel
theorem dX0_copyFrom_77 : decode cX0_copyFrom 77 = .ok (.getfield 27, 3) := by decide +kernel
theorem dX0_copyFrom_80 : decode cX0_copyFrom 80 = .ok (.putfield 27, 3) := by decide +kernel
theorem dX0_copyFrom_83 : decode cX0_copyFrom 83 = .ok (.return_, 1) := by decide +kernel
theorem dX0_counted_0 : decode cX0_counted 0 = .ok (.iload_n 1, 1) := by decide +kernel
theorem dX0_counted_1 : decode cX0_counted 1 = .ok (.ifCond .lt 18, 3) := by decide +kernel
theorem dX0_counted_4 : decode cX0_counted 4 = .ok (.iload_n 1, 1) := by decide +kernel
theorem dX0_counted_5 : decode cX0_counted 5 = .ok (.bipush 10, 2) := by decide +kernel
theorem dX0_counted_7 : decode cX0_counted 7 = .ok (.if_icmp .ge 12, 3) := by decide +kernel
theorem dX0_counted_10 : decode cX0_counted 10 = .ok (.aload_n 0, 1) := by decide +kernel
theorem dX0_counted_11 : decode cX0_counted 11 = .ok (.getfield 9, 3) := by decide +kernel
theorem dX0_counted_14 : decode cX0_counted 14 = .ok (.iload_n 1, 1) := by decide +kernel
theorem dX0_counted_15 : decode cX0_counted 15 = .ok (.iaload, 1) := by decide +kernel
theorem dX0_counted_16 : decode cX0_counted 16 = .ok (.goto 4, 3) := by decide +kernel
theorem dX0_counted_19 : decode cX0_counted 19 = .ok (.iconst 0, 1) := by decide +kernel
theorem dX0_counted_20 : decode cX0_counted 20 = .ok (.ireturn, 1) := by decide +kernel
theorem dX0_gotOf_0 : decode cX0_gotOf 0 = .ok (.iload_n 1, 1) := by decide +kernel
theorem dX0_gotOf_1 : decode cX0_gotOf 1 = .ok (.ifCond .lt 18, 3) := by decide +kernel
theorem dX0_gotOf_4 : decode cX0_gotOf 4 = .ok (.iload_n 1, 1) := by decide +kernel
theorem dX0_gotOf_5 : decode cX0_gotOf 5 = .ok (.bipush 8, 2) := by decide +kernel
theorem dX0_gotOf_7 : decode cX0_gotOf 7 = .ok (.if_icmp .ge 12, 3) := by decide +kernel
theorem dX0_gotOf_10 : decode cX0_gotOf 10 = .ok (.aload_n 0, 1) := by decide +kernel
theorem dX0_gotOf_11 : decode cX0_gotOf 11 = .ok (.getfield 15, 3) := by decide +kernel
theorem dX0_gotOf_14 : decode cX0_gotOf 14 = .ok (.iload_n 1, 1) := by decide +kernel
theorem dX0_gotOf_15 : decode cX0_gotOf 15 = .ok (.iaload, 1) := by decide +kernel
theorem dX0_gotOf_16 : decode cX0_gotOf 16 = .ok (.goto 4, 3) := by decide +kernel
theorem dX0_gotOf_19 : decode cX0_gotOf 19 = .ok (.iconst 0, 1) := by decide +kernel
theorem dX0_gotOf_20 : decode cX0_gotOf 20 = .ok (.ireturn, 1) := by decide +kernel
theorem dX1_greatestLevel_0 : decode cX1_greatestLevel 0 = .ok (.aload_n 0, 1) := by decide +kernel
theorem dX1_greatestLevel_1 : decode cX1_greatestLevel 1 = .ok (.getfield 22, 3) := by decide +kernel
theorem dX1_greatestLevel_4 : decode cX1_greatestLevel 4 = .ok (.aload_n 0, 1) := by decide +kernel
theorem dX1_greatestLevel_5 : decode cX1_greatestLevel 5 = .ok (.getfield 18, 3) := by decide +kernel
theorem dX1_greatestLevel_8 : decode cX1_greatestLevel 8 = .ok (.invokevirtual 25, 3) := by decide +kernel
theorem dX1_greatestLevel_11 : decode cX1_greatestLevel 11 = .ok (.iconst 0, 1) := by decide +kernel
theorem dX1_greatestLevel_12 : decode cX1_greatestLevel 12 = .ok (.istore_n 1, 1) := by decide +kernel
theorem dX1_greatestLevel_13 : decode cX1_greatestLevel 13 = .ok (.iconst 0, 1) := by decide +kernel
theorem dX1_greatestLevel_14 : decode cX1_greatestLevel 14 = .ok (.istore_n 2, 1) := by decide +kernel
theorem dX1_greatestLevel_15 : decode cX1_greatestLevel 15 = .ok (.iload_n 2, 1) := by decide +kernel
theorem dX1_greatestLevel_16 : decode cX1_greatestLevel 16 = .ok (.sipush 3000, 3) := by decide +kernel
theorem dX1_greatestLevel_19 : decode cX1_greatestLevel 19 = .ok (.if_icmp .gt 57, 3) := by decide +kernel
theorem dX1_greatestLevel_22 : decode cX1_greatestLevel 22 = .ok (.aload_n 0, 1) := by decide +kernel
theorem dX1_greatestLevel_23 : decode cX1_greatestLevel 23 = .ok (.getfield 22, 3) := by decide +kernel
theorem dX1_greatestLevel_26 : decode cX1_greatestLevel 26 = .ok (.getfield 56, 3) := by decide +kernel
theorem dX1_greatestLevel_29 : decode cX1_greatestLevel 29 = .ok (.getfield 60, 3) := by decide +kernel
theorem dX1_greatestLevel_32 : decode cX1_greatestLevel 32 = .ok (.ifCond .eq 18, 3) := by decide +kernel
theorem dX1_greatestLevel_50 : decode cX1_greatestLevel 50 = .ok (.aload_n 0, 1) := by decide +kernel
theorem dX1_greatestLevel_51 : decode cX1_greatestLevel 51 = .ok (.getfield 22, 3) := by decide +kernel
theorem dX1_greatestLevel_54 : decode cX1_greatestLevel 54 = .ok (.invokevirtual 39, 3) := by decide +kernel
theorem dX1_greatestLevel_57 : decode cX1_greatestLevel 57 = .ok (.ifCond .eq 5, 3) := by decide +kernel
theorem dX1_greatestLevel_60 : decode cX1_greatestLevel 60 = .ok (.iload_n 1, 1) := by decide +kernel
theorem dX1_greatestLevel_61 : decode cX1_greatestLevel 61 = .ok (.ireturn, 1) := by decide +kernel
theorem dX1_hasCome_0 : decode cX1_hasCome 0 = .ok (.iload_n 1, 1) := by decide +kernel
theorem dX1_hasCome_1 : decode cX1_hasCome 1 = .ok (.tableswitch 120 0 5 #[39, 47, 64, 75, 95, 103], 39) := by decide +kernel
theorem dX1_hasCome_40 : decode cX1_hasCome 40 = .ok (.aload_n 0, 1) := by decide +kernel
theorem dX1_hasCome_41 : decode cX1_hasCome 41 = .ok (.getfield 22, 3) := by decide +kernel
theorem dX1_hasCome_44 : decode cX1_hasCome 44 = .ok (.invokevirtual 39, 3) := by decide +kernel
theorem dX1_hasCome_47 : decode cX1_hasCome 47 = .ok (.ireturn, 1) := by decide +kernel
theorem dX1_hasCome_65 : decode cX1_hasCome 65 = .ok (.aload_n 0, 1) := by decide +kernel
theorem dX1_hasCome_66 : decode cX1_hasCome 66 = .ok (.getfield 22, 3) := by decide +kernel
theorem dX1_hasCome_69 : decode cX1_hasCome 69 = .ok (.getfield 47, 3) := by decide +kernel
theorem dX1_hasCome_72 : decode cX1_hasCome 72 = .ok (.invokevirtual 51, 3) := by decide +kernel
theorem dX1_hasCome_75 : decode cX1_hasCome 75 = .ok (.ireturn, 1) := by decide +kernel
theorem dX1_hasCome_76 : decode cX1_hasCome 76 = .ok (.aload_n 0, 1) := by decide +kernel
theorem dX1_hasCome_77 : decode cX1_hasCome 77 = .ok (.getfield 22, 3) := by decide +kernel
theorem dX1_hasCome_80 : decode cX1_hasCome 80 = .ok (.getfield 56, 3) := by decide +kernel
theorem dX1_hasCome_83 : decode cX1_hasCome 83 = .ok (.getfield 60, 3) := by decide +kernel
theorem dX1_hasCome_86 : decode cX1_hasCome 86 = .ok (.iconst 1, 1) := by decide +kernel
theorem dX1_hasCome_87 : decode cX1_hasCome 87 = .ok (.if_icmp .ne 7, 3) := by decide +kernel
theorem dX1_hasCome_94 : decode cX1_hasCome 94 = .ok (.iconst 0, 1) := by decide +kernel
theorem dX1_hasCome_95 : decode cX1_hasCome 95 = .ok (.ireturn, 1) := by decide +kernel
theorem dX1_hasCome_96 : decode cX1_hasCome 96 = .ok (.aload_n 0, 1) := by decide +kernel
theorem dX1_hasCome_97 : decode cX1_hasCome 97 = .ok (.getfield 22, 3) := by decide +kernel
theorem dX1_hasCome_100 : decode cX1_hasCome 100 = .ok (.getfield 65, 3) := by decide +kernel
theorem dX1_hasCome_103 : decode cX1_hasCome 103 = .ok (.ireturn, 1) := by decide +kernel
theorem dX1_hasCome_104 : decode cX1_hasCome 104 = .ok (.aload_n 0, 1) := by decide +kernel
theorem dX1_hasCome_105 : decode cX1_hasCome 105 = .ok (.getfield 22, 3) := by decide +kernel
theorem dX1_hasCome_108 : decode cX1_hasCome 108 = .ok (.getfield 69, 3) := by decide +kernel
theorem dX1_hasCome_111 : decode cX1_hasCome 111 = .ok (.iconst (-1), 1) := by decide +kernel
theorem dX1_hasCome_112 : decode cX1_hasCome 112 = .ok (.if_icmp .eq 7, 3) := by decide +kernel
theorem dX1_hasCome_119 : decode cX1_hasCome 119 = .ok (.iconst 0, 1) := by decide +kernel
theorem dX1_hasCome_120 : decode cX1_hasCome 120 = .ok (.ireturn, 1) := by decide +kernel
theorem dX1_noteGot_0 : decode cX1_noteGot 0 = .ok (.iload_n 1, 1) := by decide +kernel
theorem dX1_noteGot_1 : decode cX1_noteGot 1 = .ok (.ifCond .eq 10, 3) := by decide +kernel
theorem dX1_noteGot_4 : decode cX1_noteGot 4 = .ok (.aload_n 0, 1) := by decide +kernel
theorem dX1_noteGot_5 : decode cX1_noteGot 5 = .ok (.getfield 15, 3) := by decide +kernel
theorem dX1_noteGot_8 : decode cX1_noteGot 8 = .ok (.goto 7, 3) := by decide +kernel
theorem dX1_noteGot_11 : decode cX1_noteGot 11 = .ok (.aload_n 0, 1) := by decide +kernel
theorem dX1_noteGot_12 : decode cX1_noteGot 12 = .ok (.getfield 9, 3) := by decide +kernel
theorem dX1_noteGot_15 : decode cX1_noteGot 15 = .ok (.astore_n 2, 1) := by decide +kernel
theorem dX1_noteGot_16 : decode cX1_noteGot 16 = .ok (.aload_n 2, 1) := by decide +kernel
theorem dX1_noteGot_17 : decode cX1_noteGot 17 = .ok (.iconst (-1), 1) := by decide +kernel
theorem dX1_noteGot_18 : decode cX1_noteGot 18 = .ok (.invokestatic 81, 3) := by decide +kernel
theorem dX1_noteGot_21 : decode cX1_noteGot 21 = .ok (.aload_n 0, 1) := by decide +kernel
theorem dX1_noteGot_22 : decode cX1_noteGot 22 = .ok (.getfield 22, 3) := by decide +kernel
theorem dX1_noteGot_25 : decode cX1_noteGot 25 = .ok (.aload_n 0, 1) := by decide +kernel
theorem dX1_noteGot_26 : decode cX1_noteGot 26 = .ok (.getfield 18, 3) := by decide +kernel
theorem dX1_noteGot_29 : decode cX1_noteGot 29 = .ok (.invokevirtual 25, 3) := by decide +kernel
theorem dX1_noteGot_32 : decode cX1_noteGot 32 = .ok (.iconst 1, 1) := by decide +kernel
theorem dX1_noteGot_33 : decode cX1_noteGot 33 = .ok (.istore_n 3, 1) := by decide +kernel
theorem dX1_noteGot_34 : decode cX1_noteGot 34 = .ok (.iload_n 3, 1) := by decide +kernel
theorem dX1_noteGot_35 : decode cX1_noteGot 35 = .ok (.sipush 3000, 3) := by decide +kernel
theorem dX1_noteGot_38 : decode cX1_noteGot 38 = .ok (.if_icmp .gt 68, 3) := by decide +kernel
theorem dX1_noteGot_41 : decode cX1_noteGot 41 = .ok (.aload_n 0, 1) := by decide +kernel
theorem dX1_noteGot_42 : decode cX1_noteGot 42 = .ok (.getfield 22, 3) := by decide +kernel
theorem dX1_noteGot_45 : decode cX1_noteGot 45 = .ok (.iload_n 1, 1) := by decide +kernel
theorem dX1_noteGot_46 : decode cX1_noteGot 46 = .ok (.invokevirtual 35, 3) := by decide +kernel
theorem dX1_noteGot_49 : decode cX1_noteGot 49 = .ok (.aload_n 0, 1) := by decide +kernel
theorem dX1_noteGot_50 : decode cX1_noteGot 50 = .ok (.getfield 22, 3) := by decide +kernel
theorem dX1_noteGot_53 : decode cX1_noteGot 53 = .ok (.getfield 43, 3) := by decide +kernel
theorem dX1_noteGot_56 : decode cX1_noteGot 56 = .ok (.iconst (-1), 1) := by decide +kernel
theorem dX1_noteGot_57 : decode cX1_noteGot 57 = .ok (.if_icmp .ne 7, 3) := by decide +kernel
theorem dX1_noteGot_60 : decode cX1_noteGot 60 = .ok (.iconst (-1), 1) := by decide +kernel
theorem dX1_noteGot_61 : decode cX1_noteGot 61 = .ok (.goto 20, 3) := by decide +kernel
theorem dX1_noteGot_81 : decode cX1_noteGot 81 = .ok (.istore 4, 2) := by decide +kernel
theorem dX1_noteGot_83 : decode cX1_noteGot 83 = .ok (.iload 4, 2) := by decide +kernel
theorem dX1_noteGot_85 : decode cX1_noteGot 85 = .ok (.ifCond .lt 15, 3) := by decide +kernel
theorem dX1_noteGot_100 : decode cX1_noteGot 100 = .ok (.iinc 3 1, 3) := by decide +kernel
theorem dX1_noteGot_103 : decode cX1_noteGot 103 = .ok (.goto (-69), 3) := by decide +kernel
theorem dX1_noteGot_106 : decode cX1_noteGot 106 = .ok (.return_, 1) := by decide +kernel
theorem dX1_numberGot_0 : decode cX1_numberGot 0 = .ok (.aload_n 0, 1) := by decide +kernel
theorem dX1_numberGot_1 : decode cX1_numberGot 1 = .ok (.getfield 22, 3) := by decide +kernel
theorem dX1_numberGot_4 : decode cX1_numberGot 4 = .ok (.aload_n 0, 1) := by decide +kernel
theorem dX1_numberGot_5 : decode cX1_numberGot 5 = .ok (.getfield 18, 3) := by decide +kernel
theorem dX1_numberGot_8 : decode cX1_numberGot 8 = .ok (.invokevirtual 25, 3) := by decide +kernel
theorem dX1_numberGot_11 : decode cX1_numberGot 11 = .ok (.iconst 0, 1) := by decide +kernel
theorem dX1_numberGot_12 : decode cX1_numberGot 12 = .ok (.istore_n 3, 1) := by decide +kernel
theorem dX1_numberGot_13 : decode cX1_numberGot 13 = .ok (.iconst 1, 1) := by decide +kernel
theorem dX1_numberGot_14 : decode cX1_numberGot 14 = .ok (.istore 4, 2) := by decide +kernel
theorem dX1_numberGot_16 : decode cX1_numberGot 16 = .ok (.iload 4, 2) := by decide +kernel
theorem dX1_numberGot_18 : decode cX1_numberGot 18 = .ok (.sipush 3000, 3) := by decide +kernel
theorem dX1_numberGot_21 : decode cX1_numberGot 21 = .ok (.if_icmp .gt 44, 3) := by decide +kernel
theorem dX1_numberGot_24 : decode cX1_numberGot 24 = .ok (.aload_n 0, 1) := by decide +kernel
theorem dX1_numberGot_25 : decode cX1_numberGot 25 = .ok (.getfield 22, 3) := by decide +kernel
theorem dX1_numberGot_28 : decode cX1_numberGot 28 = .ok (.iload_n 2, 1) := by decide +kernel
theorem dX1_numberGot_29 : decode cX1_numberGot 29 = .ok (.invokevirtual 35, 3) := by decide +kernel
theorem dX1_numberGot_32 : decode cX1_numberGot 32 = .ok (.aload_n 0, 1) := by decide +kernel
theorem dX1_numberGot_33 : decode cX1_numberGot 33 = .ok (.getfield 22, 3) := by decide +kernel
theorem dX1_numberGot_36 : decode cX1_numberGot 36 = .ok (.getfield 43, 3) := by decide +kernel
theorem dX1_numberGot_39 : decode cX1_numberGot 39 = .ok (.iconst (-1), 1) := by decide +kernel
theorem dX1_numberGot_40 : decode cX1_numberGot 40 = .ok (.if_icmp .eq 19, 3) := by decide +kernel
theorem dX1_numberGot_59 : decode cX1_numberGot 59 = .ok (.iinc 4 1, 3) := by decide +kernel
theorem dX1_numberGot_62 : decode cX1_numberGot 62 = .ok (.goto (-46), 3) := by decide +kernel
theorem dX1_numberGot_65 : decode cX1_numberGot 65 = .ok (.iconst (-1), 1) := by decide +kernel
theorem dX1_numberGot_66 : decode cX1_numberGot 66 = .ok (.ireturn, 1) := by decide +kernel
theorem dX1_ticksGained_0 : decode cX1_ticksGained 0 = .ok (.iconst 0, 1) := by decide +kernel
theorem dX1_ticksGained_1 : decode cX1_ticksGained 1 = .ok (.istore_n 1, 1) := by decide +kernel
theorem dX1_ticksGained_2 : decode cX1_ticksGained 2 = .ok (.iconst 0, 1) := by decide +kernel
theorem dX1_ticksGained_3 : decode cX1_ticksGained 3 = .ok (.istore_n 2, 1) := by decide +kernel
theorem dX1_ticksGained_4 : decode cX1_ticksGained 4 = .ok (.iload_n 2, 1) := by decide +kernel
theorem dX1_ticksGained_5 : decode cX1_ticksGained 5 = .ok (.bipush 48, 2) := by decide +kernel
theorem dX1_ticksGained_7 : decode cX1_ticksGained 7 = .ok (.if_icmp .ge 45, 3) := by decide +kernel
theorem dX1_ticksGained_10 : decode cX1_ticksGained 10 = .ok (.aload_n 0, 1) := by decide +kernel
theorem dX1_ticksGained_11 : decode cX1_ticksGained 11 = .ok (.getfield 9, 3) := by decide +kernel
theorem dX1_ticksGained_14 : decode cX1_ticksGained 14 = .ok (.iload_n 2, 1) := by decide +kernel
theorem dX1_ticksGained_15 : decode cX1_ticksGained 15 = .ok (.iaload, 1) := by decide +kernel
theorem dX1_ticksGained_16 : decode cX1_ticksGained 16 = .ok (.iconst (-1), 1) := by decide +kernel
theorem dX1_ticksGained_17 : decode cX1_ticksGained 17 = .ok (.if_icmp .eq 29, 3) := by decide +kernel
theorem dX1_ticksGained_20 : decode cX1_ticksGained 20 = .ok (.aload_n 0, 1) := by decide +kernel
theorem dX1_ticksGained_21 : decode cX1_ticksGained 21 = .ok (.getfield 15, 3) := by decide +kernel
theorem dX1_ticksGained_24 : decode cX1_ticksGained 24 = .ok (.iload_n 2, 1) := by decide +kernel
theorem dX1_ticksGained_25 : decode cX1_ticksGained 25 = .ok (.iaload, 1) := by decide +kernel
theorem dX1_ticksGained_26 : decode cX1_ticksGained 26 = .ok (.iconst (-1), 1) := by decide +kernel
theorem dX1_ticksGained_27 : decode cX1_ticksGained 27 = .ok (.if_icmp .eq 19, 3) := by decide +kernel
theorem dX1_ticksGained_30 : decode cX1_ticksGained 30 = .ok (.iload_n 1, 1) := by decide +kernel
theorem dX1_ticksGained_31 : decode cX1_ticksGained 31 = .ok (.aload_n 0, 1) := by decide +kernel
theorem dX1_ticksGained_32 : decode cX1_ticksGained 32 = .ok (.getfield 15, 3) := by decide +kernel
theorem dX1_ticksGained_35 : decode cX1_ticksGained 35 = .ok (.iload_n 2, 1) := by decide +kernel
theorem dX1_ticksGained_36 : decode cX1_ticksGained 36 = .ok (.iaload, 1) := by decide +kernel
theorem dX1_ticksGained_37 : decode cX1_ticksGained 37 = .ok (.aload_n 0, 1) := by decide +kernel
theorem dX1_ticksGained_38 : decode cX1_ticksGained 38 = .ok (.getfield 9, 3) := by decide +kernel
theorem dX1_ticksGained_41 : decode cX1_ticksGained 41 = .ok (.iload_n 2, 1) := by decide +kernel
theorem dX1_ticksGained_42 : decode cX1_ticksGained 42 = .ok (.iaload, 1) := by decide +kernel
theorem dX1_ticksGained_43 : decode cX1_ticksGained 43 = .ok (.isub, 1) := by decide +kernel
theorem dX1_ticksGained_44 : decode cX1_ticksGained 44 = .ok (.iadd, 1) := by decide +kernel
theorem dX1_ticksGained_45 : decode cX1_ticksGained 45 = .ok (.istore_n 1, 1) := by decide +kernel
theorem dX1_ticksGained_46 : decode cX1_ticksGained 46 = .ok (.iinc 2 1, 3) := by decide +kernel
theorem dX1_ticksGained_49 : decode cX1_ticksGained 49 = .ok (.goto (-45), 3) := by decide +kernel
theorem dX1_ticksGained_52 : decode cX1_ticksGained 52 = .ok (.iload_n 1, 1) := by decide +kernel
theorem dX1_ticksGained_53 : decode cX1_ticksGained 53 = .ok (.ireturn, 1) := by decide +kernel
theorem dX1_ticksTill_0 : decode cX1_ticksTill 0 = .ok (.aload_n 0, 1) := by decide +kernel
theorem dX1_ticksTill_1 : decode cX1_ticksTill 1 = .ok (.getfield 22, 3) := by decide +kernel
theorem dX1_ticksTill_4 : decode cX1_ticksTill 4 = .ok (.aload_n 0, 1) := by decide +kernel
theorem dX1_ticksTill_5 : decode cX1_ticksTill 5 = .ok (.getfield 18, 3) := by decide +kernel
theorem dX1_ticksTill_8 : decode cX1_ticksTill 8 = .ok (.invokevirtual 25, 3) := by decide +kernel
theorem dX1_ticksTill_11 : decode cX1_ticksTill 11 = .ok (.iconst 0, 1) := by decide +kernel
theorem dX1_ticksTill_12 : decode cX1_ticksTill 12 = .ok (.istore 4, 2) := by decide +kernel
theorem dX1_ticksTill_14 : decode cX1_ticksTill 14 = .ok (.iload 4, 2) := by decide +kernel
theorem dX1_ticksTill_16 : decode cX1_ticksTill 16 = .ok (.sipush 3000, 3) := by decide +kernel
theorem dX1_ticksTill_19 : decode cX1_ticksTill 19 = .ok (.if_icmp .gt 29, 3) := by decide +kernel
theorem dX1_ticksTill_22 : decode cX1_ticksTill 22 = .ok (.aload_n 0, 1) := by decide +kernel
theorem dX1_ticksTill_23 : decode cX1_ticksTill 23 = .ok (.iload_n 1, 1) := by decide +kernel
theorem dX1_ticksTill_24 : decode cX1_ticksTill 24 = .ok (.iload_n 2, 1) := by decide +kernel
theorem dX1_ticksTill_25 : decode cX1_ticksTill 25 = .ok (.invokevirtual 31, 3) := by decide +kernel
theorem dX1_ticksTill_28 : decode cX1_ticksTill 28 = .ok (.ifCond .eq 6, 3) := by decide +kernel
theorem dX1_ticksTill_31 : decode cX1_ticksTill 31 = .ok (.iload 4, 2) := by decide +kernel
theorem dX1_ticksTill_33 : decode cX1_ticksTill 33 = .ok (.ireturn, 1) := by decide +kernel
theorem dX1_ticksTill_34 : decode cX1_ticksTill 34 = .ok (.aload_n 0, 1) := by decide +kernel
theorem dX1_ticksTill_35 : decode cX1_ticksTill 35 = .ok (.getfield 22, 3) := by decide +kernel
theorem dX1_ticksTill_38 : decode cX1_ticksTill 38 = .ok (.iload_n 3, 1) := by decide +kernel
theorem dX1_ticksTill_39 : decode cX1_ticksTill 39 = .ok (.invokevirtual 35, 3) := by decide +kernel
theorem dX1_ticksTill_42 : decode cX1_ticksTill 42 = .ok (.iinc 4 1, 3) := by decide +kernel
theorem dX1_ticksTill_45 : decode cX1_ticksTill 45 = .ok (.goto (-31), 3) := by decide +kernel
theorem dX1_ticksTill_48 : decode cX1_ticksTill 48 = .ok (.iconst (-1), 1) := by decide +kernel
theorem dX1_ticksTill_49 : decode cX1_ticksTill 49 = .ok (.ireturn, 1) := by decide +kernel
theorem dX2_clear_0 : decode cX2_clear 0 = .ok (.aload_n 0, 1) := by decide +kernel
theorem dX2_clear_1 : decode cX2_clear 1 = .ok (.getfield 24, 3) := by decide +kernel
theorem dX2_clear_4 : decode cX2_clear 4 = .ok (.iconst 0, 1) := by decide +kernel
theorem dX2_clear_5 : decode cX2_clear 5 = .ok (.invokestatic 27, 3) := by decide +kernel
theorem dX2_clear_8 : decode cX2_clear 8 = .ok (.return_, 1) := by decide +kernel
theorem dX2_copyFrom_0 : decode cX2_copyFrom 0 = .ok (.aload_n 1, 1) := by decide +kernel
theorem dX2_copyFrom_1 : decode cX2_copyFrom 1 = .ok (.getfield 9, 3) := by decide +kernel
theorem dX2_copyFrom_4 : decode cX2_copyFrom 4 = .ok (.iconst 0, 1) := by decide +kernel
theorem dX2_copyFrom_5 : decode cX2_copyFrom 5 = .ok (.aload_n 0, 1) := by decide +kernel
theorem dX2_copyFrom_6 : decode cX2_copyFrom 6 = .ok (.getfield 9, 3) := by decide +kernel
theorem dX2_copyFrom_9 : decode cX2_copyFrom 9 = .ok (.iconst 0, 1) := by decide +kernel
theorem dX2_copyFrom_10 : decode cX2_copyFrom 10 = .ok (.bipush 48, 2) := by decide +kernel
theorem dX2_copyFrom_12 : decode cX2_copyFrom 12 = .ok (.invokestatic 33, 3) := by decide +kernel
theorem dX2_copyFrom_15 : decode cX2_copyFrom 15 = .ok (.aload_n 1, 1) := by decide +kernel
theorem dX2_copyFrom_16 : decode cX2_copyFrom 16 = .ok (.getfield 15, 3) := by decide +kernel
theorem dX2_copyFrom_19 : decode cX2_copyFrom 19 = .ok (.iconst 0, 1) := by decide +kernel
theorem dX2_copyFrom_20 : decode cX2_copyFrom 20 = .ok (.aload_n 0, 1) := by decide +kernel
theorem dX2_copyFrom_21 : decode cX2_copyFrom 21 = .ok (.getfield 15, 3) := by decide +kernel
theorem dX2_copyFrom_24 : decode cX2_copyFrom 24 = .ok (.iconst 0, 1) := by decide +kernel
theorem dX2_copyFrom_25 : decode cX2_copyFrom 25 = .ok (.bipush 48, 2) := by decide +kernel
theorem dX2_copyFrom_27 : decode cX2_copyFrom 27 = .ok (.invokestatic 33, 3) := by decide +kernel
theorem dX2_copyFrom_30 : decode cX2_copyFrom 30 = .ok (.aload_n 1, 1) := by decide +kernel
theorem dX2_copyFrom_31 : decode cX2_copyFrom 31 = .ok (.getfield 18, 3) := by decide +kernel
theorem dX2_copyFrom_34 : decode cX2_copyFrom 34 = .ok (.iconst 0, 1) := by decide +kernel
theorem dX2_copyFrom_35 : decode cX2_copyFrom 35 = .ok (.aload_n 0, 1) := by decide +kernel
theorem dX2_copyFrom_36 : decode cX2_copyFrom 36 = .ok (.getfield 18, 3) := by decide +kernel
theorem dX2_copyFrom_39 : decode cX2_copyFrom 39 = .ok (.iconst 0, 1) := by decide +kernel
theorem dX2_copyFrom_40 : decode cX2_copyFrom 40 = .ok (.bipush 48, 2) := by decide +kernel
theorem dX2_copyFrom_42 : decode cX2_copyFrom 42 = .ok (.invokestatic 33, 3) := by decide +kernel
theorem dX2_copyFrom_45 : decode cX2_copyFrom 45 = .ok (.aload_n 1, 1) := by decide +kernel
theorem dX2_copyFrom_46 : decode cX2_copyFrom 46 = .ok (.getfield 21, 3) := by decide +kernel
theorem dX2_copyFrom_49 : decode cX2_copyFrom 49 = .ok (.iconst 0, 1) := by decide +kernel
theorem dX2_copyFrom_50 : decode cX2_copyFrom 50 = .ok (.aload_n 0, 1) := by decide +kernel
theorem dX2_copyFrom_51 : decode cX2_copyFrom 51 = .ok (.getfield 21, 3) := by decide +kernel
theorem dX2_copyFrom_54 : decode cX2_copyFrom 54 = .ok (.iconst 0, 1) := by decide +kernel
theorem dX2_copyFrom_55 : decode cX2_copyFrom 55 = .ok (.bipush 48, 2) := by decide +kernel
theorem dX2_copyFrom_57 : decode cX2_copyFrom 57 = .ok (.invokestatic 33, 3) := by decide +kernel
theorem dX2_copyFrom_60 : decode cX2_copyFrom 60 = .ok (.aload_n 1, 1) := by decide +kernel
theorem dX2_copyFrom_61 : decode cX2_copyFrom 61 = .ok (.getfield 24, 3) := by decide +kernel
theorem dX2_copyFrom_64 : decode cX2_copyFrom 64 = .ok (.iconst 0, 1) := by decide +kernel
theorem dX2_copyFrom_65 : decode cX2_copyFrom 65 = .ok (.aload_n 0, 1) := by decide +kernel
theorem dX2_copyFrom_66 : decode cX2_copyFrom 66 = .ok (.getfield 24, 3) := by decide +kernel
theorem dX2_copyFrom_69 : decode cX2_copyFrom 69 = .ok (.iconst 0, 1) := by decide +kernel
theorem dX2_copyFrom_70 : decode cX2_copyFrom 70 = .ok (.bipush 8, 2) := by decide +kernel
theorem dX2_copyFrom_72 : decode cX2_copyFrom 72 = .ok (.invokestatic 33, 3) := by decide +kernel
theorem dX2_copyFrom_75 : decode cX2_copyFrom 75 = .ok (.return_, 1) := by decide +kernel
theorem dX2_slotOf_0 : decode cX2_slotOf 0 = .ok (.iconst 0, 1) := by decide +kernel
theorem dX2_slotOf_1 : decode cX2_slotOf 1 = .ok (.istore_n 2, 1) := by decide +kernel
theorem dX2_slotOf_2 : decode cX2_slotOf 2 = .ok (.iload_n 2, 1) := by decide +kernel
theorem dX2_slotOf_3 : decode cX2_slotOf 3 = .ok (.bipush 8, 2) := by decide +kernel
theorem dX2_slotOf_5 : decode cX2_slotOf 5 = .ok (.if_icmp .ge 48, 3) := by decide +kernel
theorem dX2_slotOf_8 : decode cX2_slotOf 8 = .ok (.iconst 0, 1) := by decide +kernel
theorem dX2_slotOf_9 : decode cX2_slotOf 9 = .ok (.istore_n 3, 1) := by decide +kernel
theorem dX2_slotOf_10 : decode cX2_slotOf 10 = .ok (.iload_n 3, 1) := by decide +kernel
theorem dX2_slotOf_11 : decode cX2_slotOf 11 = .ok (.aload_n 0, 1) := by decide +kernel
theorem dX2_slotOf_12 : decode cX2_slotOf 12 = .ok (.getfield 24, 3) := by decide +kernel
theorem dX2_slotOf_15 : decode cX2_slotOf 15 = .ok (.iload_n 2, 1) := by decide +kernel
theorem dX2_slotOf_16 : decode cX2_slotOf 16 = .ok (.iaload, 1) := by decide +kernel
theorem dX2_slotOf_17 : decode cX2_slotOf 17 = .ok (.if_icmp .ge 30, 3) := by decide +kernel
theorem dX2_slotOf_47 : decode cX2_slotOf 47 = .ok (.iinc 2 1, 3) := by decide +kernel
theorem dX2_slotOf_50 : decode cX2_slotOf 50 = .ok (.goto (-48), 3) := by decide +kernel
theorem dX2_slotOf_53 : decode cX2_slotOf 53 = .ok (.iconst (-1), 1) := by decide +kernel
theorem dX2_slotOf_54 : decode cX2_slotOf 54 = .ok (.ireturn, 1) := by decide +kernel
theorem dX2_total_0 : decode cX2_total 0 = .ok (.iconst 0, 1) := by decide +kernel
theorem dX2_total_1 : decode cX2_total 1 = .ok (.istore_n 1, 1) := by decide +kernel
theorem dX2_total_2 : decode cX2_total 2 = .ok (.iconst 0, 1) := by decide +kernel
theorem dX2_total_3 : decode cX2_total 3 = .ok (.istore_n 2, 1) := by decide +kernel
theorem dX2_total_4 : decode cX2_total 4 = .ok (.iload_n 2, 1) := by decide +kernel
theorem dX2_total_5 : decode cX2_total 5 = .ok (.bipush 8, 2) := by decide +kernel
theorem dX2_total_7 : decode cX2_total 7 = .ok (.if_icmp .ge 18, 3) := by decide +kernel
theorem dX2_total_10 : decode cX2_total 10 = .ok (.iload_n 1, 1) := by decide +kernel
theorem dX2_total_11 : decode cX2_total 11 = .ok (.aload_n 0, 1) := by decide +kernel
theorem dX2_total_12 : decode cX2_total 12 = .ok (.getfield 24, 3) := by decide +kernel
theorem dX2_total_15 : decode cX2_total 15 = .ok (.iload_n 2, 1) := by decide +kernel
theorem dX2_total_16 : decode cX2_total 16 = .ok (.iaload, 1) := by decide +kernel
theorem dX2_total_17 : decode cX2_total 17 = .ok (.iadd, 1) := by decide +kernel
theorem dX2_total_18 : decode cX2_total 18 = .ok (.istore_n 1, 1) := by decide +kernel
theorem dX2_total_19 : decode cX2_total 19 = .ok (.iinc 2 1, 3) := by decide +kernel
theorem dX2_total_22 : decode cX2_total 22 = .ok (.goto (-18), 3) := by decide +kernel
theorem dX2_total_25 : decode cX2_total 25 = .ok (.iload_n 1, 1) := by decide +kernel
theorem dX2_total_26 : decode cX2_total 26 = .ok (.ireturn, 1) := by decide +kernel
theorem dX2_totalOf_0 : decode cX2_totalOf 0 = .ok (.iconst 0, 1) := by decide +kernel
theorem dX2_totalOf_1 : decode cX2_totalOf 1 = .ok (.istore_n 2, 1) := by decide +kernel
theorem dX2_totalOf_2 : decode cX2_totalOf 2 = .ok (.iconst 0, 1) := by decide +kernel
theorem dX2_totalOf_3 : decode cX2_totalOf 3 = .ok (.istore_n 3, 1) := by decide +kernel
theorem dX2_totalOf_4 : decode cX2_totalOf 4 = .ok (.iload_n 3, 1) := by decide +kernel
theorem dX2_totalOf_5 : decode cX2_totalOf 5 = .ok (.bipush 8, 2) := by decide +kernel
theorem dX2_totalOf_7 : decode cX2_totalOf 7 = .ok (.if_icmp .ge 47, 3) := by decide +kernel
theorem dX2_totalOf_10 : decode cX2_totalOf 10 = .ok (.iconst 0, 1) := by decide +kernel
theorem dX2_totalOf_11 : decode cX2_totalOf 11 = .ok (.istore 4, 2) := by decide +kernel
theorem dX2_totalOf_13 : decode cX2_totalOf 13 = .ok (.iload 4, 2) := by decide +kernel
theorem dX2_totalOf_15 : decode cX2_totalOf 15 = .ok (.aload_n 0, 1) := by decide +kernel
theorem dX2_totalOf_16 : decode cX2_totalOf 16 = .ok (.getfield 24, 3) := by decide +kernel
theorem dX2_totalOf_19 : decode cX2_totalOf 19 = .ok (.iload_n 3, 1) := by decide +kernel
theorem dX2_totalOf_20 : decode cX2_totalOf 20 = .ok (.iaload, 1) := by decide +kernel
theorem dX2_totalOf_21 : decode cX2_totalOf 21 = .ok (.if_icmp .ge 27, 3) := by decide +kernel
theorem dX2_totalOf_48 : decode cX2_totalOf 48 = .ok (.iinc 3 1, 3) := by decide +kernel
theorem dX2_totalOf_51 : decode cX2_totalOf 51 = .ok (.goto (-47), 3) := by decide +kernel
theorem dX2_totalOf_54 : decode cX2_totalOf 54 = .ok (.iload_n 2, 1) := by decide +kernel
theorem dX2_totalOf_55 : decode cX2_totalOf 55 = .ok (.ireturn, 1) := by decide +kernel
theorem dX3_clear_0 : decode cX3_clear 0 = .ok (.aload_n 0, 1) := by decide +kernel
theorem dX3_clear_1 : decode cX3_clear 1 = .ok (.getfield 18, 3) := by decide +kernel
theorem dX3_clear_4 : decode cX3_clear 4 = .ok (.iconst 0, 1) := by decide +kernel
theorem dX3_clear_5 : decode cX3_clear 5 = .ok (.invokestatic 21, 3) := by decide +kernel
theorem dX3_clear_8 : decode cX3_clear 8 = .ok (.return_, 1) := by decide +kernel
theorem dX3_copyFrom_0 : decode cX3_copyFrom 0 = .ok (.aload_n 1, 1) := by decide +kernel
theorem dX3_copyFrom_1 : decode cX3_copyFrom 1 = .ok (.getfield 9, 3) := by decide +kernel
theorem dX3_copyFrom_4 : decode cX3_copyFrom 4 = .ok (.iconst 0, 1) := by decide +kernel
theorem dX3_copyFrom_5 : decode cX3_copyFrom 5 = .ok (.aload_n 0, 1) := by decide +kernel
theorem dX3_copyFrom_6 : decode cX3_copyFrom 6 = .ok (.getfield 9, 3) := by decide +kernel
theorem dX3_copyFrom_9 : decode cX3_copyFrom 9 = .ok (.iconst 0, 1) := by decide +kernel
theorem dX3_copyFrom_10 : decode cX3_copyFrom 10 = .ok (.bipush 64, 2) := by decide +kernel
theorem dX3_copyFrom_12 : decode cX3_copyFrom 12 = .ok (.invokestatic 27, 3) := by decide +kernel
theorem dX3_copyFrom_15 : decode cX3_copyFrom 15 = .ok (.aload_n 1, 1) := by decide +kernel
theorem dX3_copyFrom_16 : decode cX3_copyFrom 16 = .ok (.getfield 15, 3) := by decide +kernel
theorem dX3_copyFrom_19 : decode cX3_copyFrom 19 = .ok (.iconst 0, 1) := by decide +kernel
theorem dX3_copyFrom_20 : decode cX3_copyFrom 20 = .ok (.aload_n 0, 1) := by decide +kernel
theorem dX3_copyFrom_21 : decode cX3_copyFrom 21 = .ok (.getfield 15, 3) := by decide +kernel
theorem dX3_copyFrom_24 : decode cX3_copyFrom 24 = .ok (.iconst 0, 1) := by decide +kernel
theorem dX3_copyFrom_25 : decode cX3_copyFrom 25 = .ok (.bipush 64, 2) := by decide +kernel
theorem dX3_copyFrom_27 : decode cX3_copyFrom 27 = .ok (.invokestatic 27, 3) := by decide +kernel
theorem dX3_copyFrom_30 : decode cX3_copyFrom 30 = .ok (.aload_n 1, 1) := by decide +kernel
theorem dX3_copyFrom_31 : decode cX3_copyFrom 31 = .ok (.getfield 18, 3) := by decide +kernel
theorem dX3_copyFrom_34 : decode cX3_copyFrom 34 = .ok (.iconst 0, 1) := by decide +kernel
theorem dX3_copyFrom_35 : decode cX3_copyFrom 35 = .ok (.aload_n 0, 1) := by decide +kernel
theorem dX3_copyFrom_36 : decode cX3_copyFrom 36 = .ok (.getfield 18, 3) := by decide +kernel
theorem dX3_copyFrom_39 : decode cX3_copyFrom 39 = .ok (.iconst 0, 1) := by decide +kernel
theorem dX3_copyFrom_40 : decode cX3_copyFrom 40 = .ok (.bipush 8, 2) := by decide +kernel
theorem dX3_copyFrom_42 : decode cX3_copyFrom 42 = .ok (.invokestatic 27, 3) := by decide +kernel
theorem dX3_copyFrom_45 : decode cX3_copyFrom 45 = .ok (.return_, 1) := by decide +kernel
theorem dX3_isEmpty_0 : decode cX3_isEmpty 0 = .ok (.iconst 0, 1) := by decide +kernel
theorem dX3_isEmpty_1 : decode cX3_isEmpty 1 = .ok (.istore_n 1, 1) := by decide +kernel
theorem dX3_isEmpty_2 : decode cX3_isEmpty 2 = .ok (.iload_n 1, 1) := by decide +kernel
theorem dX3_isEmpty_3 : decode cX3_isEmpty 3 = .ok (.bipush 8, 2) := by decide +kernel
theorem dX3_isEmpty_5 : decode cX3_isEmpty 5 = .ok (.if_icmp .ge 20, 3) := by decide +kernel
theorem dX3_isEmpty_8 : decode cX3_isEmpty 8 = .ok (.aload_n 0, 1) := by decide +kernel
theorem dX3_isEmpty_9 : decode cX3_isEmpty 9 = .ok (.getfield 18, 3) := by decide +kernel
theorem dX3_isEmpty_12 : decode cX3_isEmpty 12 = .ok (.iload_n 1, 1) := by decide +kernel
theorem dX3_isEmpty_13 : decode cX3_isEmpty 13 = .ok (.iaload, 1) := by decide +kernel
theorem dX3_isEmpty_14 : decode cX3_isEmpty 14 = .ok (.ifCond .le 5, 3) := by decide +kernel
theorem dX3_isEmpty_19 : decode cX3_isEmpty 19 = .ok (.iinc 1 1, 3) := by decide +kernel
theorem dX3_isEmpty_22 : decode cX3_isEmpty 22 = .ok (.goto (-20), 3) := by decide +kernel
theorem dX3_isEmpty_25 : decode cX3_isEmpty 25 = .ok (.iconst 1, 1) := by decide +kernel
theorem dX3_isEmpty_26 : decode cX3_isEmpty 26 = .ok (.ireturn, 1) := by decide +kernel
theorem dX5_clear_0 : decode cX5_clear 0 = .ok (.aload_n 0, 1) := by decide +kernel
theorem dX5_clear_1 : decode cX5_clear 1 = .ok (.getfield 12, 3) := by decide +kernel
theorem dX5_clear_4 : decode cX5_clear 4 = .ok (.invokevirtual 70, 3) := by decide +kernel
theorem dX5_clear_7 : decode cX5_clear 7 = .ok (.aload_n 0, 1) := by decide +kernel
theorem dX5_clear_8 : decode cX5_clear 8 = .ok (.getfield 21, 3) := by decide +kernel
theorem dX5_clear_11 : decode cX5_clear 11 = .ok (.invokevirtual 73, 3) := by decide +kernel
theorem dX5_clear_14 : decode cX5_clear 14 = .ok (.aload_n 0, 1) := by decide +kernel
theorem dX5_clear_15 : decode cX5_clear 15 = .ok (.getfield 28, 3) := by decide +kernel
theorem dX5_clear_18 : decode cX5_clear 18 = .ok (.invokevirtual 74, 3) := by decide +kernel
theorem dX5_clear_21 : decode cX5_clear 21 = .ok (.aload_n 0, 1) := by decide +kernel
theorem dX5_clear_22 : decode cX5_clear 22 = .ok (.getfield 35, 3) := by decide +kernel
theorem dX5_clear_25 : decode cX5_clear 25 = .ok (.invokevirtual 75, 3) := by decide +kernel
theorem dX5_clear_28 : decode cX5_clear 28 = .ok (.aload_n 0, 1) := by decide +kernel
theorem dX5_clear_29 : decode cX5_clear 29 = .ok (.getfield 42, 3) := by decide +kernel
theorem dX5_clear_32 : decode cX5_clear 32 = .ok (.invokevirtual 76, 3) := by decide +kernel
theorem dX5_clear_35 : decode cX5_clear 35 = .ok (.aload_n 0, 1) := by decide +kernel
theorem dX5_clear_36 : decode cX5_clear 36 = .ok (.getfield 49, 3) := by decide +kernel
theorem dX5_clear_39 : decode cX5_clear 39 = .ok (.invokevirtual 79, 3) := by decide +kernel
theorem dX5_clear_42 : decode cX5_clear 42 = .ok (.aload_n 0, 1) := by decide +kernel
theorem dX5_clear_43 : decode cX5_clear 43 = .ok (.iconst 0, 1) := by decide +kernel
theorem dX5_clear_44 : decode cX5_clear 44 = .ok (.putfield 53, 3) := by decide +kernel
theorem dX5_clear_47 : decode cX5_clear 47 = .ok (.aload_n 0, 1) := by decide +kernel
theorem dX5_clear_48 : decode cX5_clear 48 = .ok (.iconst 0, 1) := by decide +kernel
theorem dX5_clear_49 : decode cX5_clear 49 = .ok (.putfield 57, 3) := by decide +kernel
theorem dX5_clear_52 : decode cX5_clear 52 = .ok (.return_, 1) := by decide +kernel
theorem dX5_copyFrom_0 : decode cX5_copyFrom 0 = .ok (.aload_n 0, 1) := by decide +kernel
theorem dX5_copyFrom_1 : decode cX5_copyFrom 1 = .ok (.getfield 12, 3) := by decide +kernel
theorem dX5_copyFrom_4 : decode cX5_copyFrom 4 = .ok (.aload_n 1, 1) := by decide +kernel
theorem dX5_copyFrom_5 : decode cX5_copyFrom 5 = .ok (.getfield 12, 3) := by decide +kernel
theorem dX5_copyFrom_8 : decode cX5_copyFrom 8 = .ok (.invokevirtual 80, 3) := by decide +kernel
theorem dX5_copyFrom_11 : decode cX5_copyFrom 11 = .ok (.aload_n 0, 1) := by decide +kernel
theorem dX5_copyFrom_12 : decode cX5_copyFrom 12 = .ok (.getfield 21, 3) := by decide +kernel
theorem dX5_copyFrom_15 : decode cX5_copyFrom 15 = .ok (.aload_n 1, 1) := by decide +kernel
theorem dX5_copyFrom_16 : decode cX5_copyFrom 16 = .ok (.getfield 21, 3) := by decide +kernel
theorem dX5_copyFrom_19 : decode cX5_copyFrom 19 = .ok (.invokevirtual 84, 3) := by decide +kernel
theorem dX5_copyFrom_22 : decode cX5_copyFrom 22 = .ok (.aload_n 0, 1) := by decide +kernel
theorem dX5_copyFrom_23 : decode cX5_copyFrom 23 = .ok (.getfield 28, 3) := by decide +kernel
theorem dX5_copyFrom_26 : decode cX5_copyFrom 26 = .ok (.aload_n 1, 1) := by decide +kernel
theorem dX5_copyFrom_27 : decode cX5_copyFrom 27 = .ok (.getfield 28, 3) := by decide +kernel
theorem dX5_copyFrom_30 : decode cX5_copyFrom 30 = .ok (.invokevirtual 87, 3) := by decide +kernel
theorem dX5_copyFrom_33 : decode cX5_copyFrom 33 = .ok (.aload_n 0, 1) := by decide +kernel
theorem dX5_copyFrom_34 : decode cX5_copyFrom 34 = .ok (.getfield 35, 3) := by decide +kernel
theorem dX5_copyFrom_37 : decode cX5_copyFrom 37 = .ok (.aload_n 1, 1) := by decide +kernel
theorem dX5_copyFrom_38 : decode cX5_copyFrom 38 = .ok (.getfield 35, 3) := by decide +kernel
theorem dX5_copyFrom_41 : decode cX5_copyFrom 41 = .ok (.invokevirtual 90, 3) := by decide +kernel
theorem dX5_copyFrom_44 : decode cX5_copyFrom 44 = .ok (.aload_n 0, 1) := by decide +kernel
theorem dX5_copyFrom_45 : decode cX5_copyFrom 45 = .ok (.getfield 42, 3) := by decide +kernel
theorem dX5_copyFrom_48 : decode cX5_copyFrom 48 = .ok (.aload_n 1, 1) := by decide +kernel
theorem dX5_copyFrom_49 : decode cX5_copyFrom 49 = .ok (.getfield 42, 3) := by decide +kernel
theorem dX5_copyFrom_52 : decode cX5_copyFrom 52 = .ok (.invokevirtual 93, 3) := by decide +kernel
theorem dX5_copyFrom_55 : decode cX5_copyFrom 55 = .ok (.aload_n 0, 1) := by decide +kernel
theorem dX5_copyFrom_56 : decode cX5_copyFrom 56 = .ok (.getfield 49, 3) := by decide +kernel
theorem dX5_copyFrom_59 : decode cX5_copyFrom 59 = .ok (.aload_n 1, 1) := by decide +kernel
theorem dX5_copyFrom_60 : decode cX5_copyFrom 60 = .ok (.getfield 49, 3) := by decide +kernel
theorem dX5_copyFrom_63 : decode cX5_copyFrom 63 = .ok (.invokevirtual 96, 3) := by decide +kernel
theorem dX5_copyFrom_66 : decode cX5_copyFrom 66 = .ok (.aload_n 0, 1) := by decide +kernel
theorem dX5_copyFrom_67 : decode cX5_copyFrom 67 = .ok (.aload_n 1, 1) := by decide +kernel
theorem dX5_copyFrom_68 : decode cX5_copyFrom 68 = .ok (.getfield 53, 3) := by decide +kernel
theorem dX5_copyFrom_71 : decode cX5_copyFrom 71 = .ok (.putfield 53, 3) := by decide +kernel
theorem dX5_copyFrom_74 : decode cX5_copyFrom 74 = .ok (.aload_n 0, 1) := by decide +kernel
theorem dX5_copyFrom_75 : decode cX5_copyFrom 75 = .ok (.aload_n 1, 1) := by decide +kernel
theorem dX5_copyFrom_76 : decode cX5_copyFrom 76 = .ok (.getfield 57, 3) := by decide +kernel
theorem dX5_copyFrom_79 : decode cX5_copyFrom 79 = .ok (.putfield 57, 3) := by decide +kernel
theorem dX5_copyFrom_82 : decode cX5_copyFrom 82 = .ok (.aload_n 0, 1) := by decide +kernel
theorem dX5_copyFrom_83 : decode cX5_copyFrom 83 = .ok (.invokevirtual 99, 3) := by decide +kernel
theorem dX5_copyFrom_86 : decode cX5_copyFrom 86 = .ok (.return_, 1) := by decide +kernel
theorem dX5_drawFrame_0 : decode cX5_drawFrame 0 = .ok (.aload_n 0, 1) := by decide +kernel
theorem dX5_drawFrame_1 : decode cX5_drawFrame 1 = .ok (.iload_n 1, 1) := by decide +kernel
theorem dX5_drawFrame_2 : decode cX5_drawFrame 2 = .ok (.invokevirtual 166, 3) := by decide +kernel
theorem dX5_drawFrame_5 : decode cX5_drawFrame 5 = .ok (.istore_n 3, 1) := by decide +kernel
theorem dX5_drawFrame_6 : decode cX5_drawFrame 6 = .ok (.aload_n 0, 1) := by decide +kernel
theorem dX5_drawFrame_7 : decode cX5_drawFrame 7 = .ok (.iload_n 3, 1) := by decide +kernel
theorem dX5_drawFrame_8 : decode cX5_drawFrame 8 = .ok (.bipush 16, 2) := by decide +kernel
theorem dX5_drawFrame_10 : decode cX5_drawFrame 10 = .ok (.invokevirtual 169, 3) := by decide +kernel
theorem dX5_drawFrame_13 : decode cX5_drawFrame 13 = .ok (.iload_n 2, 1) := by decide +kernel
theorem dX5_drawFrame_14 : decode cX5_drawFrame 14 = .ok (.if_icmp .ge 13, 3) := by decide +kernel
theorem dX5_drawFrame_17 : decode cX5_drawFrame 17 = .ok (.aload_n 0, 1) := by decide +kernel
theorem dX5_drawFrame_18 : decode cX5_drawFrame 18 = .ok (.getfield 12, 3) := by decide +kernel
theorem dX5_drawFrame_21 : decode cX5_drawFrame 21 = .ok (.getfield 151, 3) := by decide +kernel
theorem dX5_drawFrame_24 : decode cX5_drawFrame 24 = .ok (.ifCond .ne 5, 3) := by decide +kernel
theorem dX5_drawFrame_27 : decode cX5_drawFrame 27 = .ok (.iload_n 3, 1) := by decide +kernel
theorem dX5_drawFrame_28 : decode cX5_drawFrame 28 = .ok (.ireturn, 1) := by decide +kernel
theorem dX5_drawn_0 : decode cX5_drawn 0 = .ok (.iload_n 1, 1) := by decide +kernel
theorem dX5_drawn_1 : decode cX5_drawn 1 = .ok (.iload_n 2, 1) := by decide +kernel
theorem dX5_drawn_2 : decode cX5_drawn 2 = .ok (.imul, 1) := by decide +kernel
theorem dX5_drawn_3 : decode cX5_drawn 3 = .ok (.ldc 165, 2) := by decide +kernel
theorem dX5_drawn_5 : decode cX5_drawn 5 = .ok (.idiv, 1) := by decide +kernel
theorem dX5_drawn_6 : decode cX5_drawn 6 = .ok (.ireturn, 1) := by decide +kernel
theorem dX5_forgetLatestTick_0 : decode cX5_forgetLatestTick 0 = .ok (.aload_n 0, 1) := by decide +kernel
theorem dX5_forgetLatestTick_1 : decode cX5_forgetLatestTick 1 = .ok (.iconst (-1), 1) := by decide +kernel
theorem dX5_forgetLatestTick_2 : decode cX5_forgetLatestTick 2 = .ok (.putfield 60, 3) := by decide +kernel
theorem dX5_forgetLatestTick_5 : decode cX5_forgetLatestTick 5 = .ok (.aload_n 0, 1) := by decide +kernel
theorem dX5_forgetLatestTick_6 : decode cX5_forgetLatestTick 6 = .ok (.iconst (-1), 1) := by decide +kernel
theorem dX5_forgetLatestTick_7 : decode cX5_forgetLatestTick 7 = .ok (.putfield 63, 3) := by decide +kernel
theorem dX5_forgetLatestTick_10 : decode cX5_forgetLatestTick 10 = .ok (.aload_n 0, 1) := by decide +kernel
theorem dX5_forgetLatestTick_11 : decode cX5_forgetLatestTick 11 = .ok (.iconst 0, 1) := by decide +kernel
theorem dX5_forgetLatestTick_12 : decode cX5_forgetLatestTick 12 = .ok (.putfield 66, 3) := by decide +kernel
theorem dX5_forgetLatestTick_15 : decode cX5_forgetLatestTick 15 = .ok (.return_, 1) := by decide +kernel
theorem dX5_hasFrame_0 : decode cX5_hasFrame 0 = .ok (.aload_n 0, 1) := by decide +kernel
theorem dX5_hasFrame_1 : decode cX5_hasFrame 1 = .ok (.getfield 35, 3) := by decide +kernel
theorem dX5_hasFrame_4 : decode cX5_hasFrame 4 = .ok (.getfield 142, 3) := by decide +kernel
theorem dX5_hasFrame_7 : decode cX5_hasFrame 7 = .ok (.iconst 2, 1) := by decide +kernel
theorem dX5_hasFrame_8 : decode cX5_hasFrame 8 = .ok (.if_icmp .ne 14, 3) := by decide +kernel
theorem dX5_hasFrame_22 : decode cX5_hasFrame 22 = .ok (.aload_n 0, 1) := by decide +kernel
theorem dX5_hasFrame_23 : decode cX5_hasFrame 23 = .ok (.getfield 21, 3) := by decide +kernel
theorem dX5_hasFrame_26 : decode cX5_hasFrame 26 = .ok (.iload_n 1, 1) := by decide +kernel
theorem dX5_hasFrame_27 : decode cX5_hasFrame 27 = .ok (.invokevirtual 148, 3) := by decide +kernel
theorem dX5_hasFrame_30 : decode cX5_hasFrame 30 = .ok (.iconst (-1), 1) := by decide +kernel
theorem dX5_hasFrame_31 : decode cX5_hasFrame 31 = .ok (.if_icmp .eq 7, 3) := by decide +kernel
theorem dX5_hasFrame_38 : decode cX5_hasFrame 38 = .ok (.iconst 0, 1) := by decide +kernel
theorem dX5_hasFrame_39 : decode cX5_hasFrame 39 = .ok (.ireturn, 1) := by decide +kernel
theorem dX5_isQuiet_0 : decode cX5_isQuiet 0 = .ok (.aload_n 0, 1) := by decide +kernel
theorem dX5_isQuiet_1 : decode cX5_isQuiet 1 = .ok (.getfield 35, 3) := by decide +kernel
theorem dX5_isQuiet_4 : decode cX5_isQuiet 4 = .ok (.getfield 142, 3) := by decide +kernel
theorem dX5_isQuiet_7 : decode cX5_isQuiet 7 = .ok (.iconst 2, 1) := by decide +kernel
theorem dX5_isQuiet_8 : decode cX5_isQuiet 8 = .ok (.if_icmp .ne 5, 3) := by decide +kernel
theorem dX5_isQuiet_13 : decode cX5_isQuiet 13 = .ok (.iconst 0, 1) := by decide +kernel
theorem dX5_isQuiet_14 : decode cX5_isQuiet 14 = .ok (.istore_n 1, 1) := by decide +kernel
theorem dX5_isQuiet_15 : decode cX5_isQuiet 15 = .ok (.iload_n 1, 1) := by decide +kernel
theorem dX5_isQuiet_16 : decode cX5_isQuiet 16 = .ok (.aload_n 0, 1) := by decide +kernel
theorem dX5_isQuiet_17 : decode cX5_isQuiet 17 = .ok (.getfield 12, 3) := by decide +kernel
theorem dX5_isQuiet_20 : decode cX5_isQuiet 20 = .ok (.getfield 151, 3) := by decide +kernel
theorem dX5_isQuiet_23 : decode cX5_isQuiet 23 = .ok (.if_icmp .ge 33, 3) := by decide +kernel
theorem dX5_isQuiet_56 : decode cX5_isQuiet 56 = .ok (.iconst 1, 1) := by decide +kernel
theorem dX5_isQuiet_57 : decode cX5_isQuiet 57 = .ok (.ireturn, 1) := by decide +kernel
theorem dX5_nextDraw_0 : decode cX5_nextDraw 0 = .ok (.iload_n 1, 1) := by decide +kernel
theorem dX5_nextDraw_1 : decode cX5_nextDraw 1 = .ok (.sipush 3877, 3) := by decide +kernel
theorem dX5_nextDraw_4 : decode cX5_nextDraw 4 = .ok (.imul, 1) := by decide +kernel
theorem dX5_nextDraw_5 : decode cX5_nextDraw 5 = .ok (.sipush 29573, 3) := by decide +kernel
theorem dX5_nextDraw_8 : decode cX5_nextDraw 8 = .ok (.iadd, 1) := by decide +kernel
theorem dX5_nextDraw_9 : decode cX5_nextDraw 9 = .ok (.ldc 165, 2) := by decide +kernel
theorem dX5_nextDraw_11 : decode cX5_nextDraw 11 = .ok (.irem, 1) := by decide +kernel
theorem dX5_nextDraw_12 : decode cX5_nextDraw 12 = .ok (.ireturn, 1) := by decide +kernel
theorem dX5_passSilentTick_0 : decode cX5_passSilentTick 0 = .ok (.aload_n 0, 1) := by decide +kernel
theorem dX5_passSilentTick_1 : decode cX5_passSilentTick 1 = .ok (.getfield 42, 3) := by decide +kernel
theorem dX5_passSilentTick_4 : decode cX5_passSilentTick 4 = .ok (.dup, 1) := by decide +kernel
theorem dX5_passSilentTick_5 : decode cX5_passSilentTick 5 = .ok (.getfield 284, 3) := by decide +kernel
theorem dX5_passSilentTick_8 : decode cX5_passSilentTick 8 = .ok (.iconst 1, 1) := by decide +kernel
theorem dX5_passSilentTick_9 : decode cX5_passSilentTick 9 = .ok (.iadd, 1) := by decide +kernel
theorem dX5_passSilentTick_10 : decode cX5_passSilentTick 10 = .ok (.putfield 284, 3) := by decide +kernel
theorem dX5_passSilentTick_13 : decode cX5_passSilentTick 13 = .ok (.aload_n 0, 1) := by decide +kernel
theorem dX5_passSilentTick_14 : decode cX5_passSilentTick 14 = .ok (.getfield 12, 3) := by decide +kernel
theorem dX5_passSilentTick_17 : decode cX5_passSilentTick 17 = .ok (.invokevirtual 285, 3) := by decide +kernel
theorem dX5_passSilentTick_20 : decode cX5_passSilentTick 20 = .ok (.istore_n 1, 1) := by decide +kernel
theorem dX5_passSilentTick_21 : decode cX5_passSilentTick 21 = .ok (.iload_n 1, 1) := by decide +kernel
theorem dX5_passSilentTick_22 : decode cX5_passSilentTick 22 = .ok (.ifCond .ne 4, 3) := by decide +kernel
theorem dX5_passSilentTick_25 : decode cX5_passSilentTick 25 = .ok (.return_, 1) := by decide +kernel
theorem dX5_passTick_0 : decode cX5_passTick 0 = .ok (.aload_n 0, 1) := by decide +kernel
theorem dX5_passTick_1 : decode cX5_passTick 1 = .ok (.dup, 1) := by decide +kernel
theorem dX5_passTick_2 : decode cX5_passTick 2 = .ok (.getfield 53, 3) := by decide +kernel
theorem dX5_passTick_5 : decode cX5_passTick 5 = .ok (.iconst 1, 1) := by decide +kernel
theorem dX5_passTick_6 : decode cX5_passTick 6 = .ok (.iadd, 1) := by decide +kernel
theorem dX5_passTick_7 : decode cX5_passTick 7 = .ok (.putfield 53, 3) := by decide +kernel
theorem dX5_passTick_10 : decode cX5_passTick 10 = .ok (.aload_n 0, 1) := by decide +kernel
theorem dX5_passTick_11 : decode cX5_passTick 11 = .ok (.invokevirtual 99, 3) := by decide +kernel
theorem dX5_passTick_14 : decode cX5_passTick 14 = .ok (.aload_n 0, 1) := by decide +kernel
theorem dX5_passTick_15 : decode cX5_passTick 15 = .ok (.getfield 35, 3) := by decide +kernel
theorem dX5_passTick_18 : decode cX5_passTick 18 = .ok (.getfield 142, 3) := by decide +kernel
theorem dX5_passTick_21 : decode cX5_passTick 21 = .ok (.ifCond .ne 10, 3) := by decide +kernel
theorem dX5_passTick_24 : decode cX5_passTick 24 = .ok (.aload_n 0, 1) := by decide +kernel
theorem dX5_passTick_25 : decode cX5_passTick 25 = .ok (.invokevirtual 195, 3) := by decide +kernel
theorem dX5_passTick_28 : decode cX5_passTick 28 = .ok (.goto 8, 3) := by decide +kernel
theorem dX5_passTick_36 : decode cX5_passTick 36 = .ok (.return_, 1) := by decide +kernel
theorem dX5_startSilence_0 : decode cX5_startSilence 0 = .ok (.aload_n 0, 1) := by decide +kernel
theorem dX5_startSilence_1 : decode cX5_startSilence 1 = .ok (.getfield 35, 3) := by decide +kernel
theorem dX5_startSilence_4 : decode cX5_startSilence 4 = .ok (.getfield 142, 3) := by decide +kernel
theorem dX5_startSilence_7 : decode cX5_startSilence 7 = .ok (.ifCond .ne 10, 3) := by decide +kernel
theorem dX5_startSilence_10 : decode cX5_startSilence 10 = .ok (.aload_n 0, 1) := by decide +kernel
theorem dX5_startSilence_11 : decode cX5_startSilence 11 = .ok (.getfield 42, 3) := by decide +kernel
theorem dX5_startSilence_14 : decode cX5_startSilence 14 = .ok (.invokevirtual 76, 3) := by decide +kernel
theorem dX5_startSilence_17 : decode cX5_startSilence 17 = .ok (.return_, 1) := by decide +kernel
theorem dX6_copyFrom_0 : decode cX6_copyFrom 0 = .ok (.aload_n 0, 1) := by decide +kernel
theorem dX6_copyFrom_1 : decode cX6_copyFrom 1 = .ok (.aload_n 1, 1) := by decide +kernel
theorem dX6_copyFrom_2 : decode cX6_copyFrom 2 = .ok (.getfield 9, 3) := by decide +kernel
theorem dX6_copyFrom_5 : decode cX6_copyFrom 5 = .ok (.putfield 9, 3) := by decide +kernel
theorem dX6_copyFrom_8 : decode cX6_copyFrom 8 = .ok (.aload_n 0, 1) := by decide +kernel
theorem dX6_copyFrom_9 : decode cX6_copyFrom 9 = .ok (.aload_n 1, 1) := by decide +kernel
theorem dX6_copyFrom_10 : decode cX6_copyFrom 10 = .ok (.getfield 15, 3) := by decide +kernel
theorem dX6_copyFrom_13 : decode cX6_copyFrom 13 = .ok (.putfield 15, 3) := by decide +kernel
theorem dX6_copyFrom_16 : decode cX6_copyFrom 16 = .ok (.aload_n 0, 1) := by decide +kernel
theorem dX6_copyFrom_17 : decode cX6_copyFrom 17 = .ok (.aload_n 1, 1) := by decide +kernel
theorem dX6_copyFrom_18 : decode cX6_copyFrom 18 = .ok (.getfield 18, 3) := by decide +kernel
theorem dX6_copyFrom_21 : decode cX6_copyFrom 21 = .ok (.putfield 18, 3) := by decide +kernel
theorem dX6_copyFrom_24 : decode cX6_copyFrom 24 = .ok (.aload_n 0, 1) := by decide +kernel
theorem dX6_copyFrom_25 : decode cX6_copyFrom 25 = .ok (.aload_n 1, 1) := by decide +kernel
theorem dX6_copyFrom_26 : decode cX6_copyFrom 26 = .ok (.getfield 21, 3) := by decide +kernel
theorem dX6_copyFrom_29 : decode cX6_copyFrom 29 = .ok (.putfield 21, 3) := by decide +kernel
theorem dX6_copyFrom_32 : decode cX6_copyFrom 32 = .ok (.return_, 1) := by decide +kernel
theorem dX6_restart_0 : decode cX6_restart 0 = .ok (.aload_n 0, 1) := by decide +kernel
theorem dX6_restart_1 : decode cX6_restart 1 = .ok (.iconst 0, 1) := by decide +kernel
theorem dX6_restart_2 : decode cX6_restart 2 = .ok (.putfield 9, 3) := by decide +kernel
theorem dX6_restart_5 : decode cX6_restart 5 = .ok (.aload_n 0, 1) := by decide +kernel
theorem dX6_restart_6 : decode cX6_restart 6 = .ok (.iconst 0, 1) := by decide +kernel
theorem dX6_restart_7 : decode cX6_restart 7 = .ok (.putfield 15, 3) := by decide +kernel
theorem dX6_restart_10 : decode cX6_restart 10 = .ok (.aload_n 0, 1) := by decide +kernel
theorem dX6_restart_11 : decode cX6_restart 11 = .ok (.iconst (-1), 1) := by decide +kernel
theorem dX6_restart_12 : decode cX6_restart 12 = .ok (.putfield 18, 3) := by decide +kernel
theorem dX6_restart_15 : decode cX6_restart 15 = .ok (.aload_n 0, 1) := by decide +kernel
theorem dX6_restart_16 : decode cX6_restart 16 = .ok (.iconst (-1), 1) := by decide +kernel
theorem dX6_restart_17 : decode cX6_restart 17 = .ok (.putfield 21, 3) := by decide +kernel
theorem dX6_restart_20 : decode cX6_restart 20 = .ok (.return_, 1) := by decide +kernel
theorem dX7_breakCounts_0 : decode cX7_breakCounts 0 = .ok (.aload_n 0, 1) := by decide +kernel
theorem dX7_breakCounts_1 : decode cX7_breakCounts 1 = .ok (.iconst (-1), 1) := by decide +kernel
theorem dX7_breakCounts_2 : decode cX7_breakCounts 2 = .ok (.invokevirtual 74, 3) := by decide +kernel
theorem dX7_breakCounts_5 : decode cX7_breakCounts 5 = .ok (.ireturn, 1) := by decide +kernel
theorem dX7_breakCountsWithout_0 : decode cX7_breakCountsWithout 0 = .ok (.aload_n 0, 1) := by decide +kernel
theorem dX7_breakCountsWithout_1 : decode cX7_breakCountsWithout 1 = .ok (.aload_n 0, 1) := by decide +kernel
theorem dX7_breakCountsWithout_2 : decode cX7_breakCountsWithout 2 = .ok (.getfield 35, 3) := by decide +kernel
theorem dX7_breakCountsWithout_5 : decode cX7_breakCountsWithout 5 = .ok (.invokevirtual 51, 3) := by decide +kernel
theorem dX7_breakCountsWithout_8 : decode cX7_breakCountsWithout 8 = .ok (.ifCond .ne 5, 3) := by decide +kernel
theorem dX7_breakCountsWithout_11 : decode cX7_breakCountsWithout 11 = .ok (.iconst 0, 1) := by decide +kernel
theorem dX7_breakCountsWithout_12 : decode cX7_breakCountsWithout 12 = .ok (.ireturn, 1) := by decide +kernel
theorem dX7_chiefIsOn_0 : decode cX7_chiefIsOn 0 = .ok (.aload_n 0, 1) := by decide +kernel
theorem dX7_chiefIsOn_1 : decode cX7_chiefIsOn 1 = .ok (.aload_n 0, 1) := by decide +kernel
theorem dX7_chiefIsOn_2 : decode cX7_chiefIsOn 2 = .ok (.getfield 32, 3) := by decide +kernel
theorem dX7_chiefIsOn_5 : decode cX7_chiefIsOn 5 = .ok (.invokevirtual 65, 3) := by decide +kernel
theorem dX7_chiefIsOn_8 : decode cX7_chiefIsOn 8 = .ok (.ireturn, 1) := by decide +kernel
theorem dX7_clear_0 : decode cX7_clear 0 = .ok (.aload_n 0, 1) := by decide +kernel
theorem dX7_clear_1 : decode cX7_clear 1 = .ok (.iconst 0, 1) := by decide +kernel
theorem dX7_clear_2 : decode cX7_clear 2 = .ok (.putfield 28, 3) := by decide +kernel
theorem dX7_clear_5 : decode cX7_clear 5 = .ok (.aload_n 0, 1) := by decide +kernel
theorem dX7_clear_6 : decode cX7_clear 6 = .ok (.iconst (-1), 1) := by decide +kernel
theorem dX7_clear_7 : decode cX7_clear 7 = .ok (.putfield 32, 3) := by decide +kernel
theorem dX7_clear_10 : decode cX7_clear 10 = .ok (.aload_n 0, 1) := by decide +kernel
theorem dX7_clear_11 : decode cX7_clear 11 = .ok (.iconst (-1), 1) := by decide +kernel
theorem dX7_clear_12 : decode cX7_clear 12 = .ok (.iconst (-1), 1) := by decide +kernel
theorem dX7_clear_13 : decode cX7_clear 13 = .ok (.invokevirtual 41, 3) := by decide +kernel
theorem dX7_clear_16 : decode cX7_clear 16 = .ok (.return_, 1) := by decide +kernel
theorem dX7_copyFrom_0 : decode cX7_copyFrom 0 = .ok (.aload_n 1, 1) := by decide +kernel
theorem dX7_copyFrom_1 : decode cX7_copyFrom 1 = .ok (.getfield 9, 3) := by decide +kernel
theorem dX7_copyFrom_4 : decode cX7_copyFrom 4 = .ok (.iconst 0, 1) := by decide +kernel
theorem dX7_copyFrom_5 : decode cX7_copyFrom 5 = .ok (.aload_n 0, 1) := by decide +kernel
theorem dX7_copyFrom_6 : decode cX7_copyFrom 6 = .ok (.getfield 9, 3) := by decide +kernel
theorem dX7_copyFrom_9 : decode cX7_copyFrom 9 = .ok (.iconst 0, 1) := by decide +kernel
theorem dX7_copyFrom_10 : decode cX7_copyFrom 10 = .ok (.bipush 8, 2) := by decide +kernel
theorem dX7_copyFrom_12 : decode cX7_copyFrom 12 = .ok (.invokestatic 45, 3) := by decide +kernel
theorem dX7_copyFrom_15 : decode cX7_copyFrom 15 = .ok (.aload_n 1, 1) := by decide +kernel
theorem dX7_copyFrom_16 : decode cX7_copyFrom 16 = .ok (.getfield 15, 3) := by decide +kernel
theorem dX7_copyFrom_19 : decode cX7_copyFrom 19 = .ok (.iconst 0, 1) := by decide +kernel
theorem dX7_copyFrom_20 : decode cX7_copyFrom 20 = .ok (.aload_n 0, 1) := by decide +kernel
theorem dX7_copyFrom_21 : decode cX7_copyFrom 21 = .ok (.getfield 15, 3) := by decide +kernel
theorem dX7_copyFrom_24 : decode cX7_copyFrom 24 = .ok (.iconst 0, 1) := by decide +kernel
theorem dX7_copyFrom_25 : decode cX7_copyFrom 25 = .ok (.bipush 8, 2) := by decide +kernel
theorem dX7_copyFrom_27 : decode cX7_copyFrom 27 = .ok (.invokestatic 45, 3) := by decide +kernel
theorem dX7_copyFrom_30 : decode cX7_copyFrom 30 = .ok (.aload_n 1, 1) := by decide +kernel
theorem dX7_copyFrom_31 : decode cX7_copyFrom 31 = .ok (.getfield 19, 3) := by decide +kernel
theorem dX7_copyFrom_34 : decode cX7_copyFrom 34 = .ok (.iconst 0, 1) := by decide +kernel
theorem dX7_copyFrom_35 : decode cX7_copyFrom 35 = .ok (.aload_n 0, 1) := by decide +kernel
theorem dX7_copyFrom_36 : decode cX7_copyFrom 36 = .ok (.getfield 19, 3) := by decide +kernel
theorem dX7_copyFrom_39 : decode cX7_copyFrom 39 = .ok (.iconst 0, 1) := by decide +kernel
theorem dX7_copyFrom_40 : decode cX7_copyFrom 40 = .ok (.bipush 8, 2) := by decide +kernel
theorem dX7_copyFrom_42 : decode cX7_copyFrom 42 = .ok (.invokestatic 45, 3) := by decide +kernel
theorem dX7_copyFrom_45 : decode cX7_copyFrom 45 = .ok (.aload_n 1, 1) := by decide +kernel
theorem dX7_copyFrom_46 : decode cX7_copyFrom 46 = .ok (.getfield 22, 3) := by decide +kernel
theorem dX7_copyFrom_49 : decode cX7_copyFrom 49 = .ok (.iconst 0, 1) := by decide +kernel
theorem dX7_copyFrom_50 : decode cX7_copyFrom 50 = .ok (.aload_n 0, 1) := by decide +kernel
theorem dX7_copyFrom_51 : decode cX7_copyFrom 51 = .ok (.getfield 22, 3) := by decide +kernel
theorem dX7_copyFrom_54 : decode cX7_copyFrom 54 = .ok (.iconst 0, 1) := by decide +kernel
theorem dX7_copyFrom_55 : decode cX7_copyFrom 55 = .ok (.bipush 8, 2) := by decide +kernel
theorem dX7_copyFrom_57 : decode cX7_copyFrom 57 = .ok (.invokestatic 45, 3) := by decide +kernel
theorem dX7_copyFrom_60 : decode cX7_copyFrom 60 = .ok (.aload_n 1, 1) := by decide +kernel
theorem dX7_copyFrom_61 : decode cX7_copyFrom 61 = .ok (.getfield 25, 3) := by decide +kernel
theorem dX7_copyFrom_64 : decode cX7_copyFrom 64 = .ok (.iconst 0, 1) := by decide +kernel
theorem dX7_copyFrom_65 : decode cX7_copyFrom 65 = .ok (.aload_n 0, 1) := by decide +kernel
theorem dX7_copyFrom_66 : decode cX7_copyFrom 66 = .ok (.getfield 25, 3) := by decide +kernel
theorem dX7_copyFrom_69 : decode cX7_copyFrom 69 = .ok (.iconst 0, 1) := by decide +kernel
theorem dX7_copyFrom_70 : decode cX7_copyFrom 70 = .ok (.bipush 8, 2) := by decide +kernel
theorem dX7_copyFrom_72 : decode cX7_copyFrom 72 = .ok (.invokestatic 45, 3) := by decide +kernel
theorem dX7_copyFrom_75 : decode cX7_copyFrom 75 = .ok (.aload_n 0, 1) := by decide +kernel
theorem dX7_copyFrom_76 : decode cX7_copyFrom 76 = .ok (.aload_n 1, 1) := by decide +kernel
theorem dX7_copyFrom_77 : decode cX7_copyFrom 77 = .ok (.getfield 28, 3) := by decide +kernel
theorem dX7_copyFrom_80 : decode cX7_copyFrom 80 = .ok (.putfield 28, 3) := by decide +kernel
theorem dX7_copyFrom_83 : decode cX7_copyFrom 83 = .ok (.aload_n 0, 1) := by decide +kernel
theorem dX7_copyFrom_84 : decode cX7_copyFrom 84 = .ok (.aload_n 1, 1) := by decide +kernel
theorem dX7_copyFrom_85 : decode cX7_copyFrom 85 = .ok (.getfield 32, 3) := by decide +kernel
theorem dX7_copyFrom_88 : decode cX7_copyFrom 88 = .ok (.putfield 32, 3) := by decide +kernel
theorem dX7_copyFrom_91 : decode cX7_copyFrom 91 = .ok (.aload_n 0, 1) := by decide +kernel
theorem dX7_copyFrom_92 : decode cX7_copyFrom 92 = .ok (.aload_n 1, 1) := by decide +kernel
theorem dX7_copyFrom_93 : decode cX7_copyFrom 93 = .ok (.getfield 35, 3) := by decide +kernel
theorem dX7_copyFrom_96 : decode cX7_copyFrom 96 = .ok (.putfield 35, 3) := by decide +kernel
theorem dX7_copyFrom_99 : decode cX7_copyFrom 99 = .ok (.aload_n 0, 1) := by decide +kernel
theorem dX7_copyFrom_100 : decode cX7_copyFrom 100 = .ok (.aload_n 1, 1) := by decide +kernel
theorem dX7_copyFrom_101 : decode cX7_copyFrom 101 = .ok (.getfield 38, 3) := by decide +kernel
theorem dX7_copyFrom_104 : decode cX7_copyFrom 104 = .ok (.putfield 38, 3) := by decide +kernel
theorem dX7_copyFrom_107 : decode cX7_copyFrom 107 = .ok (.return_, 1) := by decide +kernel
theorem dX7_exists_0 : decode cX7_exists 0 = .ok (.iload_n 1, 1) := by decide +kernel
theorem dX7_exists_1 : decode cX7_exists 1 = .ok (.ifCond .lt 21, 3) := by decide +kernel
theorem dX7_exists_4 : decode cX7_exists 4 = .ok (.iload_n 1, 1) := by decide +kernel
theorem dX7_exists_5 : decode cX7_exists 5 = .ok (.aload_n 0, 1) := by decide +kernel
theorem dX7_exists_6 : decode cX7_exists 6 = .ok (.getfield 28, 3) := by decide +kernel
theorem dX7_exists_9 : decode cX7_exists 9 = .ok (.if_icmp .ge 13, 3) := by decide +kernel
theorem dX7_exists_22 : decode cX7_exists 22 = .ok (.iconst 0, 1) := by decide +kernel
theorem dX7_exists_23 : decode cX7_exists 23 = .ok (.ireturn, 1) := by decide +kernel
theorem dX7_greatestOn_0 : decode cX7_greatestOn 0 = .ok (.iconst (-1), 1) := by decide +kernel
theorem dX7_greatestOn_1 : decode cX7_greatestOn 1 = .ok (.istore_n 1, 1) := by decide +kernel
theorem dX7_greatestOn_2 : decode cX7_greatestOn 2 = .ok (.iconst (-1), 1) := by decide +kernel
theorem dX7_greatestOn_3 : decode cX7_greatestOn 3 = .ok (.istore_n 2, 1) := by decide +kernel
theorem dX7_greatestOn_4 : decode cX7_greatestOn 4 = .ok (.iconst 0, 1) := by decide +kernel
theorem dX7_greatestOn_5 : decode cX7_greatestOn 5 = .ok (.istore_n 3, 1) := by decide +kernel
theorem dX7_greatestOn_6 : decode cX7_greatestOn 6 = .ok (.iload_n 3, 1) := by decide +kernel
theorem dX7_greatestOn_7 : decode cX7_greatestOn 7 = .ok (.aload_n 0, 1) := by decide +kernel
theorem dX7_greatestOn_8 : decode cX7_greatestOn 8 = .ok (.getfield 28, 3) := by decide +kernel
theorem dX7_greatestOn_11 : decode cX7_greatestOn 11 = .ok (.if_icmp .ge 36, 3) := by decide +kernel
theorem dX7_greatestOn_47 : decode cX7_greatestOn 47 = .ok (.iload_n 1, 1) := by decide +kernel
theorem dX7_greatestOn_48 : decode cX7_greatestOn 48 = .ok (.ireturn, 1) := by decide +kernel
theorem dX7_isOn_0 : decode cX7_isOn 0 = .ok (.iload_n 1, 1) := by decide +kernel
theorem dX7_isOn_1 : decode cX7_isOn 1 = .ok (.ifCond .lt 30, 3) := by decide +kernel
theorem dX7_isOn_4 : decode cX7_isOn 4 = .ok (.iload_n 1, 1) := by decide +kernel
theorem dX7_isOn_5 : decode cX7_isOn 5 = .ok (.aload_n 0, 1) := by decide +kernel
theorem dX7_isOn_6 : decode cX7_isOn 6 = .ok (.getfield 28, 3) := by decide +kernel
theorem dX7_isOn_9 : decode cX7_isOn 9 = .ok (.if_icmp .ge 22, 3) := by decide +kernel
theorem dX7_isOn_31 : decode cX7_isOn 31 = .ok (.iconst 0, 1) := by decide +kernel
theorem dX7_isOn_32 : decode cX7_isOn 32 = .ok (.ireturn, 1) := by decide +kernel
theorem dX7_onBits_0 : decode cX7_onBits 0 = .ok (.iconst 0, 1) := by decide +kernel
theorem dX7_onBits_1 : decode cX7_onBits 1 = .ok (.istore_n 1, 1) := by decide +kernel
theorem dX7_onBits_2 : decode cX7_onBits 2 = .ok (.iconst 0, 1) := by decide +kernel
theorem dX7_onBits_3 : decode cX7_onBits 3 = .ok (.istore_n 2, 1) := by decide +kernel
theorem dX7_onBits_4 : decode cX7_onBits 4 = .ok (.iload_n 2, 1) := by decide +kernel
theorem dX7_onBits_5 : decode cX7_onBits 5 = .ok (.aload_n 0, 1) := by decide +kernel
theorem dX7_onBits_6 : decode cX7_onBits 6 = .ok (.getfield 28, 3) := by decide +kernel
theorem dX7_onBits_9 : decode cX7_onBits 9 = .ok (.if_icmp .ge 23, 3) := by decide +kernel
theorem dX7_onBits_32 : decode cX7_onBits 32 = .ok (.iload_n 1, 1) := by decide +kernel
theorem dX7_onBits_33 : decode cX7_onBits 33 = .ok (.ireturn, 1) := by decide +kernel
theorem dX7_onCount_0 : decode cX7_onCount 0 = .ok (.aload_n 0, 1) := by decide +kernel
theorem dX7_onCount_1 : decode cX7_onCount 1 = .ok (.invokevirtual 55, 3) := by decide +kernel
theorem dX7_onCount_4 : decode cX7_onCount 4 = .ok (.invokestatic 59, 3) := by decide +kernel
theorem dX7_onCount_7 : decode cX7_onCount 7 = .ok (.ireturn, 1) := by decide +kernel
theorem dX7_setBreak_0 : decode cX7_setBreak 0 = .ok (.aload_n 0, 1) := by decide +kernel
theorem dX7_setBreak_1 : decode cX7_setBreak 1 = .ok (.iload_n 1, 1) := by decide +kernel
theorem dX7_setBreak_2 : decode cX7_setBreak 2 = .ok (.putfield 35, 3) := by decide +kernel
theorem dX7_setBreak_5 : decode cX7_setBreak 5 = .ok (.aload_n 0, 1) := by decide +kernel
theorem dX7_setBreak_6 : decode cX7_setBreak 6 = .ok (.iload_n 2, 1) := by decide +kernel
theorem dX7_setBreak_7 : decode cX7_setBreak 7 = .ok (.putfield 38, 3) := by decide +kernel
theorem dX7_setBreak_10 : decode cX7_setBreak 10 = .ok (.return_, 1) := by decide +kernel
theorem dX7_staleBits_0 : decode cX7_staleBits 0 = .ok (.iconst 0, 1) := by decide +kernel
theorem dX7_staleBits_1 : decode cX7_staleBits 1 = .ok (.istore_n 1, 1) := by decide +kernel
theorem dX7_staleBits_2 : decode cX7_staleBits 2 = .ok (.iconst 0, 1) := by decide +kernel
theorem dX7_staleBits_3 : decode cX7_staleBits 3 = .ok (.istore_n 2, 1) := by decide +kernel
theorem dX7_staleBits_4 : decode cX7_staleBits 4 = .ok (.iload_n 2, 1) := by decide +kernel
theorem dX7_staleBits_5 : decode cX7_staleBits 5 = .ok (.aload_n 0, 1) := by decide +kernel
theorem dX7_staleBits_6 : decode cX7_staleBits 6 = .ok (.getfield 28, 3) := by decide +kernel
theorem dX7_staleBits_9 : decode cX7_staleBits 9 = .ok (.if_icmp .ge 37, 3) := by decide +kernel
theorem dX7_staleBits_46 : decode cX7_staleBits 46 = .ok (.iload_n 1, 1) := by decide +kernel
theorem dX7_staleBits_47 : decode cX7_staleBits 47 = .ok (.ireturn, 1) := by decide +kernel
theorem dX8_copyFrom_0 : decode cX8_copyFrom 0 = .ok (.aload_n 1, 1) := by decide +kernel
theorem dX8_copyFrom_1 : decode cX8_copyFrom 1 = .ok (.getfield 9, 3) := by decide +kernel
theorem dX8_copyFrom_4 : decode cX8_copyFrom 4 = .ok (.iconst 0, 1) := by decide +kernel
theorem dX8_copyFrom_5 : decode cX8_copyFrom 5 = .ok (.aload_n 0, 1) := by decide +kernel
theorem dX8_copyFrom_6 : decode cX8_copyFrom 6 = .ok (.getfield 9, 3) := by decide +kernel
theorem dX8_copyFrom_9 : decode cX8_copyFrom 9 = .ok (.iconst 0, 1) := by decide +kernel
theorem dX8_copyFrom_10 : decode cX8_copyFrom 10 = .ok (.sipush 500, 3) := by decide +kernel
theorem dX8_copyFrom_13 : decode cX8_copyFrom 13 = .ok (.invokestatic 25, 3) := by decide +kernel
theorem dX8_copyFrom_16 : decode cX8_copyFrom 16 = .ok (.aload_n 0, 1) := by decide +kernel
theorem dX8_copyFrom_17 : decode cX8_copyFrom 17 = .ok (.aload_n 1, 1) := by decide +kernel
theorem dX8_copyFrom_18 : decode cX8_copyFrom 18 = .ok (.getfield 15, 3) := by decide +kernel
theorem dX8_copyFrom_21 : decode cX8_copyFrom 21 = .ok (.putfield 15, 3) := by decide +kernel
theorem dX8_copyFrom_24 : decode cX8_copyFrom 24 = .ok (.aload_n 0, 1) := by decide +kernel
theorem dX8_copyFrom_25 : decode cX8_copyFrom 25 = .ok (.aload_n 1, 1) := by decide +kernel
theorem dX8_copyFrom_26 : decode cX8_copyFrom 26 = .ok (.getfield 19, 3) := by decide +kernel
theorem dX8_copyFrom_29 : decode cX8_copyFrom 29 = .ok (.putfield 19, 3) := by decide +kernel
theorem dX8_copyFrom_32 : decode cX8_copyFrom 32 = .ok (.aload_n 0, 1) := by decide +kernel
theorem dX8_copyFrom_33 : decode cX8_copyFrom 33 = .ok (.aload_n 1, 1) := by decide +kernel
theorem dX8_copyFrom_34 : decode cX8_copyFrom 34 = .ok (.getfield 22, 3) := by decide +kernel
theorem dX8_copyFrom_37 : decode cX8_copyFrom 37 = .ok (.putfield 22, 3) := by decide +kernel
theorem dX8_copyFrom_40 : decode cX8_copyFrom 40 = .ok (.return_, 1) := by decide +kernel
theorem dX9_clear_0 : decode cX9_clear 0 = .ok (.aload_n 0, 1) := by decide +kernel
theorem dX9_clear_1 : decode cX9_clear 1 = .ok (.iconst 0, 1) := by decide +kernel
theorem dX9_clear_2 : decode cX9_clear 2 = .ok (.putfield 9, 3) := by decide +kernel
theorem dX9_clear_5 : decode cX9_clear 5 = .ok (.aload_n 0, 1) := by decide +kernel
theorem dX9_clear_6 : decode cX9_clear 6 = .ok (.iconst (-1), 1) := by decide +kernel
theorem dX9_clear_7 : decode cX9_clear 7 = .ok (.putfield 15, 3) := by decide +kernel
theorem dX9_clear_10 : decode cX9_clear 10 = .ok (.aload_n 0, 1) := by decide +kernel
theorem dX9_clear_11 : decode cX9_clear 11 = .ok (.iconst 0, 1) := by decide +kernel
theorem dX9_clear_12 : decode cX9_clear 12 = .ok (.putfield 18, 3) := by decide +kernel
theorem dX9_clear_15 : decode cX9_clear 15 = .ok (.aload_n 0, 1) := by decide +kernel
theorem dX9_clear_16 : decode cX9_clear 16 = .ok (.iconst 0, 1) := by decide +kernel
theorem dX9_clear_17 : decode cX9_clear 17 = .ok (.putfield 21, 3) := by decide +kernel
theorem dX9_clear_20 : decode cX9_clear 20 = .ok (.aload_n 0, 1) := by decide +kernel
theorem dX9_clear_21 : decode cX9_clear 21 = .ok (.iconst 0, 1) := by decide +kernel
theorem dX9_clear_22 : decode cX9_clear 22 = .ok (.putfield 24, 3) := by decide +kernel
theorem dX9_clear_25 : decode cX9_clear 25 = .ok (.return_, 1) := by decide +kernel
theorem dX9_copyFrom_0 : decode cX9_copyFrom 0 = .ok (.aload_n 0, 1) := by decide +kernel
theorem dX9_copyFrom_1 : decode cX9_copyFrom 1 = .ok (.aload_n 1, 1) := by decide +kernel
theorem dX9_copyFrom_2 : decode cX9_copyFrom 2 = .ok (.getfield 9, 3) := by decide +kernel
theorem dX9_copyFrom_5 : decode cX9_copyFrom 5 = .ok (.putfield 9, 3) := by decide +kernel
theorem dX9_copyFrom_8 : decode cX9_copyFrom 8 = .ok (.aload_n 0, 1) := by decide +kernel
theorem dX9_copyFrom_9 : decode cX9_copyFrom 9 = .ok (.aload_n 1, 1) := by decide +kernel
theorem dX9_copyFrom_10 : decode cX9_copyFrom 10 = .ok (.getfield 15, 3) := by decide +kernel
theorem dX9_copyFrom_13 : decode cX9_copyFrom 13 = .ok (.putfield 15, 3) := by decide +kernel
theorem dX9_copyFrom_16 : decode cX9_copyFrom 16 = .ok (.aload_n 0, 1) := by decide +kernel
theorem dX9_copyFrom_17 : decode cX9_copyFrom 17 = .ok (.aload_n 1, 1) := by decide +kernel
theorem dX9_copyFrom_18 : decode cX9_copyFrom 18 = .ok (.getfield 18, 3) := by decide +kernel
theorem dX9_copyFrom_21 : decode cX9_copyFrom 21 = .ok (.putfield 18, 3) := by decide +kernel
theorem dX9_copyFrom_24 : decode cX9_copyFrom 24 = .ok (.aload_n 0, 1) := by decide +kernel
theorem dX9_copyFrom_25 : decode cX9_copyFrom 25 = .ok (.aload_n 1, 1) := by decide +kernel
theorem dX9_copyFrom_26 : decode cX9_copyFrom 26 = .ok (.getfield 21, 3) := by decide +kernel
theorem dX9_copyFrom_29 : decode cX9_copyFrom 29 = .ok (.putfield 21, 3) := by decide +kernel
theorem dX9_copyFrom_32 : decode cX9_copyFrom 32 = .ok (.aload_n 0, 1) := by decide +kernel
theorem dX9_copyFrom_33 : decode cX9_copyFrom 33 = .ok (.aload_n 1, 1) := by decide +kernel
theorem dX9_copyFrom_34 : decode cX9_copyFrom 34 = .ok (.getfield 24, 3) := by decide +kernel
theorem dX9_copyFrom_37 : decode cX9_copyFrom 37 = .ok (.putfield 24, 3) := by decide +kernel
theorem dX9_copyFrom_40 : decode cX9_copyFrom 40 = .ok (.aload_n 0, 1) := by decide +kernel
theorem dX9_copyFrom_41 : decode cX9_copyFrom 41 = .ok (.aload_n 1, 1) := by decide +kernel
theorem dX9_copyFrom_42 : decode cX9_copyFrom 42 = .ok (.getfield 28, 3) := by decide +kernel
theorem dX9_copyFrom_45 : decode cX9_copyFrom 45 = .ok (.putfield 28, 3) := by decide +kernel
theorem dX9_copyFrom_48 : decode cX9_copyFrom 48 = .ok (.aload_n 0, 1) := by decide +kernel
theorem dX9_copyFrom_49 : decode cX9_copyFrom 49 = .ok (.aload_n 1, 1) := by decide +kernel
theorem dX9_copyFrom_50 : decode cX9_copyFrom 50 = .ok (.getfield 31, 3) := by decide +kernel
theorem dX9_copyFrom_53 : decode cX9_copyFrom 53 = .ok (.putfield 31, 3) := by decide +kernel
theorem dX9_copyFrom_56 : decode cX9_copyFrom 56 = .ok (.aload_n 0, 1) := by decide +kernel
theorem dX9_copyFrom_57 : decode cX9_copyFrom 57 = .ok (.aload_n 1, 1) := by decide +kernel
theorem dX9_copyFrom_58 : decode cX9_copyFrom 58 = .ok (.getfield 34, 3) := by decide +kernel
theorem dX9_copyFrom_61 : decode cX9_copyFrom 61 = .ok (.putfield 34, 3) := by decide +kernel
theorem dX9_copyFrom_64 : decode cX9_copyFrom 64 = .ok (.aload_n 0, 1) := by decide +kernel
theorem dX9_copyFrom_65 : decode cX9_copyFrom 65 = .ok (.aload_n 1, 1) := by decide +kernel
theorem dX9_copyFrom_66 : decode cX9_copyFrom 66 = .ok (.getfield 37, 3) := by decide +kernel
theorem dX9_copyFrom_69 : decode cX9_copyFrom 69 = .ok (.putfield 37, 3) := by decide +kernel
theorem dX9_copyFrom_72 : decode cX9_copyFrom 72 = .ok (.aload_n 0, 1) := by decide +kernel
theorem dX9_copyFrom_73 : decode cX9_copyFrom 73 = .ok (.aload_n 1, 1) := by decide +kernel
theorem dX9_copyFrom_74 : decode cX9_copyFrom 74 = .ok (.getfield 40, 3) := by decide +kernel
theorem dX9_copyFrom_77 : decode cX9_copyFrom 77 = .ok (.putfield 40, 3) := by decide +kernel
theorem dX9_copyFrom_80 : decode cX9_copyFrom 80 = .ok (.aload_n 0, 1) := by decide +kernel
theorem dX9_copyFrom_81 : decode cX9_copyFrom 81 = .ok (.aload_n 1, 1) := by decide +kernel
theorem dX9_copyFrom_82 : decode cX9_copyFrom 82 = .ok (.getfield 43, 3) := by decide +kernel
theorem dX9_copyFrom_85 : decode cX9_copyFrom 85 = .ok (.putfield 43, 3) := by decide +kernel
theorem dX9_copyFrom_88 : decode cX9_copyFrom 88 = .ok (.return_, 1) := by decide +kernel
theorem dX9_tell_0 : decode cX9_tell 0 = .ok (.iload_n 1, 1) := by decide +kernel
theorem dX9_tell_1 : decode cX9_tell 1 = .ok (.tableswitch 121 0 9 #[55, 60, 65, 70, 75, 88, 93, 98, 103, 116], 55) := by decide +kernel
theorem dX9_tell_56 : decode cX9_tell 56 = .ok (.aload_n 0, 1) := by decide +kernel
theorem dX9_tell_57 : decode cX9_tell 57 = .ok (.getfield 9, 3) := by decide +kernel
theorem dX9_tell_60 : decode cX9_tell 60 = .ok (.ireturn, 1) := by decide +kernel
theorem dX9_tell_61 : decode cX9_tell 61 = .ok (.aload_n 0, 1) := by decide +kernel
theorem dX9_tell_62 : decode cX9_tell 62 = .ok (.getfield 15, 3) := by decide +kernel
theorem dX9_tell_65 : decode cX9_tell 65 = .ok (.ireturn, 1) := by decide +kernel
theorem dX9_tell_66 : decode cX9_tell 66 = .ok (.aload_n 0, 1) := by decide +kernel
theorem dX9_tell_67 : decode cX9_tell 67 = .ok (.getfield 18, 3) := by decide +kernel
theorem dX9_tell_70 : decode cX9_tell 70 = .ok (.ireturn, 1) := by decide +kernel
theorem dX9_tell_71 : decode cX9_tell 71 = .ok (.aload_n 0, 1) := by decide +kernel
theorem dX9_tell_72 : decode cX9_tell 72 = .ok (.getfield 21, 3) := by decide +kernel
theorem dX9_tell_75 : decode cX9_tell 75 = .ok (.ireturn, 1) := by decide +kernel
theorem dX9_tell_76 : decode cX9_tell 76 = .ok (.aload_n 0, 1) := by decide +kernel
theorem dX9_tell_77 : decode cX9_tell 77 = .ok (.getfield 24, 3) := by decide +kernel
theorem dX9_tell_80 : decode cX9_tell 80 = .ok (.ifCond .eq 7, 3) := by decide +kernel
theorem dX9_tell_87 : decode cX9_tell 87 = .ok (.iconst 0, 1) := by decide +kernel
theorem dX9_tell_88 : decode cX9_tell 88 = .ok (.ireturn, 1) := by decide +kernel
theorem dX9_tell_89 : decode cX9_tell 89 = .ok (.aload_n 0, 1) := by decide +kernel
theorem dX9_tell_90 : decode cX9_tell 90 = .ok (.getfield 28, 3) := by decide +kernel
theorem dX9_tell_93 : decode cX9_tell 93 = .ok (.ireturn, 1) := by decide +kernel
theorem dX9_tell_94 : decode cX9_tell 94 = .ok (.aload_n 0, 1) := by decide +kernel
theorem dX9_tell_95 : decode cX9_tell 95 = .ok (.getfield 31, 3) := by decide +kernel
theorem dX9_tell_98 : decode cX9_tell 98 = .ok (.ireturn, 1) := by decide +kernel
theorem dX9_tell_99 : decode cX9_tell 99 = .ok (.aload_n 0, 1) := by decide +kernel
theorem dX9_tell_100 : decode cX9_tell 100 = .ok (.getfield 34, 3) := by decide +kernel
theorem dX9_tell_103 : decode cX9_tell 103 = .ok (.ireturn, 1) := by decide +kernel
theorem dX9_tell_104 : decode cX9_tell 104 = .ok (.aload_n 0, 1) := by decide +kernel
theorem dX9_tell_105 : decode cX9_tell 105 = .ok (.getfield 37, 3) := by decide +kernel
theorem dX9_tell_108 : decode cX9_tell 108 = .ok (.ifCond .eq 7, 3) := by decide +kernel
theorem dX9_tell_115 : decode cX9_tell 115 = .ok (.iconst 0, 1) := by decide +kernel
theorem dX9_tell_116 : decode cX9_tell 116 = .ok (.ireturn, 1) := by decide +kernel
theorem dX9_tell_117 : decode cX9_tell 117 = .ok (.aload_n 0, 1) := by decide +kernel
theorem dX9_tell_118 : decode cX9_tell 118 = .ok (.getfield 40, 3) := by decide +kernel
theorem dX9_tell_121 : decode cX9_tell 121 = .ok (.ireturn, 1) := by decide +kernel
theorem dX9_tell_122 : decode cX9_tell 122 = .ok (.iconst (-1), 1) := by decide +kernel
theorem dX9_tell_123 : decode cX9_tell 123 = .ok (.ireturn, 1) := by decide +kernel
