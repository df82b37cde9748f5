theorem dX8_init_0 : decode cX8_init 0 = .ok (.aload_n 0, 1) := by decide +kernel
theorem dX8_init_1 : decode cX8_init 1 = .ok (.invokespecial 3, 3) := by decide +kernel
theorem dX8_init_4 : decode cX8_init 4 = .ok (.aload_n 0, 1) := by decide +kernel
theorem dX8_init_5 : decode cX8_init 5 = .ok (.bipush 60, 2) := by decide +kernel
theorem dX8_init_7 : decode cX8_init 7 = .ok (.newarray .int, 2) := by decide +kernel
theorem dX8_init_9 : decode cX8_init 9 = .ok (.putfield 9, 3) := by decide +kernel
theorem dX8_init_12 : decode cX8_init 12 = .ok (.aload_n 0, 1) := by decide +kernel
theorem dX8_init_13 : decode cX8_init 13 = .ok (.bipush 36, 2) := by decide +kernel
theorem dX8_init_15 : decode cX8_init 15 = .ok (.newarray .int, 2) := by decide +kernel
theorem dX8_init_17 : decode cX8_init 17 = .ok (.putfield 15, 3) := by decide +kernel
theorem dX8_init_20 : decode cX8_init 20 = .ok (.return_, 1) := by decide +kernel
theorem dX10_init_0 : decode cX10_init 0 = .ok (.aload_n 0, 1) := by decide +kernel
theorem dX10_init_1 : decode cX10_init 1 = .ok (.invokespecial 3, 3) := by decide +kernel
theorem dX10_init_4 : decode cX10_init 4 = .ok (.aload_n 0, 1) := by decide +kernel
theorem dX10_init_5 : decode cX10_init 5 = .ok (.bipush 36, 2) := by decide +kernel
theorem dX10_init_7 : decode cX10_init 7 = .ok (.newarray .int, 2) := by decide +kernel
theorem dX10_init_9 : decode cX10_init 9 = .ok (.putfield 9, 3) := by decide +kernel
theorem dX10_init_12 : decode cX10_init 12 = .ok (.return_, 1) := by decide +kernel
theorem dX7_init_0 : decode cX7_init 0 = .ok (.aload_n 0, 1) := by decide +kernel
theorem dX7_init_1 : decode cX7_init 1 = .ok (.invokespecial 3, 3) := by decide +kernel
theorem dX7_init_4 : decode cX7_init 4 = .ok (.aload_n 0, 1) := by decide +kernel
theorem dX7_init_5 : decode cX7_init 5 = .ok (.bipush 36, 2) := by decide +kernel
theorem dX7_init_7 : decode cX7_init 7 = .ok (.newarray .boolean, 2) := by decide +kernel
theorem dX7_init_9 : decode cX7_init 9 = .ok (.putfield 9, 3) := by decide +kernel
theorem dX7_init_12 : decode cX7_init 12 = .ok (.aload_n 0, 1) := by decide +kernel
theorem dX7_init_13 : decode cX7_init 13 = .ok (.bipush 36, 2) := by decide +kernel
theorem dX7_init_15 : decode cX7_init 15 = .ok (.newarray .boolean, 2) := by decide +kernel
theorem dX7_init_17 : decode cX7_init 17 = .ok (.putfield 15, 3) := by decide +kernel
theorem dX7_init_20 : decode cX7_init 20 = .ok (.aload_n 0, 1) := by decide +kernel
theorem dX7_init_21 : decode cX7_init 21 = .ok (.bipush 36, 2) := by decide +kernel
theorem dX7_init_23 : decode cX7_init 23 = .ok (.newarray .boolean, 2) := by decide +kernel
theorem dX7_init_25 : decode cX7_init 25 = .ok (.putfield 18, 3) := by decide +kernel
theorem dX7_init_28 : decode cX7_init 28 = .ok (.aload_n 0, 1) := by decide +kernel
theorem dX7_init_29 : decode cX7_init 29 = .ok (.bipush 36, 2) := by decide +kernel
theorem dX7_init_31 : decode cX7_init 31 = .ok (.newarray .boolean, 2) := by decide +kernel
theorem dX7_init_33 : decode cX7_init 33 = .ok (.putfield 21, 3) := by decide +kernel
theorem dX7_init_36 : decode cX7_init 36 = .ok (.aload_n 0, 1) := by decide +kernel
theorem dX7_init_37 : decode cX7_init 37 = .ok (.bipush 36, 2) := by decide +kernel
theorem dX7_init_39 : decode cX7_init 39 = .ok (.newarray .boolean, 2) := by decide +kernel
theorem dX7_init_41 : decode cX7_init 41 = .ok (.putfield 24, 3) := by decide +kernel
theorem dX7_init_44 : decode cX7_init 44 = .ok (.aload_n 0, 1) := by decide +kernel
theorem dX7_init_45 : decode cX7_init 45 = .ok (.new 27, 3) := by decide +kernel
theorem dX7_init_48 : decode cX7_init 48 = .ok (.dup, 1) := by decide +kernel
theorem dX7_init_49 : decode cX7_init 49 = .ok (.invokespecial 29, 3) := by decide +kernel
theorem dX7_init_52 : decode cX7_init 52 = .ok (.putfield 30, 3) := by decide +kernel
theorem dX7_init_55 : decode cX7_init 55 = .ok (.return_, 1) := by decide +kernel
theorem dX9_init_0 : decode cX9_init 0 = .ok (.aload_n 0, 1) := by decide +kernel
theorem dX9_init_1 : decode cX9_init 1 = .ok (.invokespecial 3, 3) := by decide +kernel
theorem dX9_init_4 : decode cX9_init 4 = .ok (.aload_n 0, 1) := by decide +kernel
theorem dX9_init_5 : decode cX9_init 5 = .ok (.bipush 36, 2) := by decide +kernel
theorem dX9_init_7 : decode cX9_init 7 = .ok (.newarray .boolean, 2) := by decide +kernel
theorem dX9_init_9 : decode cX9_init 9 = .ok (.putfield 9, 3) := by decide +kernel
theorem dX9_init_12 : decode cX9_init 12 = .ok (.aload_n 0, 1) := by decide +kernel
theorem dX9_init_13 : decode cX9_init 13 = .ok (.bipush 60, 2) := by decide +kernel
theorem dX9_init_15 : decode cX9_init 15 = .ok (.newarray .boolean, 2) := by decide +kernel
theorem dX9_init_17 : decode cX9_init 17 = .ok (.putfield 15, 3) := by decide +kernel
theorem dX9_init_20 : decode cX9_init 20 = .ok (.aload_n 0, 1) := by decide +kernel
theorem dX9_init_21 : decode cX9_init 21 = .ok (.bipush 36, 2) := by decide +kernel
theorem dX9_init_23 : decode cX9_init 23 = .ok (.newarray .int, 2) := by decide +kernel
theorem dX9_init_25 : decode cX9_init 25 = .ok (.putfield 18, 3) := by decide +kernel
theorem dX9_init_28 : decode cX9_init 28 = .ok (.aload_n 0, 1) := by decide +kernel
theorem dX9_init_29 : decode cX9_init 29 = .ok (.new 22, 3) := by decide +kernel
theorem dX9_init_32 : decode cX9_init 32 = .ok (.dup, 1) := by decide +kernel
theorem dX9_init_33 : decode cX9_init 33 = .ok (.invokespecial 24, 3) := by decide +kernel
theorem dX9_init_36 : decode cX9_init 36 = .ok (.putfield 25, 3) := by decide +kernel
theorem dX9_init_39 : decode cX9_init 39 = .ok (.return_, 1) := by decide +kernel
theorem dX4_init_0 : decode cX4_init 0 = .ok (.aload_n 0, 1) := by decide +kernel
theorem dX4_init_1 : decode cX4_init 1 = .ok (.invokespecial 3, 3) := by decide +kernel
theorem dX4_init_4 : decode cX4_init 4 = .ok (.aload_n 0, 1) := by decide +kernel
theorem dX4_init_5 : decode cX4_init 5 = .ok (.bipush 60, 2) := by decide +kernel
theorem dX4_init_7 : decode cX4_init 7 = .ok (.newarray .int, 2) := by decide +kernel
theorem dX4_init_9 : decode cX4_init 9 = .ok (.putfield 9, 3) := by decide +kernel
theorem dX4_init_12 : decode cX4_init 12 = .ok (.aload_n 0, 1) := by decide +kernel
theorem dX4_init_13 : decode cX4_init 13 = .ok (.bipush 36, 2) := by decide +kernel
theorem dX4_init_15 : decode cX4_init 15 = .ok (.newarray .boolean, 2) := by decide +kernel
theorem dX4_init_17 : decode cX4_init 17 = .ok (.putfield 15, 3) := by decide +kernel
theorem dX4_init_20 : decode cX4_init 20 = .ok (.aload_n 0, 1) := by decide +kernel
theorem dX4_init_21 : decode cX4_init 21 = .ok (.bipush 36, 2) := by decide +kernel
theorem dX4_init_23 : decode cX4_init 23 = .ok (.newarray .int, 2) := by decide +kernel
theorem dX4_init_25 : decode cX4_init 25 = .ok (.putfield 19, 3) := by decide +kernel
theorem dX4_init_28 : decode cX4_init 28 = .ok (.aload_n 0, 1) := by decide +kernel
theorem dX4_init_29 : decode cX4_init 29 = .ok (.new 22, 3) := by decide +kernel
theorem dX4_init_32 : decode cX4_init 32 = .ok (.dup, 1) := by decide +kernel
theorem dX4_init_33 : decode cX4_init 33 = .ok (.invokespecial 24, 3) := by decide +kernel
theorem dX4_init_36 : decode cX4_init 36 = .ok (.putfield 25, 3) := by decide +kernel
theorem dX4_init_39 : decode cX4_init 39 = .ok (.return_, 1) := by decide +kernel
theorem dX3_init_0 : decode cX3_init 0 = .ok (.aload_n 0, 1) := by decide +kernel
theorem dX3_init_1 : decode cX3_init 1 = .ok (.invokespecial 3, 3) := by decide +kernel
theorem dX3_init_4 : decode cX3_init 4 = .ok (.aload_n 0, 1) := by decide +kernel
theorem dX3_init_5 : decode cX3_init 5 = .ok (.bipush 36, 2) := by decide +kernel
theorem dX3_init_7 : decode cX3_init 7 = .ok (.newarray .int, 2) := by decide +kernel
theorem dX3_init_9 : decode cX3_init 9 = .ok (.putfield 9, 3) := by decide +kernel
theorem dX3_init_12 : decode cX3_init 12 = .ok (.aload_n 0, 1) := by decide +kernel
theorem dX3_init_13 : decode cX3_init 13 = .ok (.bipush 36, 2) := by decide +kernel
theorem dX3_init_15 : decode cX3_init 15 = .ok (.newarray .boolean, 2) := by decide +kernel
theorem dX3_init_17 : decode cX3_init 17 = .ok (.putfield 15, 3) := by decide +kernel
theorem dX3_init_20 : decode cX3_init 20 = .ok (.return_, 1) := by decide +kernel
theorem dX2_init_0 : decode cX2_init 0 = .ok (.aload_n 0, 1) := by decide +kernel
theorem dX2_init_1 : decode cX2_init 1 = .ok (.invokespecial 3, 3) := by decide +kernel
theorem dX2_init_4 : decode cX2_init 4 = .ok (.aload_n 0, 1) := by decide +kernel
theorem dX2_init_5 : decode cX2_init 5 = .ok (.bipush 38, 2) := by decide +kernel
theorem dX2_init_7 : decode cX2_init 7 = .ok (.newarray .int, 2) := by decide +kernel
theorem dX2_init_9 : decode cX2_init 9 = .ok (.putfield 9, 3) := by decide +kernel
theorem dX2_init_12 : decode cX2_init 12 = .ok (.aload_n 0, 1) := by decide +kernel
theorem dX2_init_13 : decode cX2_init 13 = .ok (.bipush 60, 2) := by decide +kernel
theorem dX2_init_15 : decode cX2_init 15 = .ok (.newarray .boolean, 2) := by decide +kernel
theorem dX2_init_17 : decode cX2_init 17 = .ok (.putfield 15, 3) := by decide +kernel
theorem dX2_init_20 : decode cX2_init 20 = .ok (.aload_n 0, 1) := by decide +kernel
theorem dX2_init_21 : decode cX2_init 21 = .ok (.new 19, 3) := by decide +kernel
theorem dX2_init_24 : decode cX2_init 24 = .ok (.dup, 1) := by decide +kernel
theorem dX2_init_25 : decode cX2_init 25 = .ok (.invokespecial 21, 3) := by decide +kernel
theorem dX2_init_28 : decode cX2_init 28 = .ok (.putfield 22, 3) := by decide +kernel
theorem dX2_init_31 : decode cX2_init 31 = .ok (.return_, 1) := by decide +kernel
theorem dX0_init_0 : decode cX0_init 0 = .ok (.aload_n 0, 1) := by decide +kernel
theorem dX0_init_1 : decode cX0_init 1 = .ok (.invokespecial 3, 3) := by decide +kernel
theorem dX0_init_4 : decode cX0_init 4 = .ok (.aload_n 0, 1) := by decide +kernel
theorem dX0_init_5 : decode cX0_init 5 = .ok (.bipush 24, 2) := by decide +kernel
theorem dX0_init_7 : decode cX0_init 7 = .ok (.newarray .int, 2) := by decide +kernel
theorem dX0_init_9 : decode cX0_init 9 = .ok (.putfield 9, 3) := by decide +kernel
theorem dX0_init_12 : decode cX0_init 12 = .ok (.aload_n 0, 1) := by decide +kernel
theorem dX0_init_13 : decode cX0_init 13 = .ok (.bipush 16, 2) := by decide +kernel
theorem dX0_init_15 : decode cX0_init 15 = .ok (.newarray .int, 2) := by decide +kernel
theorem dX0_init_17 : decode cX0_init 17 = .ok (.putfield 15, 3) := by decide +kernel
theorem dX0_init_20 : decode cX0_init 20 = .ok (.return_, 1) := by decide +kernel
theorem dX6_init_0 : decode cX6_init 0 = .ok (.aload_n 0, 1) := by decide +kernel
theorem dX6_init_1 : decode cX6_init 1 = .ok (.invokespecial 3, 3) := by decide +kernel
theorem dX6_init_4 : decode cX6_init 4 = .ok (.aload_n 0, 1) := by decide +kernel
theorem dX6_init_5 : decode cX6_init 5 = .ok (.bipush 36, 2) := by decide +kernel
theorem dX6_init_7 : decode cX6_init 7 = .ok (.newarray .boolean, 2) := by decide +kernel
theorem dX6_init_9 : decode cX6_init 9 = .ok (.putfield 9, 3) := by decide +kernel
theorem dX6_init_12 : decode cX6_init 12 = .ok (.return_, 1) := by decide +kernel
theorem dJ7_fill_53178_0 : decode cJ7_fill_53178 0 = .ok (.iconst 0, 1) := by decide +kernel
theorem dJ7_fill_53178_1 : decode cJ7_fill_53178 1 = .ok (.istore_n 2, 1) := by decide +kernel
theorem dJ7_fill_53178_2 : decode cJ7_fill_53178 2 = .ok (.aload_n 0, 1) := by decide +kernel
theorem dJ7_fill_53178_3 : decode cJ7_fill_53178 3 = .ok (.arraylength, 1) := by decide +kernel
theorem dJ7_fill_53178_4 : decode cJ7_fill_53178 4 = .ok (.istore_n 3, 1) := by decide +kernel
theorem dJ7_fill_53178_5 : decode cJ7_fill_53178 5 = .ok (.iload_n 2, 1) := by decide +kernel
theorem dJ7_fill_53178_6 : decode cJ7_fill_53178 6 = .ok (.iload_n 3, 1) := by decide +kernel
theorem dJ7_fill_53178_7 : decode cJ7_fill_53178 7 = .ok (.if_icmp .ge 13, 3) := by decide +kernel
theorem dJ7_fill_53178_10 : decode cJ7_fill_53178 10 = .ok (.aload_n 0, 1) := by decide +kernel
theorem dJ7_fill_53178_11 : decode cJ7_fill_53178 11 = .ok (.iload_n 2, 1) := by decide +kernel
theorem dJ7_fill_53178_12 : decode cJ7_fill_53178 12 = .ok (.iload_n 1, 1) := by decide +kernel
theorem dJ7_fill_53178_13 : decode cJ7_fill_53178 13 = .ok (.iastore, 1) := by decide +kernel
theorem dJ7_fill_53178_14 : decode cJ7_fill_53178 14 = .ok (.iinc 2 1, 3) := by decide +kernel
theorem dJ7_fill_53178_17 : decode cJ7_fill_53178 17 = .ok (.goto (-12), 3) := by decide +kernel
theorem dJ7_fill_53178_20 : decode cJ7_fill_53178 20 = .ok (.return_, 1) := by decide +kernel
theorem dX1_init_0 : decode cX1_init 0 = .ok (.aload_n 0, 1) := by decide +kernel
theorem dX1_init_1 : decode cX1_init 1 = .ok (.invokespecial 3, 3) := by decide +kernel
theorem dX1_init_4 : decode cX1_init 4 = .ok (.aload_n 0, 1) := by decide +kernel
theorem dX1_init_5 : decode cX1_init 5 = .ok (.bipush 12, 2) := by decide +kernel
theorem dX1_init_7 : decode cX1_init 7 = .ok (.newarray .int, 2) := by decide +kernel
theorem dX1_init_9 : decode cX1_init 9 = .ok (.putfield 9, 3) := by decide +kernel
theorem dX1_init_12 : decode cX1_init 12 = .ok (.aload_n 0, 1) := by decide +kernel
theorem dX1_init_13 : decode cX1_init 13 = .ok (.bipush 12, 2) := by decide +kernel
theorem dX1_init_15 : decode cX1_init 15 = .ok (.newarray .boolean, 2) := by decide +kernel
theorem dX1_init_17 : decode cX1_init 17 = .ok (.putfield 15, 3) := by decide +kernel
theorem dX1_init_20 : decode cX1_init 20 = .ok (.aload_n 0, 1) := by decide +kernel
theorem dX1_init_21 : decode cX1_init 21 = .ok (.bipush 12, 2) := by decide +kernel
theorem dX1_init_23 : decode cX1_init 23 = .ok (.newarray .boolean, 2) := by decide +kernel
theorem dX1_init_25 : decode cX1_init 25 = .ok (.putfield 19, 3) := by decide +kernel
theorem dX1_init_28 : decode cX1_init 28 = .ok (.aload_n 0, 1) := by decide +kernel
theorem dX1_init_29 : decode cX1_init 29 = .ok (.bipush 12, 2) := by decide +kernel
theorem dX1_init_31 : decode cX1_init 31 = .ok (.newarray .int, 2) := by decide +kernel
theorem dX1_init_33 : decode cX1_init 33 = .ok (.putfield 22, 3) := by decide +kernel
theorem dX1_init_36 : decode cX1_init 36 = .ok (.aload_n 0, 1) := by decide +kernel
theorem dX1_init_37 : decode cX1_init 37 = .ok (.getfield 9, 3) := by decide +kernel
theorem dX1_init_40 : decode cX1_init 40 = .ok (.bipush 100, 2) := by decide +kernel
theorem dX1_init_42 : decode cX1_init 42 = .ok (.invokestatic 25, 3) := by decide +kernel
theorem dX1_init_45 : decode cX1_init 45 = .ok (.return_, 1) := by decide +kernel
theorem dX5_init_0 : decode cX5_init 0 = .ok (.aload_n 0, 1) := by decide +kernel
theorem dX5_init_1 : decode cX5_init 1 = .ok (.invokespecial 3, 3) := by decide +kernel
theorem dX5_init_4 : decode cX5_init 4 = .ok (.aload_n 0, 1) := by decide +kernel
theorem dX5_init_5 : decode cX5_init 5 = .ok (.bipush 36, 2) := by decide +kernel
theorem dX5_init_7 : decode cX5_init 7 = .ok (.newarray .boolean, 2) := by decide +kernel
theorem dX5_init_9 : decode cX5_init 9 = .ok (.putfield 9, 3) := by decide +kernel
theorem dX5_init_12 : decode cX5_init 12 = .ok (.aload_n 0, 1) := by decide +kernel
theorem dX5_init_13 : decode cX5_init 13 = .ok (.bipush 36, 2) := by decide +kernel
theorem dX5_init_15 : decode cX5_init 15 = .ok (.newarray .boolean, 2) := by decide +kernel
theorem dX5_init_17 : decode cX5_init 17 = .ok (.putfield 15, 3) := by decide +kernel
theorem dX5_init_20 : decode cX5_init 20 = .ok (.aload_n 0, 1) := by decide +kernel
theorem dX5_init_21 : decode cX5_init 21 = .ok (.new 18, 3) := by decide +kernel
theorem dX5_init_24 : decode cX5_init 24 = .ok (.dup, 1) := by decide +kernel
theorem dX5_init_25 : decode cX5_init 25 = .ok (.invokespecial 20, 3) := by decide +kernel
theorem dX5_init_28 : decode cX5_init 28 = .ok (.putfield 21, 3) := by decide +kernel
theorem dX5_init_31 : decode cX5_init 31 = .ok (.return_, 1) := by decide +kernel
theorem dJ5_init_d00df_0 : decode cJ5_init_d00df 0 = .ok (.aload_n 0, 1) := by decide +kernel
theorem dJ5_init_d00df_1 : decode cJ5_init_d00df 1 = .ok (.invokespecial 3, 3) := by decide +kernel
theorem dJ5_init_d00df_4 : decode cJ5_init_d00df 4 = .ok (.getstatic 18, 3) := by decide +kernel
theorem dJ5_init_d00df_7 : decode cJ5_init_d00df 7 = .ok (.ifCond .eq 18, 3) := by decide +kernel
theorem dJ5_init_d00df_10 : decode cJ5_init_d00df 10 = .ok (.aload_n 0, 1) := by decide +kernel
theorem dJ5_init_d00df_11 : decode cJ5_init_d00df 11 = .ok (.iload_n 1, 1) := by decide +kernel
theorem dJ5_init_d00df_12 : decode cJ5_init_d00df 12 = .ok (.newarray .byte, 2) := by decide +kernel
theorem dJ5_init_d00df_14 : decode cJ5_init_d00df 14 = .ok (.putfield 15, 3) := by decide +kernel
theorem dJ5_init_d00df_17 : decode cJ5_init_d00df 17 = .ok (.aload_n 0, 1) := by decide +kernel
theorem dJ5_init_d00df_18 : decode cJ5_init_d00df 18 = .ok (.iconst 0, 1) := by decide +kernel
theorem dJ5_init_d00df_19 : decode cJ5_init_d00df 19 = .ok (.putfield 22, 3) := by decide +kernel
theorem dJ5_init_d00df_22 : decode cJ5_init_d00df 22 = .ok (.goto 16, 3) := by decide +kernel
theorem dJ5_init_d00df_25 : decode cJ5_init_d00df 25 = .ok (.aload_n 0, 1) := by decide +kernel
theorem dJ5_init_d00df_26 : decode cJ5_init_d00df 26 = .ok (.iload_n 1, 1) := by decide +kernel
theorem dJ5_init_d00df_27 : decode cJ5_init_d00df 27 = .ok (.invokestatic 26, 3) := by decide +kernel
theorem dJ5_init_d00df_30 : decode cJ5_init_d00df 30 = .ok (.putfield 15, 3) := by decide +kernel
theorem dJ5_init_d00df_33 : decode cJ5_init_d00df 33 = .ok (.aload_n 0, 1) := by decide +kernel
theorem dJ5_init_d00df_34 : decode cJ5_init_d00df 34 = .ok (.iconst 1, 1) := by decide +kernel
theorem dJ5_init_d00df_35 : decode cJ5_init_d00df 35 = .ok (.putfield 22, 3) := by decide +kernel
theorem dJ5_init_d00df_38 : decode cJ5_init_d00df 38 = .ok (.return_, 1) := by decide +kernel
theorem dJ4_init_da8c8_0 : decode cJ4_init_da8c8 0 = .ok (.aload_n 0, 1) := by decide +kernel
theorem dJ4_init_da8c8_1 : decode cJ4_init_da8c8 1 = .ok (.bipush 16, 2) := by decide +kernel
theorem dJ4_init_da8c8_3 : decode cJ4_init_da8c8 3 = .ok (.invokespecial 1, 3) := by decide +kernel
theorem dJ4_init_da8c8_6 : decode cJ4_init_da8c8 6 = .ok (.return_, 1) := by decide +kernel
theorem dX11_init_0 : decode cX11_init 0 = .ok (.aload_n 0, 1) := by decide +kernel
theorem dX11_init_1 : decode cX11_init 1 = .ok (.invokespecial 1, 3) := by decide +kernel
theorem dX11_init_4 : decode cX11_init 4 = .ok (.aload_n 0, 1) := by decide +kernel
theorem dX11_init_5 : decode cX11_init 5 = .ok (.new 7, 3) := by decide +kernel
theorem dX11_init_8 : decode cX11_init 8 = .ok (.dup, 1) := by decide +kernel
theorem dX11_init_9 : decode cX11_init 9 = .ok (.invokespecial 9, 3) := by decide +kernel
theorem dX11_init_12 : decode cX11_init 12 = .ok (.putfield 10, 3) := by decide +kernel
theorem dX11_init_15 : decode cX11_init 15 = .ok (.aload_n 0, 1) := by decide +kernel
theorem dX11_init_16 : decode cX11_init 16 = .ok (.new 7, 3) := by decide +kernel
theorem dX11_init_19 : decode cX11_init 19 = .ok (.dup, 1) := by decide +kernel
theorem dX11_init_20 : decode cX11_init 20 = .ok (.invokespecial 9, 3) := by decide +kernel
theorem dX11_init_23 : decode cX11_init 23 = .ok (.putfield 16, 3) := by decide +kernel
theorem dX11_init_26 : decode cX11_init 26 = .ok (.aload_n 0, 1) := by decide +kernel
theorem dX11_init_27 : decode cX11_init 27 = .ok (.new 19, 3) := by decide +kernel
theorem dX11_init_30 : decode cX11_init 30 = .ok (.dup, 1) := by decide +kernel
theorem dX11_init_31 : decode cX11_init 31 = .ok (.invokespecial 21, 3) := by decide +kernel
theorem dX11_init_34 : decode cX11_init 34 = .ok (.putfield 22, 3) := by decide +kernel
theorem dX11_init_37 : decode cX11_init 37 = .ok (.aload_n 0, 1) := by decide +kernel
theorem dX11_init_38 : decode cX11_init 38 = .ok (.new 26, 3) := by decide +kernel
theorem dX11_init_41 : decode cX11_init 41 = .ok (.dup, 1) := by decide +kernel
theorem dX11_init_42 : decode cX11_init 42 = .ok (.invokespecial 28, 3) := by decide +kernel
theorem dX11_init_45 : decode cX11_init 45 = .ok (.putfield 29, 3) := by decide +kernel
theorem dX11_init_48 : decode cX11_init 48 = .ok (.aload_n 0, 1) := by decide +kernel
theorem dX11_init_49 : decode cX11_init 49 = .ok (.new 33, 3) := by decide +kernel
theorem dX11_init_52 : decode cX11_init 52 = .ok (.dup, 1) := by decide +kernel
theorem dX11_init_53 : decode cX11_init 53 = .ok (.invokespecial 35, 3) := by decide +kernel
theorem dX11_init_56 : decode cX11_init 56 = .ok (.putfield 36, 3) := by decide +kernel
theorem dX11_init_59 : decode cX11_init 59 = .ok (.aload_n 0, 1) := by decide +kernel
theorem dX11_init_60 : decode cX11_init 60 = .ok (.new 40, 3) := by decide +kernel
theorem dX11_init_63 : decode cX11_init 63 = .ok (.dup, 1) := by decide +kernel
theorem dX11_init_64 : decode cX11_init 64 = .ok (.invokespecial 42, 3) := by decide +kernel
theorem dX11_init_67 : decode cX11_init 67 = .ok (.putfield 43, 3) := by decide +kernel
theorem dX11_init_70 : decode cX11_init 70 = .ok (.aload_n 0, 1) := by decide +kernel
theorem dX11_init_71 : decode cX11_init 71 = .ok (.new 47, 3) := by decide +kernel
theorem dX11_init_74 : decode cX11_init 74 = .ok (.dup, 1) := by decide +kernel
theorem dX11_init_75 : decode cX11_init 75 = .ok (.invokespecial 49, 3) := by decide +kernel
theorem dX11_init_78 : decode cX11_init 78 = .ok (.putfield 50, 3) := by decide +kernel
theorem dX11_init_81 : decode cX11_init 81 = .ok (.aload_n 0, 1) := by decide +kernel
theorem dX11_init_82 : decode cX11_init 82 = .ok (.new 54, 3) := by decide +kernel
theorem dX11_init_85 : decode cX11_init 85 = .ok (.dup, 1) := by decide +kernel
theorem dX11_init_86 : decode cX11_init 86 = .ok (.invokespecial 56, 3) := by decide +kernel
theorem dX11_init_89 : decode cX11_init 89 = .ok (.putfield 57, 3) := by decide +kernel
theorem dX11_init_92 : decode cX11_init 92 = .ok (.aload_n 0, 1) := by decide +kernel
theorem dX11_init_93 : decode cX11_init 93 = .ok (.new 61, 3) := by decide +kernel
theorem dX11_init_96 : decode cX11_init 96 = .ok (.dup, 1) := by decide +kernel
theorem dX11_init_97 : decode cX11_init 97 = .ok (.invokespecial 63, 3) := by decide +kernel
theorem dX11_init_100 : decode cX11_init 100 = .ok (.putfield 64, 3) := by decide +kernel
theorem dX11_init_103 : decode cX11_init 103 = .ok (.aload_n 0, 1) := by decide +kernel
theorem dX11_init_104 : decode cX11_init 104 = .ok (.new 68, 3) := by decide +kernel
theorem dX11_init_107 : decode cX11_init 107 = .ok (.dup, 1) := by decide +kernel
theorem dX11_init_108 : decode cX11_init 108 = .ok (.invokespecial 70, 3) := by decide +kernel
theorem dX11_init_111 : decode cX11_init 111 = .ok (.putfield 71, 3) := by decide +kernel
theorem dX11_init_114 : decode cX11_init 114 = .ok (.aload_n 0, 1) := by decide +kernel
theorem dX11_init_115 : decode cX11_init 115 = .ok (.new 75, 3) := by decide +kernel
theorem dX11_init_118 : decode cX11_init 118 = .ok (.dup, 1) := by decide +kernel
theorem dX11_init_119 : decode cX11_init 119 = .ok (.invokespecial 77, 3) := by decide +kernel
theorem dX11_init_122 : decode cX11_init 122 = .ok (.putfield 78, 3) := by decide +kernel
theorem dX11_init_125 : decode cX11_init 125 = .ok (.aload_n 0, 1) := by decide +kernel
theorem dX11_init_126 : decode cX11_init 126 = .ok (.new 82, 3) := by decide +kernel
theorem dX11_init_129 : decode cX11_init 129 = .ok (.dup, 1) := by decide +kernel
theorem dX11_init_130 : decode cX11_init 130 = .ok (.invokespecial 84, 3) := by decide +kernel
theorem dX11_init_133 : decode cX11_init 133 = .ok (.putfield 85, 3) := by decide +kernel
theorem dX11_init_136 : decode cX11_init 136 = .ok (.return_, 1) := by decide +kernel
theorem dL_cell_0 : decode cL_cell 0 = .ok (.iload_n 1, 1) := by decide +kernel
theorem dL_cell_1 : decode cL_cell 1 = .ok (.aload_n 0, 1) := by decide +kernel
theorem dL_cell_2 : decode cL_cell 2 = .ok (.arraylength, 1) := by decide +kernel
theorem dL_cell_3 : decode cL_cell 3 = .ok (.if_icmp .ge 9, 3) := by decide +kernel
theorem dL_cell_6 : decode cL_cell 6 = .ok (.aload_n 0, 1) := by decide +kernel
theorem dL_cell_7 : decode cL_cell 7 = .ok (.iload_n 1, 1) := by decide +kernel
theorem dL_cell_8 : decode cL_cell 8 = .ok (.iaload, 1) := by decide +kernel
theorem dL_cell_9 : decode cL_cell 9 = .ok (.goto 12, 3) := by decide +kernel
theorem dL_cell_12 : decode cL_cell 12 = .ok (.ldc 7, 2) := by decide +kernel
theorem dL_cell_14 : decode cL_cell 14 = .ok (.iload_n 1, 1) := by decide +kernel
theorem dL_cell_15 : decode cL_cell 15 = .ok (.iconst 1, 1) := by decide +kernel
theorem dL_cell_16 : decode cL_cell 16 = .ok (.iadd, 1) := by decide +kernel
theorem dL_cell_17 : decode cL_cell 17 = .ok (.imul, 1) := by decide +kernel
theorem dL_cell_18 : decode cL_cell 18 = .ok (.ldc 8, 2) := by decide +kernel
theorem dL_cell_20 : decode cL_cell 20 = .ok (.iadd, 1) := by decide +kernel
theorem dL_cell_21 : decode cL_cell 21 = .ok (.ireturn, 1) := by decide +kernel
theorem dL_low_0 : decode cL_low 0 = .ok (.iload_n 0, 1) := by decide +kernel
theorem dL_low_1 : decode cL_low 1 = .ok (.ldc 9, 2) := by decide +kernel
theorem dL_low_3 : decode cL_low 3 = .ok (.iand, 1) := by decide +kernel
theorem dL_low_4 : decode cL_low 4 = .ok (.iload_n 1, 1) := by decide +kernel
theorem dL_low_5 : decode cL_low 5 = .ok (.irem, 1) := by decide +kernel
theorem dL_low_6 : decode cL_low 6 = .ok (.ireturn, 1) := by decide +kernel
theorem dX11_needRange_0 : decode cX11_needRange 0 = .ok (.iload_n 0, 1) := by decide +kernel
theorem dX11_needRange_1 : decode cX11_needRange 1 = .ok (.iload_n 1, 1) := by decide +kernel
theorem dX11_needRange_2 : decode cX11_needRange 2 = .ok (.if_icmp .lt 8, 3) := by decide +kernel
theorem dX11_needRange_5 : decode cX11_needRange 5 = .ok (.iload_n 0, 1) := by decide +kernel
theorem dX11_needRange_6 : decode cX11_needRange 6 = .ok (.iload_n 2, 1) := by decide +kernel
theorem dX11_needRange_7 : decode cX11_needRange 7 = .ok (.if_icmp .le 14, 3) := by decide +kernel
theorem dX11_needRange_10 : decode cX11_needRange 10 = .ok (.new 201, 3) := by decide +kernel
theorem dX11_needRange_13 : decode cX11_needRange 13 = .ok (.dup, 1) := by decide +kernel
theorem dX11_needRange_14 : decode cX11_needRange 14 = .ok (.ldc_w 357, 3) := by decide +kernel
theorem dX11_needRange_17 : decode cX11_needRange 17 = .ok (.invokespecial 205, 3) := by decide +kernel
theorem dX11_needRange_20 : decode cX11_needRange 20 = .ok (.athrow, 1) := by decide +kernel
theorem dX11_needRange_21 : decode cX11_needRange 21 = .ok (.return_, 1) := by decide +kernel
theorem dX11_nextDraw_0 : decode cX11_nextDraw 0 = .ok (.sipush 25173, 3) := by decide +kernel
theorem dX11_nextDraw_3 : decode cX11_nextDraw 3 = .ok (.iload_n 0, 1) := by decide +kernel
theorem dX11_nextDraw_4 : decode cX11_nextDraw 4 = .ok (.imul, 1) := by decide +kernel
theorem dX11_nextDraw_5 : decode cX11_nextDraw 5 = .ok (.sipush 13849, 3) := by decide +kernel
theorem dX11_nextDraw_8 : decode cX11_nextDraw 8 = .ok (.iadd, 1) := by decide +kernel
theorem dX11_nextDraw_9 : decode cX11_nextDraw 9 = .ok (.ldc_w 362, 3) := by decide +kernel
theorem dX11_nextDraw_12 : decode cX11_nextDraw 12 = .ok (.irem, 1) := by decide +kernel
theorem dX11_nextDraw_13 : decode cX11_nextDraw 13 = .ok (.ireturn, 1) := by decide +kernel
theorem dX8_drawAll_0 : decode cX8_drawAll 0 = .ok (.iload_n 1, 1) := by decide +kernel
theorem dX8_drawAll_1 : decode cX8_drawAll 1 = .ok (.istore_n 2, 1) := by decide +kernel
theorem dX8_drawAll_2 : decode cX8_drawAll 2 = .ok (.iconst 0, 1) := by decide +kernel
theorem dX8_drawAll_3 : decode cX8_drawAll 3 = .ok (.istore_n 3, 1) := by decide +kernel
theorem dX8_drawAll_4 : decode cX8_drawAll 4 = .ok (.iload_n 3, 1) := by decide +kernel
theorem dX8_drawAll_5 : decode cX8_drawAll 5 = .ok (.bipush 60, 2) := by decide +kernel
theorem dX8_drawAll_7 : decode cX8_drawAll 7 = .ok (.if_icmp .ge 25, 3) := by decide +kernel
theorem dX8_drawAll_10 : decode cX8_drawAll 10 = .ok (.iload_n 2, 1) := by decide +kernel
theorem dX8_drawAll_11 : decode cX8_drawAll 11 = .ok (.invokestatic 18, 3) := by decide +kernel
theorem dX8_drawAll_14 : decode cX8_drawAll 14 = .ok (.istore_n 2, 1) := by decide +kernel
theorem dX8_drawAll_15 : decode cX8_drawAll 15 = .ok (.aload_n 0, 1) := by decide +kernel
theorem dX8_drawAll_16 : decode cX8_drawAll 16 = .ok (.getfield 9, 3) := by decide +kernel
theorem dX8_drawAll_19 : decode cX8_drawAll 19 = .ok (.iload_n 3, 1) := by decide +kernel
theorem dX8_drawAll_20 : decode cX8_drawAll 20 = .ok (.iload_n 2, 1) := by decide +kernel
theorem dX8_drawAll_21 : decode cX8_drawAll 21 = .ok (.sipush 1000, 3) := by decide +kernel
theorem dX8_drawAll_24 : decode cX8_drawAll 24 = .ok (.irem, 1) := by decide +kernel
theorem dX8_drawAll_25 : decode cX8_drawAll 25 = .ok (.iastore, 1) := by decide +kernel
theorem dX8_drawAll_26 : decode cX8_drawAll 26 = .ok (.iinc 3 1, 3) := by decide +kernel
theorem dX8_drawAll_29 : decode cX8_drawAll 29 = .ok (.goto (-25), 3) := by decide +kernel
theorem dX8_drawAll_32 : decode cX8_drawAll 32 = .ok (.iconst 0, 1) := by decide +kernel
theorem dX8_drawAll_33 : decode cX8_drawAll 33 = .ok (.istore_n 3, 1) := by decide +kernel
theorem dX8_drawAll_34 : decode cX8_drawAll 34 = .ok (.iload_n 3, 1) := by decide +kernel
theorem dX8_drawAll_35 : decode cX8_drawAll 35 = .ok (.bipush 36, 2) := by decide +kernel
theorem dX8_drawAll_37 : decode cX8_drawAll 37 = .ok (.if_icmp .ge 25, 3) := by decide +kernel
theorem dX8_drawAll_40 : decode cX8_drawAll 40 = .ok (.iload_n 2, 1) := by decide +kernel
theorem dX8_drawAll_41 : decode cX8_drawAll 41 = .ok (.invokestatic 18, 3) := by decide +kernel
theorem dX8_drawAll_44 : decode cX8_drawAll 44 = .ok (.istore_n 2, 1) := by decide +kernel
theorem dX8_drawAll_45 : decode cX8_drawAll 45 = .ok (.aload_n 0, 1) := by decide +kernel
theorem dX8_drawAll_46 : decode cX8_drawAll 46 = .ok (.getfield 15, 3) := by decide +kernel
theorem dX8_drawAll_49 : decode cX8_drawAll 49 = .ok (.iload_n 3, 1) := by decide +kernel
theorem dX8_drawAll_50 : decode cX8_drawAll 50 = .ok (.iload_n 2, 1) := by decide +kernel
theorem dX8_drawAll_51 : decode cX8_drawAll 51 = .ok (.sipush 1000, 3) := by decide +kernel
theorem dX8_drawAll_54 : decode cX8_drawAll 54 = .ok (.irem, 1) := by decide +kernel
theorem dX8_drawAll_55 : decode cX8_drawAll 55 = .ok (.iastore, 1) := by decide +kernel
theorem dX8_drawAll_56 : decode cX8_drawAll 56 = .ok (.iinc 3 1, 3) := by decide +kernel
theorem dX8_drawAll_59 : decode cX8_drawAll 59 = .ok (.goto (-25), 3) := by decide +kernel
theorem dX8_drawAll_62 : decode cX8_drawAll 62 = .ok (.return_, 1) := by decide +kernel
theorem dX11_seed_0 : decode cX11_seed 0 = .ok (.iload_n 1, 1) := by decide +kernel
theorem dX11_seed_1 : decode cX11_seed 1 = .ok (.iconst 0, 1) := by decide +kernel
theorem dX11_seed_2 : decode cX11_seed 2 = .ok (.ldc 89, 2) := by decide +kernel
theorem dX11_seed_4 : decode cX11_seed 4 = .ok (.invokestatic 90, 3) := by decide +kernel
theorem dX11_seed_7 : decode cX11_seed 7 = .ok (.aload_n 0, 1) := by decide +kernel
theorem dX11_seed_8 : decode cX11_seed 8 = .ok (.getfield 10, 3) := by decide +kernel
theorem dX11_seed_11 : decode cX11_seed 11 = .ok (.iload_n 1, 1) := by decide +kernel
theorem dX11_seed_12 : decode cX11_seed 12 = .ok (.invokevirtual 94, 3) := by decide +kernel
theorem dX11_seed_15 : decode cX11_seed 15 = .ok (.return_, 1) := by decide +kernel
theorem dL_drawn_0 : decode cL_drawn 0 = .ok (.sipush 25173, 3) := by decide +kernel
theorem dL_drawn_3 : decode cL_drawn 3 = .ok (.iload_n 0, 1) := by decide +kernel
theorem dL_drawn_4 : decode cL_drawn 4 = .ok (.imul, 1) := by decide +kernel
theorem dL_drawn_5 : decode cL_drawn 5 = .ok (.sipush 13849, 3) := by decide +kernel
theorem dL_drawn_8 : decode cL_drawn 8 = .ok (.iadd, 1) := by decide +kernel
theorem dL_drawn_9 : decode cL_drawn 9 = .ok (.ldc 73, 2) := by decide +kernel
theorem dL_drawn_11 : decode cL_drawn 11 = .ok (.irem, 1) := by decide +kernel
theorem dL_drawn_12 : decode cL_drawn 12 = .ok (.ireturn, 1) := by decide +kernel
theorem dL_draws_0 : decode cL_draws 0 = .ok (.iload_n 0, 1) := by decide +kernel
theorem dL_draws_1 : decode cL_draws 1 = .ok (.istore_n 3, 1) := by decide +kernel
theorem dL_draws_2 : decode cL_draws 2 = .ok (.iconst 0, 1) := by decide +kernel
theorem dL_draws_3 : decode cL_draws 3 = .ok (.istore 4, 2) := by decide +kernel
theorem dL_draws_5 : decode cL_draws 5 = .ok (.iload 4, 2) := by decide +kernel
theorem dL_draws_7 : decode cL_draws 7 = .ok (.bipush 96, 2) := by decide +kernel
theorem dL_draws_9 : decode cL_draws 9 = .ok (.if_icmp .ge 45, 3) := by decide +kernel
theorem dL_draws_12 : decode cL_draws 12 = .ok (.iload_n 3, 1) := by decide +kernel
theorem dL_draws_13 : decode cL_draws 13 = .ok (.invokestatic 74, 3) := by decide +kernel
theorem dL_draws_16 : decode cL_draws 16 = .ok (.istore_n 3, 1) := by decide +kernel
theorem dL_draws_17 : decode cL_draws 17 = .ok (.iload 4, 2) := by decide +kernel
theorem dL_draws_19 : decode cL_draws 19 = .ok (.bipush 60, 2) := by decide +kernel
theorem dL_draws_21 : decode cL_draws 21 = .ok (.if_icmp .ge 15, 3) := by decide +kernel
theorem dL_draws_24 : decode cL_draws 24 = .ok (.aload_n 1, 1) := by decide +kernel
theorem dL_draws_25 : decode cL_draws 25 = .ok (.iload 4, 2) := by decide +kernel
theorem dL_draws_27 : decode cL_draws 27 = .ok (.iload_n 3, 1) := by decide +kernel
theorem dL_draws_28 : decode cL_draws 28 = .ok (.sipush 1000, 3) := by decide +kernel
theorem dL_draws_31 : decode cL_draws 31 = .ok (.irem, 1) := by decide +kernel
theorem dL_draws_32 : decode cL_draws 32 = .ok (.iastore, 1) := by decide +kernel
theorem dL_draws_33 : decode cL_draws 33 = .ok (.goto 15, 3) := by decide +kernel
theorem dL_draws_36 : decode cL_draws 36 = .ok (.aload_n 2, 1) := by decide +kernel
theorem dL_draws_37 : decode cL_draws 37 = .ok (.iload 4, 2) := by decide +kernel
theorem dL_draws_39 : decode cL_draws 39 = .ok (.bipush 60, 2) := by decide +kernel
theorem dL_draws_41 : decode cL_draws 41 = .ok (.isub, 1) := by decide +kernel
theorem dL_draws_42 : decode cL_draws 42 = .ok (.iload_n 3, 1) := by decide +kernel
theorem dL_draws_43 : decode cL_draws 43 = .ok (.sipush 1000, 3) := by decide +kernel
theorem dL_draws_46 : decode cL_draws 46 = .ok (.irem, 1) := by decide +kernel
theorem dL_draws_47 : decode cL_draws 47 = .ok (.iastore, 1) := by decide +kernel
theorem dL_draws_48 : decode cL_draws 48 = .ok (.iinc 4 1, 3) := by decide +kernel
theorem dL_draws_51 : decode cL_draws 51 = .ok (.goto (-46), 3) := by decide +kernel
theorem dL_draws_54 : decode cL_draws 54 = .ok (.return_, 1) := by decide +kernel
theorem dX11_needBond_0 : decode cX11_needBond 0 = .ok (.iload_n 0, 1) := by decide +kernel
theorem dX11_needBond_1 : decode cX11_needBond 1 = .ok (.ifCond .lt 9, 3) := by decide +kernel
theorem dX11_needBond_4 : decode cX11_needBond 4 = .ok (.iload_n 0, 1) := by decide +kernel
theorem dX11_needBond_5 : decode cX11_needBond 5 = .ok (.bipush 60, 2) := by decide +kernel
theorem dX11_needBond_7 : decode cX11_needBond 7 = .ok (.if_icmp .lt 14, 3) := by decide +kernel
theorem dX11_needBond_10 : decode cX11_needBond 10 = .ok (.new 346, 3) := by decide +kernel
theorem dX11_needBond_13 : decode cX11_needBond 13 = .ok (.dup, 1) := by decide +kernel
theorem dX11_needBond_14 : decode cX11_needBond 14 = .ok (.ldc_w 351, 3) := by decide +kernel
theorem dX11_needBond_17 : decode cX11_needBond 17 = .ok (.invokespecial 350, 3) := by decide +kernel
theorem dX11_needBond_20 : decode cX11_needBond 20 = .ok (.athrow, 1) := by decide +kernel
theorem dX11_needBond_21 : decode cX11_needBond 21 = .ok (.return_, 1) := by decide +kernel
theorem dX11_bond_0 : decode cX11_bond 0 = .ok (.iload_n 1, 1) := by decide +kernel
theorem dX11_bond_1 : decode cX11_bond 1 = .ok (.invokestatic 98, 3) := by decide +kernel
theorem dX11_bond_4 : decode cX11_bond 4 = .ok (.iload_n 2, 1) := by decide +kernel
theorem dX11_bond_5 : decode cX11_bond 5 = .ok (.iconst 0, 1) := by decide +kernel
theorem dX11_bond_6 : decode cX11_bond 6 = .ok (.sipush 999, 3) := by decide +kernel
theorem dX11_bond_9 : decode cX11_bond 9 = .ok (.invokestatic 90, 3) := by decide +kernel
theorem dX11_bond_12 : decode cX11_bond 12 = .ok (.aload_n 0, 1) := by decide +kernel
theorem dX11_bond_13 : decode cX11_bond 13 = .ok (.getfield 10, 3) := by decide +kernel
theorem dX11_bond_16 : decode cX11_bond 16 = .ok (.getfield 101, 3) := by decide +kernel
theorem dX11_bond_19 : decode cX11_bond 19 = .ok (.iload_n 1, 1) := by decide +kernel
theorem dX11_bond_20 : decode cX11_bond 20 = .ok (.iaload, 1) := by decide +kernel
theorem dX11_bond_21 : decode cX11_bond 21 = .ok (.istore_n 3, 1) := by decide +kernel
theorem dX11_bond_22 : decode cX11_bond 22 = .ok (.aload_n 0, 1) := by decide +kernel
theorem dX11_bond_23 : decode cX11_bond 23 = .ok (.getfield 10, 3) := by decide +kernel
theorem dX11_bond_26 : decode cX11_bond 26 = .ok (.getfield 101, 3) := by decide +kernel
theorem dX11_bond_29 : decode cX11_bond 29 = .ok (.iload_n 1, 1) := by decide +kernel
theorem dX11_bond_30 : decode cX11_bond 30 = .ok (.iload_n 2, 1) := by decide +kernel
theorem dX11_bond_31 : decode cX11_bond 31 = .ok (.iastore, 1) := by decide +kernel
theorem dX11_bond_32 : decode cX11_bond 32 = .ok (.iload_n 3, 1) := by decide +kernel
theorem dX11_bond_33 : decode cX11_bond 33 = .ok (.ireturn, 1) := by decide +kernel
theorem dX11_needSite_0 : decode cX11_needSite 0 = .ok (.iload_n 0, 1) := by decide +kernel
theorem dX11_needSite_1 : decode cX11_needSite 1 = .ok (.ifCond .lt 9, 3) := by decide +kernel
theorem dX11_needSite_4 : decode cX11_needSite 4 = .ok (.iload_n 0, 1) := by decide +kernel
theorem dX11_needSite_5 : decode cX11_needSite 5 = .ok (.bipush 36, 2) := by decide +kernel
theorem dX11_needSite_7 : decode cX11_needSite 7 = .ok (.if_icmp .lt 14, 3) := by decide +kernel
theorem dX11_needSite_10 : decode cX11_needSite 10 = .ok (.new 346, 3) := by decide +kernel
theorem dX11_needSite_13 : decode cX11_needSite 13 = .ok (.dup, 1) := by decide +kernel
theorem dX11_needSite_14 : decode cX11_needSite 14 = .ok (.ldc_w 348, 3) := by decide +kernel
theorem dX11_needSite_17 : decode cX11_needSite 17 = .ok (.invokespecial 350, 3) := by decide +kernel
theorem dX11_needSite_20 : decode cX11_needSite 20 = .ok (.athrow, 1) := by decide +kernel
theorem dX11_needSite_21 : decode cX11_needSite 21 = .ok (.return_, 1) := by decide +kernel
theorem dX11_site_0 : decode cX11_site 0 = .ok (.iload_n 1, 1) := by decide +kernel
theorem dX11_site_1 : decode cX11_site 1 = .ok (.invokestatic 105, 3) := by decide +kernel
theorem dX11_site_4 : decode cX11_site 4 = .ok (.iload_n 2, 1) := by decide +kernel
theorem dX11_site_5 : decode cX11_site 5 = .ok (.iconst 0, 1) := by decide +kernel
theorem dX11_site_6 : decode cX11_site 6 = .ok (.sipush 999, 3) := by decide +kernel
theorem dX11_site_9 : decode cX11_site 9 = .ok (.invokestatic 90, 3) := by decide +kernel
theorem dX11_site_12 : decode cX11_site 12 = .ok (.aload_n 0, 1) := by decide +kernel
theorem dX11_site_13 : decode cX11_site 13 = .ok (.getfield 10, 3) := by decide +kernel
theorem dX11_site_16 : decode cX11_site 16 = .ok (.getfield 108, 3) := by decide +kernel
theorem dX11_site_19 : decode cX11_site 19 = .ok (.iload_n 1, 1) := by decide +kernel
theorem dX11_site_20 : decode cX11_site 20 = .ok (.iaload, 1) := by decide +kernel
theorem dX11_site_21 : decode cX11_site 21 = .ok (.istore_n 3, 1) := by decide +kernel
theorem dX11_site_22 : decode cX11_site 22 = .ok (.aload_n 0, 1) := by decide +kernel
theorem dX11_site_23 : decode cX11_site 23 = .ok (.getfield 10, 3) := by decide +kernel
theorem dX11_site_26 : decode cX11_site 26 = .ok (.getfield 108, 3) := by decide +kernel
theorem dX11_site_29 : decode cX11_site 29 = .ok (.iload_n 1, 1) := by decide +kernel
theorem dX11_site_30 : decode cX11_site 30 = .ok (.iload_n 2, 1) := by decide +kernel
theorem dX11_site_31 : decode cX11_site 31 = .ok (.iastore, 1) := by decide +kernel
theorem dX11_site_32 : decode cX11_site 32 = .ok (.iload_n 3, 1) := by decide +kernel
theorem dX11_site_33 : decode cX11_site 33 = .ok (.ireturn, 1) := by decide +kernel
theorem dX7_close_0 : decode cX7_close 0 = .ok (.aload_n 0, 1) := by decide +kernel
theorem dX7_close_1 : decode cX7_close 1 = .ok (.getfield 9, 3) := by decide +kernel
theorem dX7_close_4 : decode cX7_close 4 = .ok (.iload_n 1, 1) := by decide +kernel
theorem dX7_close_5 : decode cX7_close 5 = .ok (.iconst 1, 1) := by decide +kernel
theorem dX7_close_6 : decode cX7_close 6 = .ok (.bastore, 1) := by decide +kernel
theorem dX7_close_7 : decode cX7_close 7 = .ok (.aload_n 0, 1) := by decide +kernel
theorem dX7_close_8 : decode cX7_close 8 = .ok (.getfield 15, 3) := by decide +kernel
theorem dX7_close_11 : decode cX7_close 11 = .ok (.iload_n 1, 1) := by decide +kernel
theorem dX7_close_12 : decode cX7_close 12 = .ok (.iconst 0, 1) := by decide +kernel
theorem dX7_close_13 : decode cX7_close 13 = .ok (.bastore, 1) := by decide +kernel
theorem dX7_close_14 : decode cX7_close 14 = .ok (.aload_n 0, 1) := by decide +kernel
theorem dX7_close_15 : decode cX7_close 15 = .ok (.getfield 18, 3) := by decide +kernel
theorem dX7_close_18 : decode cX7_close 18 = .ok (.iload_n 1, 1) := by decide +kernel
theorem dX7_close_19 : decode cX7_close 19 = .ok (.iconst 0, 1) := by decide +kernel
theorem dX7_close_20 : decode cX7_close 20 = .ok (.bastore, 1) := by decide +kernel
theorem dX7_close_21 : decode cX7_close 21 = .ok (.return_, 1) := by decide +kernel
theorem dX11_close_0 : decode cX11_close 0 = .ok (.aload_n 0, 1) := by decide +kernel
theorem dX11_close_1 : decode cX11_close 1 = .ok (.getfield 22, 3) := by decide +kernel
theorem dX11_close_4 : decode cX11_close 4 = .ok (.iload_n 1, 1) := by decide +kernel
theorem dX11_close_5 : decode cX11_close 5 = .ok (.invokevirtual 361, 3) := by decide +kernel
theorem dX11_close_8 : decode cX11_close 8 = .ok (.aload_n 0, 1) := by decide +kernel
theorem dX11_close_9 : decode cX11_close 9 = .ok (.getfield 78, 3) := by decide +kernel
theorem dX11_close_12 : decode cX11_close 12 = .ok (.getfield 276, 3) := by decide +kernel
theorem dX11_close_15 : decode cX11_close 15 = .ok (.iload_n 1, 1) := by decide +kernel
theorem dX11_close_16 : decode cX11_close 16 = .ok (.iconst 0, 1) := by decide +kernel
theorem dX11_close_17 : decode cX11_close 17 = .ok (.bastore, 1) := by decide +kernel
theorem dX11_close_18 : decode cX11_close 18 = .ok (.return_, 1) := by decide +kernel
theorem dX11_shut_0 : decode cX11_shut 0 = .ok (.iload_n 1, 1) := by decide +kernel
theorem dX11_shut_1 : decode cX11_shut 1 = .ok (.invokestatic 105, 3) := by decide +kernel
theorem dX11_shut_4 : decode cX11_shut 4 = .ok (.aload_n 0, 1) := by decide +kernel
theorem dX11_shut_5 : decode cX11_shut 5 = .ok (.getfield 22, 3) := by decide +kernel
theorem dX11_shut_8 : decode cX11_shut 8 = .ok (.getfield 118, 3) := by decide +kernel
theorem dX11_shut_11 : decode cX11_shut 11 = .ok (.iload_n 1, 1) := by decide +kernel
theorem dX11_shut_12 : decode cX11_shut 12 = .ok (.baload, 1) := by decide +kernel
theorem dX11_shut_13 : decode cX11_shut 13 = .ok (.istore_n 3, 1) := by decide +kernel
theorem dX11_shut_14 : decode cX11_shut 14 = .ok (.iload_n 2, 1) := by decide +kernel
theorem dX11_shut_15 : decode cX11_shut 15 = .ok (.ifCond .eq 11, 3) := by decide +kernel
theorem dX11_shut_18 : decode cX11_shut 18 = .ok (.aload_n 0, 1) := by decide +kernel
theorem dX11_shut_19 : decode cX11_shut 19 = .ok (.iload_n 1, 1) := by decide +kernel
theorem dX11_shut_20 : decode cX11_shut 20 = .ok (.invokevirtual 122, 3) := by decide +kernel
theorem dX11_shut_23 : decode cX11_shut 23 = .ok (.goto 13, 3) := by decide +kernel
theorem dX11_shut_26 : decode cX11_shut 26 = .ok (.aload_n 0, 1) := by decide +kernel
theorem dX11_shut_27 : decode cX11_shut 27 = .ok (.getfield 22, 3) := by decide +kernel
theorem dX11_shut_30 : decode cX11_shut 30 = .ok (.getfield 118, 3) := by decide +kernel
theorem dX11_shut_33 : decode cX11_shut 33 = .ok (.iload_n 1, 1) := by decide +kernel
theorem dX11_shut_34 : decode cX11_shut 34 = .ok (.iconst 0, 1) := by decide +kernel
theorem dX11_shut_35 : decode cX11_shut 35 = .ok (.bastore, 1) := by decide +kernel
theorem dX11_shut_36 : decode cX11_shut 36 = .ok (.iload_n 3, 1) := by decide +kernel
theorem dX11_shut_37 : decode cX11_shut 37 = .ok (.ireturn, 1) := by decide +kernel
theorem dL_has_0 : decode cL_has 0 = .ok (.lload_n 0, 1) := by decide +kernel
theorem dL_has_1 : decode cL_has 1 = .ok (.iload_n 2, 1) := by decide +kernel
theorem dL_has_2 : decode cL_has 2 = .ok (.lshr, 1) := by decide +kernel
theorem dL_has_3 : decode cL_has 3 = .ok (.lconst 1, 1) := by decide +kernel
theorem dL_has_4 : decode cL_has 4 = .ok (.land, 1) := by decide +kernel
theorem dL_has_5 : decode cL_has 5 = .ok (.lconst 1, 1) := by decide +kernel
theorem dL_has_6 : decode cL_has 6 = .ok (.lcmp, 1) := by decide +kernel
theorem dL_has_7 : decode cL_has 7 = .ok (.ifCond .ne 7, 3) := by decide +kernel
theorem dL_has_10 : decode cL_has 10 = .ok (.iconst 1, 1) := by decide +kernel
theorem dL_has_11 : decode cL_has 11 = .ok (.goto 4, 3) := by decide +kernel
theorem dL_has_14 : decode cL_has 14 = .ok (.iconst 0, 1) := by decide +kernel
theorem dL_has_15 : decode cL_has 15 = .ok (.ireturn, 1) := by decide +kernel
theorem dL_beside_0 : decode cL_beside 0 = .ok (.iload_n 2, 1) := by decide +kernel
theorem dL_beside_1 : decode cL_beside 1 = .ok (.bipush 6, 2) := by decide +kernel
theorem dL_beside_3 : decode cL_beside 3 = .ok (.irem, 1) := by decide +kernel
theorem dL_beside_4 : decode cL_beside 4 = .ok (.ifCond .le 17, 3) := by decide +kernel
theorem dL_beside_7 : decode cL_beside 7 = .ok (.lload_n 0, 1) := by decide +kernel
theorem dL_beside_8 : decode cL_beside 8 = .ok (.iload_n 2, 1) := by decide +kernel
theorem dL_beside_9 : decode cL_beside 9 = .ok (.iconst 1, 1) := by decide +kernel
theorem dL_beside_10 : decode cL_beside 10 = .ok (.isub, 1) := by decide +kernel
theorem dL_beside_11 : decode cL_beside 11 = .ok (.invokestatic 25, 3) := by decide +kernel
theorem dL_beside_14 : decode cL_beside 14 = .ok (.ifCond .eq 7, 3) := by decide +kernel
theorem dL_beside_17 : decode cL_beside 17 = .ok (.iconst 1, 1) := by decide +kernel
theorem dL_beside_18 : decode cL_beside 18 = .ok (.goto 4, 3) := by decide +kernel
theorem dL_beside_21 : decode cL_beside 21 = .ok (.iconst 0, 1) := by decide +kernel
theorem dL_beside_22 : decode cL_beside 22 = .ok (.istore_n 3, 1) := by decide +kernel
theorem dL_beside_23 : decode cL_beside 23 = .ok (.iload_n 3, 1) := by decide +kernel
theorem dL_beside_24 : decode cL_beside 24 = .ok (.iload_n 2, 1) := by decide +kernel
theorem dL_beside_25 : decode cL_beside 25 = .ok (.bipush 6, 2) := by decide +kernel
theorem dL_beside_27 : decode cL_beside 27 = .ok (.irem, 1) := by decide +kernel
theorem dL_beside_28 : decode cL_beside 28 = .ok (.iconst 5, 1) := by decide +kernel
theorem dL_beside_29 : decode cL_beside 29 = .ok (.if_icmp .ge 17, 3) := by decide +kernel
theorem dL_beside_32 : decode cL_beside 32 = .ok (.lload_n 0, 1) := by decide +kernel
theorem dL_beside_33 : decode cL_beside 33 = .ok (.iload_n 2, 1) := by decide +kernel
theorem dL_beside_34 : decode cL_beside 34 = .ok (.iconst 1, 1) := by decide +kernel
theorem dL_beside_35 : decode cL_beside 35 = .ok (.iadd, 1) := by decide +kernel
theorem dL_beside_36 : decode cL_beside 36 = .ok (.invokestatic 25, 3) := by decide +kernel
theorem dL_beside_39 : decode cL_beside 39 = .ok (.ifCond .eq 7, 3) := by decide +kernel
theorem dL_beside_42 : decode cL_beside 42 = .ok (.iconst 1, 1) := by decide +kernel
theorem dL_beside_43 : decode cL_beside 43 = .ok (.goto 4, 3) := by decide +kernel
theorem dL_beside_46 : decode cL_beside 46 = .ok (.iconst 0, 1) := by decide +kernel
theorem dL_beside_47 : decode cL_beside 47 = .ok (.iadd, 1) := by decide +kernel
theorem dL_beside_48 : decode cL_beside 48 = .ok (.istore_n 3, 1) := by decide +kernel
theorem dL_beside_49 : decode cL_beside 49 = .ok (.iload_n 3, 1) := by decide +kernel
theorem dL_beside_50 : decode cL_beside 50 = .ok (.iload_n 2, 1) := by decide +kernel
theorem dL_beside_51 : decode cL_beside 51 = .ok (.iconst 5, 1) := by decide +kernel
theorem dL_beside_52 : decode cL_beside 52 = .ok (.if_icmp .le 18, 3) := by decide +kernel
theorem dL_beside_55 : decode cL_beside 55 = .ok (.lload_n 0, 1) := by decide +kernel
theorem dL_beside_56 : decode cL_beside 56 = .ok (.iload_n 2, 1) := by decide +kernel
theorem dL_beside_57 : decode cL_beside 57 = .ok (.bipush 6, 2) := by decide +kernel
theorem dL_beside_59 : decode cL_beside 59 = .ok (.isub, 1) := by decide +kernel
theorem dL_beside_60 : decode cL_beside 60 = .ok (.invokestatic 25, 3) := by decide +kernel
theorem dL_beside_63 : decode cL_beside 63 = .ok (.ifCond .eq 7, 3) := by decide +kernel
theorem dL_beside_66 : decode cL_beside 66 = .ok (.iconst 1, 1) := by decide +kernel
theorem dL_beside_67 : decode cL_beside 67 = .ok (.goto 4, 3) := by decide +kernel
theorem dL_beside_70 : decode cL_beside 70 = .ok (.iconst 0, 1) := by decide +kernel
theorem dL_beside_71 : decode cL_beside 71 = .ok (.iadd, 1) := by decide +kernel
theorem dL_beside_72 : decode cL_beside 72 = .ok (.istore_n 3, 1) := by decide +kernel
theorem dL_beside_73 : decode cL_beside 73 = .ok (.iload_n 3, 1) := by decide +kernel
theorem dL_beside_74 : decode cL_beside 74 = .ok (.iload_n 2, 1) := by decide +kernel
theorem dL_beside_75 : decode cL_beside 75 = .ok (.bipush 30, 2) := by decide +kernel
theorem dL_beside_77 : decode cL_beside 77 = .ok (.if_icmp .ge 18, 3) := by decide +kernel
theorem dL_beside_80 : decode cL_beside 80 = .ok (.lload_n 0, 1) := by decide +kernel
theorem dL_beside_81 : decode cL_beside 81 = .ok (.iload_n 2, 1) := by decide +kernel
theorem dL_beside_82 : decode cL_beside 82 = .ok (.bipush 6, 2) := by decide +kernel
theorem dL_beside_84 : decode cL_beside 84 = .ok (.iadd, 1) := by decide +kernel
theorem dL_beside_85 : decode cL_beside 85 = .ok (.invokestatic 25, 3) := by decide +kernel
theorem dL_beside_88 : decode cL_beside 88 = .ok (.ifCond .eq 7, 3) := by decide +kernel
theorem dL_beside_91 : decode cL_beside 91 = .ok (.iconst 1, 1) := by decide +kernel
theorem dL_beside_92 : decode cL_beside 92 = .ok (.goto 4, 3) := by decide +kernel
theorem dL_beside_95 : decode cL_beside 95 = .ok (.iconst 0, 1) := by decide +kernel
theorem dL_beside_96 : decode cL_beside 96 = .ok (.iadd, 1) := by decide +kernel
theorem dL_beside_97 : decode cL_beside 97 = .ok (.ireturn, 1) := by decide +kernel
theorem dX11_siteBeside_0 : decode cX11_siteBeside 0 = .ok (.iload_n 1, 1) := by decide +kernel
theorem dX11_siteBeside_1 : decode cX11_siteBeside 1 = .ok (.tableswitch 74 0 2 #[27, 43, 58], 27) := by decide +kernel
theorem dX11_siteBeside_28 : decode cX11_siteBeside 28 = .ok (.iload_n 0, 1) := by decide +kernel
theorem dX11_siteBeside_29 : decode cX11_siteBeside 29 = .ok (.bipush 6, 2) := by decide +kernel
theorem dX11_siteBeside_31 : decode cX11_siteBeside 31 = .ok (.idiv, 1) := by decide +kernel
theorem dX11_siteBeside_32 : decode cX11_siteBeside 32 = .ok (.ifCond .le 10, 3) := by decide +kernel
theorem dX11_siteBeside_35 : decode cX11_siteBeside 35 = .ok (.iload_n 0, 1) := by decide +kernel
theorem dX11_siteBeside_36 : decode cX11_siteBeside 36 = .ok (.bipush 6, 2) := by decide +kernel
theorem dX11_siteBeside_38 : decode cX11_siteBeside 38 = .ok (.isub, 1) := by decide +kernel
theorem dX11_siteBeside_39 : decode cX11_siteBeside 39 = .ok (.goto 4, 3) := by decide +kernel
theorem dX11_siteBeside_42 : decode cX11_siteBeside 42 = .ok (.iconst (-1), 1) := by decide +kernel
theorem dX11_siteBeside_43 : decode cX11_siteBeside 43 = .ok (.ireturn, 1) := by decide +kernel
theorem dX11_siteBeside_44 : decode cX11_siteBeside 44 = .ok (.iload_n 0, 1) := by decide +kernel
theorem dX11_siteBeside_45 : decode cX11_siteBeside 45 = .ok (.bipush 6, 2) := by decide +kernel
theorem dX11_siteBeside_47 : decode cX11_siteBeside 47 = .ok (.irem, 1) := by decide +kernel
theorem dX11_siteBeside_48 : decode cX11_siteBeside 48 = .ok (.ifCond .le 9, 3) := by decide +kernel
theorem dX11_siteBeside_51 : decode cX11_siteBeside 51 = .ok (.iload_n 0, 1) := by decide +kernel
theorem dX11_siteBeside_52 : decode cX11_siteBeside 52 = .ok (.iconst 1, 1) := by decide +kernel
theorem dX11_siteBeside_53 : decode cX11_siteBeside 53 = .ok (.isub, 1) := by decide +kernel
theorem dX11_siteBeside_54 : decode cX11_siteBeside 54 = .ok (.goto 4, 3) := by decide +kernel
theorem dX11_siteBeside_57 : decode cX11_siteBeside 57 = .ok (.iconst (-1), 1) := by decide +kernel
theorem dX11_siteBeside_58 : decode cX11_siteBeside 58 = .ok (.ireturn, 1) := by decide +kernel
theorem dX11_siteBeside_59 : decode cX11_siteBeside 59 = .ok (.iload_n 0, 1) := by decide +kernel
theorem dX11_siteBeside_60 : decode cX11_siteBeside 60 = .ok (.bipush 6, 2) := by decide +kernel
theorem dX11_siteBeside_62 : decode cX11_siteBeside 62 = .ok (.irem, 1) := by decide +kernel
theorem dX11_siteBeside_63 : decode cX11_siteBeside 63 = .ok (.iconst 5, 1) := by decide +kernel
theorem dX11_siteBeside_64 : decode cX11_siteBeside 64 = .ok (.if_icmp .ge 9, 3) := by decide +kernel
theorem dX11_siteBeside_67 : decode cX11_siteBeside 67 = .ok (.iload_n 0, 1) := by decide +kernel
theorem dX11_siteBeside_68 : decode cX11_siteBeside 68 = .ok (.iconst 1, 1) := by decide +kernel
theorem dX11_siteBeside_69 : decode cX11_siteBeside 69 = .ok (.iadd, 1) := by decide +kernel
theorem dX11_siteBeside_70 : decode cX11_siteBeside 70 = .ok (.goto 4, 3) := by decide +kernel
theorem dX11_siteBeside_73 : decode cX11_siteBeside 73 = .ok (.iconst (-1), 1) := by decide +kernel
theorem dX11_siteBeside_74 : decode cX11_siteBeside 74 = .ok (.ireturn, 1) := by decide +kernel
theorem dX11_siteBeside_75 : decode cX11_siteBeside 75 = .ok (.iload_n 0, 1) := by decide +kernel
theorem dX11_siteBeside_76 : decode cX11_siteBeside 76 = .ok (.bipush 6, 2) := by decide +kernel
theorem dX11_siteBeside_78 : decode cX11_siteBeside 78 = .ok (.idiv, 1) := by decide +kernel
theorem dX11_siteBeside_79 : decode cX11_siteBeside 79 = .ok (.iconst 5, 1) := by decide +kernel
theorem dX11_siteBeside_80 : decode cX11_siteBeside 80 = .ok (.if_icmp .ge 10, 3) := by decide +kernel
theorem dX11_siteBeside_83 : decode cX11_siteBeside 83 = .ok (.iload_n 0, 1) := by decide +kernel
theorem dX11_siteBeside_84 : decode cX11_siteBeside 84 = .ok (.bipush 6, 2) := by decide +kernel
theorem dX11_siteBeside_86 : decode cX11_siteBeside 86 = .ok (.iadd, 1) := by decide +kernel
theorem dX11_siteBeside_87 : decode cX11_siteBeside 87 = .ok (.goto 4, 3) := by decide +kernel
theorem dX11_siteBeside_90 : decode cX11_siteBeside 90 = .ok (.iconst (-1), 1) := by decide +kernel
theorem dX11_siteBeside_91 : decode cX11_siteBeside 91 = .ok (.ireturn, 1) := by decide +kernel
theorem dX7_countNotShutBeside_0 : decode cX7_countNotShutBeside 0 = .ok (.iconst 0, 1) := by decide +kernel
theorem dX7_countNotShutBeside_1 : decode cX7_countNotShutBeside 1 = .ok (.istore_n 2, 1) := by decide +kernel
theorem dX7_countNotShutBeside_2 : decode cX7_countNotShutBeside 2 = .ok (.iconst 0, 1) := by decide +kernel
theorem dX7_countNotShutBeside_3 : decode cX7_countNotShutBeside 3 = .ok (.istore_n 3, 1) := by decide +kernel
theorem dX7_countNotShutBeside_4 : decode cX7_countNotShutBeside 4 = .ok (.iload_n 3, 1) := by decide +kernel
theorem dX7_countNotShutBeside_5 : decode cX7_countNotShutBeside 5 = .ok (.iconst 4, 1) := by decide +kernel
theorem dX7_countNotShutBeside_6 : decode cX7_countNotShutBeside 6 = .ok (.if_icmp .ge 35, 3) := by decide +kernel
theorem dX7_countNotShutBeside_9 : decode cX7_countNotShutBeside 9 = .ok (.iload_n 1, 1) := by decide +kernel
theorem dX7_countNotShutBeside_10 : decode cX7_countNotShutBeside 10 = .ok (.iload_n 3, 1) := by decide +kernel
theorem dX7_countNotShutBeside_11 : decode cX7_countNotShutBeside 11 = .ok (.invokestatic 38, 3) := by decide +kernel
theorem dX7_countNotShutBeside_14 : decode cX7_countNotShutBeside 14 = .ok (.istore 4, 2) := by decide +kernel
theorem dX7_countNotShutBeside_16 : decode cX7_countNotShutBeside 16 = .ok (.iload 4, 2) := by decide +kernel
theorem dX7_countNotShutBeside_18 : decode cX7_countNotShutBeside 18 = .ok (.iconst (-1), 1) := by decide +kernel
theorem dX7_countNotShutBeside_19 : decode cX7_countNotShutBeside 19 = .ok (.if_icmp .eq 16, 3) := by decide +kernel
theorem dX7_countNotShutBeside_22 : decode cX7_countNotShutBeside 22 = .ok (.aload_n 0, 1) := by decide +kernel
theorem dX7_countNotShutBeside_23 : decode cX7_countNotShutBeside 23 = .ok (.getfield 9, 3) := by decide +kernel
theorem dX7_countNotShutBeside_26 : decode cX7_countNotShutBeside 26 = .ok (.iload 4, 2) := by decide +kernel
theorem dX7_countNotShutBeside_28 : decode cX7_countNotShutBeside 28 = .ok (.baload, 1) := by decide +kernel
theorem dX7_countNotShutBeside_29 : decode cX7_countNotShutBeside 29 = .ok (.ifCond .ne 6, 3) := by decide +kernel
theorem dX7_countNotShutBeside_32 : decode cX7_countNotShutBeside 32 = .ok (.iinc 2 1, 3) := by decide +kernel
theorem dX7_countNotShutBeside_35 : decode cX7_countNotShutBeside 35 = .ok (.iinc 3 1, 3) := by decide +kernel
theorem dX7_countNotShutBeside_38 : decode cX7_countNotShutBeside 38 = .ok (.goto (-34), 3) := by decide +kernel
theorem dX7_countNotShutBeside_41 : decode cX7_countNotShutBeside 41 = .ok (.iload_n 2, 1) := by decide +kernel
theorem dX7_countNotShutBeside_42 : decode cX7_countNotShutBeside 42 = .ok (.ireturn, 1) := by decide +kernel
theorem dX7_firstInRank_0 : decode cX7_firstInRank 0 = .ok (.iconst (-1), 1) := by decide +kernel
theorem dX7_firstInRank_1 : decode cX7_firstInRank 1 = .ok (.istore_n 1, 1) := by decide +kernel
theorem dX7_firstInRank_2 : decode cX7_firstInRank 2 = .ok (.iconst (-1), 1) := by decide +kernel
theorem dX7_firstInRank_3 : decode cX7_firstInRank 3 = .ok (.istore_n 2, 1) := by decide +kernel
theorem dX7_firstInRank_4 : decode cX7_firstInRank 4 = .ok (.iconst 0, 1) := by decide +kernel
theorem dX7_firstInRank_5 : decode cX7_firstInRank 5 = .ok (.istore_n 3, 1) := by decide +kernel
theorem dX7_firstInRank_6 : decode cX7_firstInRank 6 = .ok (.iload_n 3, 1) := by decide +kernel
theorem dX7_firstInRank_7 : decode cX7_firstInRank 7 = .ok (.bipush 36, 2) := by decide +kernel
theorem dX7_firstInRank_9 : decode cX7_firstInRank 9 = .ok (.if_icmp .ge 40, 3) := by decide +kernel
theorem dX7_firstInRank_12 : decode cX7_firstInRank 12 = .ok (.aload_n 0, 1) := by decide +kernel
theorem dX7_firstInRank_13 : decode cX7_firstInRank 13 = .ok (.getfield 9, 3) := by decide +kernel
theorem dX7_firstInRank_16 : decode cX7_firstInRank 16 = .ok (.iload_n 3, 1) := by decide +kernel
theorem dX7_firstInRank_17 : decode cX7_firstInRank 17 = .ok (.baload, 1) := by decide +kernel
theorem dX7_firstInRank_18 : decode cX7_firstInRank 18 = .ok (.ifCond .eq 7, 3) := by decide +kernel
theorem dX7_firstInRank_21 : decode cX7_firstInRank 21 = .ok (.iconst (-1), 1) := by decide +kernel
theorem dX7_firstInRank_22 : decode cX7_firstInRank 22 = .ok (.goto 8, 3) := by decide +kernel
theorem dX7_firstInRank_25 : decode cX7_firstInRank 25 = .ok (.aload_n 0, 1) := by decide +kernel
theorem dX7_firstInRank_26 : decode cX7_firstInRank 26 = .ok (.iload_n 3, 1) := by decide +kernel
theorem dX7_firstInRank_27 : decode cX7_firstInRank 27 = .ok (.invokevirtual 34, 3) := by decide +kernel
theorem dX7_firstInRank_30 : decode cX7_firstInRank 30 = .ok (.istore 4, 2) := by decide +kernel
theorem dX7_firstInRank_32 : decode cX7_firstInRank 32 = .ok (.iload 4, 2) := by decide +kernel
theorem dX7_firstInRank_34 : decode cX7_firstInRank 34 = .ok (.iload_n 2, 1) := by decide +kernel
theorem dX7_firstInRank_35 : decode cX7_firstInRank 35 = .ok (.if_icmp .le 8, 3) := by decide +kernel
theorem dX7_firstInRank_38 : decode cX7_firstInRank 38 = .ok (.iload 4, 2) := by decide +kernel
theorem dX7_firstInRank_40 : decode cX7_firstInRank 40 = .ok (.istore_n 2, 1) := by decide +kernel
theorem dX7_firstInRank_41 : decode cX7_firstInRank 41 = .ok (.iload_n 3, 1) := by decide +kernel
theorem dX7_firstInRank_42 : decode cX7_firstInRank 42 = .ok (.istore_n 1, 1) := by decide +kernel
theorem dX7_firstInRank_43 : decode cX7_firstInRank 43 = .ok (.iinc 3 1, 3) := by decide +kernel
theorem dX7_firstInRank_46 : decode cX7_firstInRank 46 = .ok (.goto (-40), 3) := by decide +kernel
theorem dX7_firstInRank_49 : decode cX7_firstInRank 49 = .ok (.iload_n 1, 1) := by decide +kernel
theorem dX7_firstInRank_50 : decode cX7_firstInRank 50 = .ok (.ireturn, 1) := by decide +kernel
theorem dX11_countTrue_0 : decode cX11_countTrue 0 = .ok (.iconst 0, 1) := by decide +kernel
theorem dX11_countTrue_1 : decode cX11_countTrue 1 = .ok (.istore_n 1, 1) := by decide +kernel
theorem dX11_countTrue_2 : decode cX11_countTrue 2 = .ok (.aload_n 0, 1) := by decide +kernel
theorem dX11_countTrue_3 : decode cX11_countTrue 3 = .ok (.astore_n 2, 1) := by decide +kernel
theorem dX11_countTrue_4 : decode cX11_countTrue 4 = .ok (.aload_n 2, 1) := by decide +kernel
theorem dX11_countTrue_5 : decode cX11_countTrue 5 = .ok (.arraylength, 1) := by decide +kernel
theorem dX11_countTrue_6 : decode cX11_countTrue 6 = .ok (.istore_n 3, 1) := by decide +kernel
theorem dX11_countTrue_7 : decode cX11_countTrue 7 = .ok (.iconst 0, 1) := by decide +kernel
theorem dX11_countTrue_8 : decode cX11_countTrue 8 = .ok (.istore 4, 2) := by decide +kernel
theorem dX11_countTrue_10 : decode cX11_countTrue 10 = .ok (.iload 4, 2) := by decide +kernel
theorem dX11_countTrue_12 : decode cX11_countTrue 12 = .ok (.iload_n 3, 1) := by decide +kernel
theorem dX11_countTrue_13 : decode cX11_countTrue 13 = .ok (.if_icmp .ge 23, 3) := by decide +kernel
theorem dX11_countTrue_16 : decode cX11_countTrue 16 = .ok (.aload_n 2, 1) := by decide +kernel
theorem dX11_countTrue_17 : decode cX11_countTrue 17 = .ok (.iload 4, 2) := by decide +kernel
theorem dX11_countTrue_19 : decode cX11_countTrue 19 = .ok (.baload, 1) := by decide +kernel
theorem dX11_countTrue_20 : decode cX11_countTrue 20 = .ok (.istore 5, 2) := by decide +kernel
theorem dX11_countTrue_22 : decode cX11_countTrue 22 = .ok (.iload 5, 2) := by decide +kernel
theorem dX11_countTrue_24 : decode cX11_countTrue 24 = .ok (.ifCond .eq 6, 3) := by decide +kernel
theorem dX11_countTrue_27 : decode cX11_countTrue 27 = .ok (.iinc 1 1, 3) := by decide +kernel
theorem dX11_countTrue_30 : decode cX11_countTrue 30 = .ok (.iinc 4 1, 3) := by decide +kernel
theorem dX11_countTrue_33 : decode cX11_countTrue 33 = .ok (.goto (-23), 3) := by decide +kernel
theorem dX11_countTrue_36 : decode cX11_countTrue 36 = .ok (.iload_n 1, 1) := by decide +kernel
theorem dX11_countTrue_37 : decode cX11_countTrue 37 = .ok (.ireturn, 1) := by decide +kernel
theorem dX11_strike_0 : decode cX11_strike 0 = .ok (.iload_n 1, 1) := by decide +kernel
theorem dX11_strike_1 : decode cX11_strike 1 = .ok (.iconst 0, 1) := by decide +kernel
theorem dX11_strike_2 : decode cX11_strike 2 = .ok (.bipush 36, 2) := by decide +kernel
theorem dX11_strike_4 : decode cX11_strike 4 = .ok (.invokestatic 90, 3) := by decide +kernel
theorem dX11_strike_7 : decode cX11_strike 7 = .ok (.iconst 0, 1) := by decide +kernel
theorem dX11_strike_8 : decode cX11_strike 8 = .ok (.istore_n 2, 1) := by decide +kernel
theorem dX11_strike_9 : decode cX11_strike 9 = .ok (.iload_n 2, 1) := by decide +kernel
theorem dX11_strike_10 : decode cX11_strike 10 = .ok (.iload_n 1, 1) := by decide +kernel
theorem dX11_strike_11 : decode cX11_strike 11 = .ok (.if_icmp .ge 30, 3) := by decide +kernel
theorem dX11_strike_14 : decode cX11_strike 14 = .ok (.aload_n 0, 1) := by decide +kernel
theorem dX11_strike_15 : decode cX11_strike 15 = .ok (.getfield 22, 3) := by decide +kernel
theorem dX11_strike_18 : decode cX11_strike 18 = .ok (.invokevirtual 125, 3) := by decide +kernel
theorem dX11_strike_21 : decode cX11_strike 21 = .ok (.istore_n 3, 1) := by decide +kernel
theorem dX11_strike_22 : decode cX11_strike 22 = .ok (.iload_n 3, 1) := by decide +kernel
theorem dX11_strike_23 : decode cX11_strike 23 = .ok (.iconst (-1), 1) := by decide +kernel
theorem dX11_strike_24 : decode cX11_strike 24 = .ok (.if_icmp .ne 6, 3) := by decide +kernel
theorem dX11_strike_27 : decode cX11_strike 27 = .ok (.goto 14, 3) := by decide +kernel
theorem dX11_strike_30 : decode cX11_strike 30 = .ok (.aload_n 0, 1) := by decide +kernel
theorem dX11_strike_31 : decode cX11_strike 31 = .ok (.iload_n 3, 1) := by decide +kernel
theorem dX11_strike_32 : decode cX11_strike 32 = .ok (.invokevirtual 122, 3) := by decide +kernel
theorem dX11_strike_35 : decode cX11_strike 35 = .ok (.iinc 2 1, 3) := by decide +kernel
theorem dX11_strike_38 : decode cX11_strike 38 = .ok (.goto (-29), 3) := by decide +kernel
theorem dX11_strike_41 : decode cX11_strike 41 = .ok (.aload_n 0, 1) := by decide +kernel
theorem dX11_strike_42 : decode cX11_strike 42 = .ok (.getfield 22, 3) := by decide +kernel
theorem dX11_strike_45 : decode cX11_strike 45 = .ok (.getfield 118, 3) := by decide +kernel
theorem dX11_strike_48 : decode cX11_strike 48 = .ok (.invokestatic 129, 3) := by decide +kernel
theorem dX11_strike_51 : decode cX11_strike 51 = .ok (.ireturn, 1) := by decide +kernel
theorem dL_many_0 : decode cL_many 0 = .ok (.iconst 0, 1) := by decide +kernel
theorem dL_many_1 : decode cL_many 1 = .ok (.istore_n 2, 1) := by decide +kernel
theorem dL_many_2 : decode cL_many 2 = .ok (.iconst 0, 1) := by decide +kernel
theorem dL_many_3 : decode cL_many 3 = .ok (.istore_n 3, 1) := by decide +kernel
theorem dL_many_4 : decode cL_many 4 = .ok (.iload_n 3, 1) := by decide +kernel
theorem dL_many_5 : decode cL_many 5 = .ok (.bipush 36, 2) := by decide +kernel
theorem dL_many_7 : decode cL_many 7 = .ok (.if_icmp .ge 25, 3) := by decide +kernel
theorem dL_many_10 : decode cL_many 10 = .ok (.iload_n 2, 1) := by decide +kernel
theorem dL_many_11 : decode cL_many 11 = .ok (.lload_n 0, 1) := by decide +kernel
theorem dL_many_12 : decode cL_many 12 = .ok (.iload_n 3, 1) := by decide +kernel
theorem dL_many_13 : decode cL_many 13 = .ok (.invokestatic 25, 3) := by decide +kernel
theorem dL_many_16 : decode cL_many 16 = .ok (.ifCond .eq 7, 3) := by decide +kernel
theorem dL_many_19 : decode cL_many 19 = .ok (.iconst 1, 1) := by decide +kernel
theorem dL_many_20 : decode cL_many 20 = .ok (.goto 4, 3) := by decide +kernel
theorem dL_many_23 : decode cL_many 23 = .ok (.iconst 0, 1) := by decide +kernel
theorem dL_many_24 : decode cL_many 24 = .ok (.iadd, 1) := by decide +kernel
theorem dL_many_25 : decode cL_many 25 = .ok (.istore_n 2, 1) := by decide +kernel
theorem dL_many_26 : decode cL_many 26 = .ok (.iinc 3 1, 3) := by decide +kernel
theorem dL_many_29 : decode cL_many 29 = .ok (.goto (-25), 3) := by decide +kernel
theorem dL_many_32 : decode cL_many 32 = .ok (.iload_n 2, 1) := by decide +kernel
theorem dL_many_33 : decode cL_many 33 = .ok (.ireturn, 1) := by decide +kernel
theorem dX11_needNotShut_0 : decode cX11_needNotShut 0 = .ok (.aload_n 0, 1) := by decide +kernel
theorem dX11_needNotShut_1 : decode cX11_needNotShut 1 = .ok (.getfield 22, 3) := by decide +kernel
theorem dX11_needNotShut_4 : decode cX11_needNotShut 4 = .ok (.getfield 118, 3) := by decide +kernel
theorem dX11_needNotShut_7 : decode cX11_needNotShut 7 = .ok (.iload_n 1, 1) := by decide +kernel
theorem dX11_needNotShut_8 : decode cX11_needNotShut 8 = .ok (.baload, 1) := by decide +kernel
theorem dX11_needNotShut_9 : decode cX11_needNotShut 9 = .ok (.ifCond .eq 14, 3) := by decide +kernel
theorem dX11_needNotShut_12 : decode cX11_needNotShut 12 = .ok (.new 293, 3) := by decide +kernel
theorem dX11_needNotShut_15 : decode cX11_needNotShut 15 = .ok (.dup, 1) := by decide +kernel
theorem dX11_needNotShut_16 : decode cX11_needNotShut 16 = .ok (.ldc_w 359, 3) := by decide +kernel
theorem dX11_needNotShut_19 : decode cX11_needNotShut 19 = .ok (.invokespecial 297, 3) := by decide +kernel
theorem dX11_needNotShut_22 : decode cX11_needNotShut 22 = .ok (.athrow, 1) := by decide +kernel
theorem dX11_needNotShut_23 : decode cX11_needNotShut 23 = .ok (.return_, 1) := by decide +kernel
theorem dX11_wet_0 : decode cX11_wet 0 = .ok (.iload_n 1, 1) := by decide +kernel
theorem dX11_wet_1 : decode cX11_wet 1 = .ok (.invokestatic 105, 3) := by decide +kernel
theorem dX11_wet_4 : decode cX11_wet 4 = .ok (.aload_n 0, 1) := by decide +kernel
theorem dX11_wet_5 : decode cX11_wet 5 = .ok (.iload_n 1, 1) := by decide +kernel
theorem dX11_wet_6 : decode cX11_wet 6 = .ok (.invokevirtual 224, 3) := by decide +kernel
theorem dX11_wet_9 : decode cX11_wet 9 = .ok (.aload_n 0, 1) := by decide +kernel
theorem dX11_wet_10 : decode cX11_wet 10 = .ok (.getfield 22, 3) := by decide +kernel
theorem dX11_wet_13 : decode cX11_wet 13 = .ok (.getfield 227, 3) := by decide +kernel
theorem dX11_wet_16 : decode cX11_wet 16 = .ok (.iload_n 1, 1) := by decide +kernel
theorem dX11_wet_17 : decode cX11_wet 17 = .ok (.baload, 1) := by decide +kernel
theorem dX11_wet_18 : decode cX11_wet 18 = .ok (.istore_n 3, 1) := by decide +kernel
theorem dX11_wet_19 : decode cX11_wet 19 = .ok (.aload_n 0, 1) := by decide +kernel
theorem dX11_wet_20 : decode cX11_wet 20 = .ok (.getfield 22, 3) := by decide +kernel
theorem dX11_wet_23 : decode cX11_wet 23 = .ok (.getfield 227, 3) := by decide +kernel
theorem dX11_wet_26 : decode cX11_wet 26 = .ok (.iload_n 1, 1) := by decide +kernel
theorem dX11_wet_27 : decode cX11_wet 27 = .ok (.iload_n 2, 1) := by decide +kernel
theorem dX11_wet_28 : decode cX11_wet 28 = .ok (.bastore, 1) := by decide +kernel
theorem dX11_wet_29 : decode cX11_wet 29 = .ok (.iload_n 3, 1) := by decide +kernel
theorem dX11_wet_30 : decode cX11_wet 30 = .ok (.ireturn, 1) := by decide +kernel
theorem dL_wets_0 : decode cL_wets 0 = .ok (.aload_n 0, 1) := by decide +kernel
theorem dL_wets_1 : decode cL_wets 1 = .ok (.iload_n 1, 1) := by decide +kernel
theorem dL_wets_2 : decode cL_wets 2 = .ok (.iload_n 2, 1) := by decide +kernel
theorem dL_wets_3 : decode cL_wets 3 = .ok (.invokevirtual 10, 3) := by decide +kernel
theorem dL_wets_6 : decode cL_wets 6 = .ok (.ifCond .eq 7, 3) := by decide +kernel
theorem dL_wets_9 : decode cL_wets 9 = .ok (.iconst 1, 1) := by decide +kernel
theorem dL_wets_10 : decode cL_wets 10 = .ok (.goto 4, 3) := by decide +kernel
theorem dL_wets_13 : decode cL_wets 13 = .ok (.iconst 0, 1) := by decide +kernel
theorem dL_wets_14 : decode cL_wets 14 = .ok (.ireturn, 1) := by decide +kernel
theorem dL_wets_15 : decode cL_wets 15 = .ok (.astore_n 3, 1) := by decide +kernel
theorem dL_wets_16 : decode cL_wets 16 = .ok (.bipush (-9), 2) := by decide +kernel
theorem dL_wets_18 : decode cL_wets 18 = .ok (.ireturn, 1) := by decide +kernel
theorem dX7_countFilledBeside_0 : decode cX7_countFilledBeside 0 = .ok (.iconst 0, 1) := by decide +kernel
theorem dX7_countFilledBeside_1 : decode cX7_countFilledBeside 1 = .ok (.istore_n 2, 1) := by decide +kernel
theorem dX7_countFilledBeside_2 : decode cX7_countFilledBeside 2 = .ok (.iconst 0, 1) := by decide +kernel
theorem dX7_countFilledBeside_3 : decode cX7_countFilledBeside 3 = .ok (.istore_n 3, 1) := by decide +kernel
theorem dX7_countFilledBeside_4 : decode cX7_countFilledBeside 4 = .ok (.iload_n 3, 1) := by decide +kernel
theorem dX7_countFilledBeside_5 : decode cX7_countFilledBeside 5 = .ok (.iconst 4, 1) := by decide +kernel
theorem dX7_countFilledBeside_6 : decode cX7_countFilledBeside 6 = .ok (.if_icmp .ge 35, 3) := by decide +kernel
theorem dX7_countFilledBeside_9 : decode cX7_countFilledBeside 9 = .ok (.iload_n 1, 1) := by decide +kernel
theorem dX7_countFilledBeside_10 : decode cX7_countFilledBeside 10 = .ok (.iload_n 3, 1) := by decide +kernel
theorem dX7_countFilledBeside_11 : decode cX7_countFilledBeside 11 = .ok (.invokestatic 38, 3) := by decide +kernel
theorem dX7_countFilledBeside_14 : decode cX7_countFilledBeside 14 = .ok (.istore 4, 2) := by decide +kernel
theorem dX7_countFilledBeside_16 : decode cX7_countFilledBeside 16 = .ok (.iload 4, 2) := by decide +kernel
theorem dX7_countFilledBeside_18 : decode cX7_countFilledBeside 18 = .ok (.iconst (-1), 1) := by decide +kernel
theorem dX7_countFilledBeside_19 : decode cX7_countFilledBeside 19 = .ok (.if_icmp .eq 16, 3) := by decide +kernel
theorem dX7_countFilledBeside_22 : decode cX7_countFilledBeside 22 = .ok (.aload_n 0, 1) := by decide +kernel
theorem dX7_countFilledBeside_23 : decode cX7_countFilledBeside 23 = .ok (.getfield 21, 3) := by decide +kernel
theorem dX7_countFilledBeside_26 : decode cX7_countFilledBeside 26 = .ok (.iload 4, 2) := by decide +kernel
theorem dX7_countFilledBeside_28 : decode cX7_countFilledBeside 28 = .ok (.baload, 1) := by decide +kernel
theorem dX7_countFilledBeside_29 : decode cX7_countFilledBeside 29 = .ok (.ifCond .eq 6, 3) := by decide +kernel
theorem dX7_countFilledBeside_32 : decode cX7_countFilledBeside 32 = .ok (.iinc 2 1, 3) := by decide +kernel
theorem dX7_countFilledBeside_35 : decode cX7_countFilledBeside 35 = .ok (.iinc 3 1, 3) := by decide +kernel
theorem dX7_countFilledBeside_38 : decode cX7_countFilledBeside 38 = .ok (.goto (-34), 3) := by decide +kernel
theorem dX7_countFilledBeside_41 : decode cX7_countFilledBeside 41 = .ok (.iload_n 2, 1) := by decide +kernel
theorem dX7_countFilledBeside_42 : decode cX7_countFilledBeside 42 = .ok (.ireturn, 1) := by decide +kernel
theorem dX7_fillOnce_0 : decode cX7_fillOnce 0 = .ok (.iconst 0, 1) := by decide +kernel
theorem dX7_fillOnce_1 : decode cX7_fillOnce 1 = .ok (.istore_n 2, 1) := by decide +kernel
theorem dX7_fillOnce_2 : decode cX7_fillOnce 2 = .ok (.iload_n 2, 1) := by decide +kernel
theorem dX7_fillOnce_3 : decode cX7_fillOnce 3 = .ok (.bipush 36, 2) := by decide +kernel
theorem dX7_fillOnce_5 : decode cX7_fillOnce 5 = .ok (.if_icmp .ge 47, 3) := by decide +kernel
theorem dX7_fillOnce_8 : decode cX7_fillOnce 8 = .ok (.aload_n 0, 1) := by decide +kernel
theorem dX7_fillOnce_9 : decode cX7_fillOnce 9 = .ok (.getfield 24, 3) := by decide +kernel
theorem dX7_fillOnce_12 : decode cX7_fillOnce 12 = .ok (.iload_n 2, 1) := by decide +kernel
theorem dX7_fillOnce_13 : decode cX7_fillOnce 13 = .ok (.aload_n 0, 1) := by decide +kernel
theorem dX7_fillOnce_14 : decode cX7_fillOnce 14 = .ok (.getfield 21, 3) := by decide +kernel
theorem dX7_fillOnce_17 : decode cX7_fillOnce 17 = .ok (.iload_n 2, 1) := by decide +kernel
theorem dX7_fillOnce_18 : decode cX7_fillOnce 18 = .ok (.baload, 1) := by decide +kernel
theorem dX7_fillOnce_19 : decode cX7_fillOnce 19 = .ok (.ifCond .ne 25, 3) := by decide +kernel
theorem dX7_fillOnce_22 : decode cX7_fillOnce 22 = .ok (.aload_n 0, 1) := by decide +kernel
theorem dX7_fillOnce_23 : decode cX7_fillOnce 23 = .ok (.getfield 9, 3) := by decide +kernel
theorem dX7_fillOnce_26 : decode cX7_fillOnce 26 = .ok (.iload_n 2, 1) := by decide +kernel
theorem dX7_fillOnce_27 : decode cX7_fillOnce 27 = .ok (.baload, 1) := by decide +kernel
theorem dX7_fillOnce_28 : decode cX7_fillOnce 28 = .ok (.ifCond .ne 16, 3) := by decide +kernel
theorem dX7_fillOnce_31 : decode cX7_fillOnce 31 = .ok (.aload_n 0, 1) := by decide +kernel
theorem dX7_fillOnce_32 : decode cX7_fillOnce 32 = .ok (.iload_n 2, 1) := by decide +kernel
theorem dX7_fillOnce_33 : decode cX7_fillOnce 33 = .ok (.invokevirtual 56, 3) := by decide +kernel
theorem dX7_fillOnce_36 : decode cX7_fillOnce 36 = .ok (.iload_n 1, 1) := by decide +kernel
theorem dX7_fillOnce_37 : decode cX7_fillOnce 37 = .ok (.if_icmp .lt 7, 3) := by decide +kernel
theorem dX7_fillOnce_40 : decode cX7_fillOnce 40 = .ok (.iconst 1, 1) := by decide +kernel
theorem dX7_fillOnce_41 : decode cX7_fillOnce 41 = .ok (.goto 4, 3) := by decide +kernel
theorem dX7_fillOnce_44 : decode cX7_fillOnce 44 = .ok (.iconst 0, 1) := by decide +kernel
theorem dX7_fillOnce_45 : decode cX7_fillOnce 45 = .ok (.bastore, 1) := by decide +kernel
theorem dX7_fillOnce_46 : decode cX7_fillOnce 46 = .ok (.iinc 2 1, 3) := by decide +kernel
theorem dX7_fillOnce_49 : decode cX7_fillOnce 49 = .ok (.goto (-47), 3) := by decide +kernel
theorem dX7_fillOnce_52 : decode cX7_fillOnce 52 = .ok (.iconst 0, 1) := by decide +kernel
theorem dX7_fillOnce_53 : decode cX7_fillOnce 53 = .ok (.istore_n 2, 1) := by decide +kernel
theorem dX7_fillOnce_54 : decode cX7_fillOnce 54 = .ok (.iload_n 2, 1) := by decide +kernel
theorem dX7_fillOnce_55 : decode cX7_fillOnce 55 = .ok (.bipush 36, 2) := by decide +kernel
theorem dX7_fillOnce_57 : decode cX7_fillOnce 57 = .ok (.if_icmp .ge 38, 3) := by decide +kernel
theorem dX7_fillOnce_60 : decode cX7_fillOnce 60 = .ok (.aload_n 0, 1) := by decide +kernel
theorem dX7_fillOnce_61 : decode cX7_fillOnce 61 = .ok (.getfield 21, 3) := by decide +kernel
theorem dX7_fillOnce_64 : decode cX7_fillOnce 64 = .ok (.iload_n 2, 1) := by decide +kernel
theorem dX7_fillOnce_65 : decode cX7_fillOnce 65 = .ok (.aload_n 0, 1) := by decide +kernel
theorem dX7_fillOnce_66 : decode cX7_fillOnce 66 = .ok (.getfield 21, 3) := by decide +kernel
theorem dX7_fillOnce_69 : decode cX7_fillOnce 69 = .ok (.iload_n 2, 1) := by decide +kernel
theorem dX7_fillOnce_70 : decode cX7_fillOnce 70 = .ok (.baload, 1) := by decide +kernel
theorem dX7_fillOnce_71 : decode cX7_fillOnce 71 = .ok (.ifCond .ne 12, 3) := by decide +kernel
theorem dX7_fillOnce_74 : decode cX7_fillOnce 74 = .ok (.aload_n 0, 1) := by decide +kernel
theorem dX7_fillOnce_75 : decode cX7_fillOnce 75 = .ok (.getfield 24, 3) := by decide +kernel
theorem dX7_fillOnce_78 : decode cX7_fillOnce 78 = .ok (.iload_n 2, 1) := by decide +kernel
theorem dX7_fillOnce_79 : decode cX7_fillOnce 79 = .ok (.baload, 1) := by decide +kernel
theorem dX7_fillOnce_80 : decode cX7_fillOnce 80 = .ok (.ifCond .eq 7, 3) := by decide +kernel
theorem dX7_fillOnce_83 : decode cX7_fillOnce 83 = .ok (.iconst 1, 1) := by decide +kernel
theorem dX7_fillOnce_84 : decode cX7_fillOnce 84 = .ok (.goto 4, 3) := by decide +kernel
theorem dX7_fillOnce_87 : decode cX7_fillOnce 87 = .ok (.iconst 0, 1) := by decide +kernel
theorem dX7_fillOnce_88 : decode cX7_fillOnce 88 = .ok (.bastore, 1) := by decide +kernel
theorem dX7_fillOnce_89 : decode cX7_fillOnce 89 = .ok (.iinc 2 1, 3) := by decide +kernel
theorem dX7_fillOnce_92 : decode cX7_fillOnce 92 = .ok (.goto (-38), 3) := by decide +kernel
theorem dX7_fillOnce_95 : decode cX7_fillOnce 95 = .ok (.aload_n 0, 1) := by decide +kernel
theorem dX7_fillOnce_96 : decode cX7_fillOnce 96 = .ok (.getfield 24, 3) := by decide +kernel
theorem dX7_fillOnce_99 : decode cX7_fillOnce 99 = .ok (.invokestatic 42, 3) := by decide +kernel
theorem dX7_fillOnce_102 : decode cX7_fillOnce 102 = .ok (.ireturn, 1) := by decide +kernel
theorem dX7_fill_0 : decode cX7_fill 0 = .ok (.iconst 0, 1) := by decide +kernel
theorem dX7_fill_1 : decode cX7_fill 1 = .ok (.istore_n 2, 1) := by decide +kernel
theorem dX7_fill_2 : decode cX7_fill 2 = .ok (.iload_n 2, 1) := by decide +kernel
theorem dX7_fill_3 : decode cX7_fill 3 = .ok (.bipush 36, 2) := by decide +kernel
theorem dX7_fill_5 : decode cX7_fill 5 = .ok (.if_icmp .ge 21, 3) := by decide +kernel
theorem dX7_fill_8 : decode cX7_fill 8 = .ok (.aload_n 0, 1) := by decide +kernel
theorem dX7_fill_9 : decode cX7_fill 9 = .ok (.getfield 21, 3) := by decide +kernel
theorem dX7_fill_12 : decode cX7_fill 12 = .ok (.iload_n 2, 1) := by decide +kernel
theorem dX7_fill_13 : decode cX7_fill 13 = .ok (.aload_n 0, 1) := by decide +kernel
theorem dX7_fill_14 : decode cX7_fill 14 = .ok (.getfield 15, 3) := by decide +kernel
theorem dX7_fill_17 : decode cX7_fill 17 = .ok (.iload_n 2, 1) := by decide +kernel
theorem dX7_fill_18 : decode cX7_fill 18 = .ok (.baload, 1) := by decide +kernel
theorem dX7_fill_19 : decode cX7_fill 19 = .ok (.bastore, 1) := by decide +kernel
theorem dX7_fill_20 : decode cX7_fill 20 = .ok (.iinc 2 1, 3) := by decide +kernel
theorem dX7_fill_23 : decode cX7_fill 23 = .ok (.goto (-21), 3) := by decide +kernel
theorem dX7_fill_26 : decode cX7_fill 26 = .ok (.aload_n 0, 1) := by decide +kernel
theorem dX7_fill_27 : decode cX7_fill 27 = .ok (.aload_n 0, 1) := by decide +kernel
theorem dX7_fill_28 : decode cX7_fill 28 = .ok (.getfield 15, 3) := by decide +kernel
theorem dX7_fill_31 : decode cX7_fill 31 = .ok (.invokestatic 42, 3) := by decide +kernel
theorem dX7_fill_34 : decode cX7_fill 34 = .ok (.putfield 46, 3) := by decide +kernel
theorem dX7_fill_37 : decode cX7_fill 37 = .ok (.aload_n 0, 1) := by decide +kernel
theorem dX7_fill_38 : decode cX7_fill 38 = .ok (.iconst 0, 1) := by decide +kernel
theorem dX7_fill_39 : decode cX7_fill 39 = .ok (.putfield 50, 3) := by decide +kernel
theorem dX7_fill_42 : decode cX7_fill 42 = .ok (.iconst 0, 1) := by decide +kernel
theorem dX7_fill_43 : decode cX7_fill 43 = .ok (.istore_n 2, 1) := by decide +kernel
theorem dX7_fill_44 : decode cX7_fill 44 = .ok (.iload_n 2, 1) := by decide +kernel
theorem dX7_fill_45 : decode cX7_fill 45 = .ok (.bipush 36, 2) := by decide +kernel
theorem dX7_fill_47 : decode cX7_fill 47 = .ok (.if_icmp .ge 42, 3) := by decide +kernel
theorem dX7_fill_50 : decode cX7_fill 50 = .ok (.aload_n 0, 1) := by decide +kernel
theorem dX7_fill_51 : decode cX7_fill 51 = .ok (.iload_n 1, 1) := by decide +kernel
theorem dX7_fill_52 : decode cX7_fill 52 = .ok (.invokevirtual 53, 3) := by decide +kernel
theorem dX7_fill_55 : decode cX7_fill 55 = .ok (.istore_n 3, 1) := by decide +kernel
theorem dX7_fill_56 : decode cX7_fill 56 = .ok (.iload_n 3, 1) := by decide +kernel
theorem dX7_fill_57 : decode cX7_fill 57 = .ok (.ifCond .ne 6, 3) := by decide +kernel
theorem dX7_fill_60 : decode cX7_fill 60 = .ok (.goto 29, 3) := by decide +kernel
theorem dX7_fill_63 : decode cX7_fill 63 = .ok (.aload_n 0, 1) := by decide +kernel
theorem dX7_fill_64 : decode cX7_fill 64 = .ok (.dup, 1) := by decide +kernel
theorem dX7_fill_65 : decode cX7_fill 65 = .ok (.getfield 46, 3) := by decide +kernel
theorem dX7_fill_68 : decode cX7_fill 68 = .ok (.iload_n 3, 1) := by decide +kernel
theorem dX7_fill_69 : decode cX7_fill 69 = .ok (.iadd, 1) := by decide +kernel
theorem dX7_fill_70 : decode cX7_fill 70 = .ok (.putfield 46, 3) := by decide +kernel
theorem dX7_fill_73 : decode cX7_fill 73 = .ok (.aload_n 0, 1) := by decide +kernel
theorem dX7_fill_74 : decode cX7_fill 74 = .ok (.dup, 1) := by decide +kernel
theorem dX7_fill_75 : decode cX7_fill 75 = .ok (.getfield 50, 3) := by decide +kernel
theorem dX7_fill_78 : decode cX7_fill 78 = .ok (.iconst 1, 1) := by decide +kernel
theorem dX7_fill_79 : decode cX7_fill 79 = .ok (.iadd, 1) := by decide +kernel
theorem dX7_fill_80 : decode cX7_fill 80 = .ok (.putfield 50, 3) := by decide +kernel
theorem dX7_fill_83 : decode cX7_fill 83 = .ok (.iinc 2 1, 3) := by decide +kernel
theorem dX7_fill_86 : decode cX7_fill 86 = .ok (.goto (-42), 3) := by decide +kernel
theorem dX7_fill_89 : decode cX7_fill 89 = .ok (.return_, 1) := by decide +kernel
theorem dX11_filled_0 : decode cX11_filled 0 = .ok (.iload_n 1, 1) := by decide +kernel
theorem dX11_filled_1 : decode cX11_filled 1 = .ok (.iconst 1, 1) := by decide +kernel
theorem dX11_filled_2 : decode cX11_filled 2 = .ok (.iconst 4, 1) := by decide +kernel
theorem dX11_filled_3 : decode cX11_filled 3 = .ok (.invokestatic 90, 3) := by decide +kernel
theorem dX11_filled_6 : decode cX11_filled 6 = .ok (.iload_n 2, 1) := by decide +kernel
theorem dX11_filled_7 : decode cX11_filled 7 = .ok (.iconst 0, 1) := by decide +kernel
theorem dX11_filled_8 : decode cX11_filled 8 = .ok (.iconst 1, 1) := by decide +kernel
theorem dX11_filled_9 : decode cX11_filled 9 = .ok (.invokestatic 90, 3) := by decide +kernel
theorem dX11_filled_12 : decode cX11_filled 12 = .ok (.aload_n 0, 1) := by decide +kernel
theorem dX11_filled_13 : decode cX11_filled 13 = .ok (.getfield 22, 3) := by decide +kernel
theorem dX11_filled_16 : decode cX11_filled 16 = .ok (.iload_n 1, 1) := by decide +kernel
theorem dX11_filled_17 : decode cX11_filled 17 = .ok (.invokevirtual 230, 3) := by decide +kernel
theorem dX11_filled_20 : decode cX11_filled 20 = .ok (.iload_n 2, 1) := by decide +kernel
theorem dX11_filled_21 : decode cX11_filled 21 = .ok (.ifCond .ne 13, 3) := by decide +kernel
theorem dX11_filled_24 : decode cX11_filled 24 = .ok (.aload_n 0, 1) := by decide +kernel
theorem dX11_filled_25 : decode cX11_filled 25 = .ok (.getfield 22, 3) := by decide +kernel
theorem dX11_filled_28 : decode cX11_filled 28 = .ok (.getfield 233, 3) := by decide +kernel
theorem dX11_filled_31 : decode cX11_filled 31 = .ok (.goto 10, 3) := by decide +kernel
theorem dX11_filled_34 : decode cX11_filled 34 = .ok (.aload_n 0, 1) := by decide +kernel
theorem dX11_filled_35 : decode cX11_filled 35 = .ok (.getfield 22, 3) := by decide +kernel
theorem dX11_filled_38 : decode cX11_filled 38 = .ok (.getfield 236, 3) := by decide +kernel
theorem dX11_filled_41 : decode cX11_filled 41 = .ok (.ireturn, 1) := by decide +kernel
theorem dL_filling_0 : decode cL_filling 0 = .ok (.iconst 1, 1) := by decide +kernel
theorem dL_filling_1 : decode cL_filling 1 = .ok (.istore 5, 2) := by decide +kernel
theorem dL_filling_3 : decode cL_filling 3 = .ok (.iload 5, 2) := by decide +kernel
theorem dL_filling_5 : decode cL_filling 5 = .ok (.iconst 5, 1) := by decide +kernel
theorem dL_filling_6 : decode cL_filling 6 = .ok (.if_icmp .ge 139, 3) := by decide +kernel
theorem dL_filling_9 : decode cL_filling 9 = .ok (.lload_n 3, 1) := by decide +kernel
theorem dL_filling_10 : decode cL_filling 10 = .ok (.lstore 6, 2) := by decide +kernel
theorem dL_filling_12 : decode cL_filling 12 = .ok (.iconst 0, 1) := by decide +kernel
theorem dL_filling_13 : decode cL_filling 13 = .ok (.istore 8, 2) := by decide +kernel
theorem dL_filling_15 : decode cL_filling 15 = .ok (.iconst 1, 1) := by decide +kernel
theorem dL_filling_16 : decode cL_filling 16 = .ok (.istore 9, 2) := by decide +kernel
theorem dL_filling_18 : decode cL_filling 18 = .ok (.iload 9, 2) := by decide +kernel
theorem dL_filling_20 : decode cL_filling 20 = .ok (.ifCond .eq 90, 3) := by decide +kernel
theorem dL_filling_23 : decode cL_filling 23 = .ok (.lload 6, 2) := by decide +kernel
theorem dL_filling_25 : decode cL_filling 25 = .ok (.lstore 10, 2) := by decide +kernel
theorem dL_filling_27 : decode cL_filling 27 = .ok (.iconst 0, 1) := by decide +kernel
theorem dL_filling_28 : decode cL_filling 28 = .ok (.istore 12, 2) := by decide +kernel
theorem dL_filling_30 : decode cL_filling 30 = .ok (.iload 12, 2) := by decide +kernel
theorem dL_filling_32 : decode cL_filling 32 = .ok (.bipush 36, 2) := by decide +kernel
theorem dL_filling_34 : decode cL_filling 34 = .ok (.if_icmp .ge 39, 3) := by decide +kernel
theorem dL_filling_37 : decode cL_filling 37 = .ok (.lload_n 1, 1) := by decide +kernel
theorem dL_filling_38 : decode cL_filling 38 = .ok (.iload 12, 2) := by decide +kernel
theorem dL_filling_40 : decode cL_filling 40 = .ok (.invokestatic 25, 3) := by decide +kernel
theorem dL_filling_43 : decode cL_filling 43 = .ok (.ifCond .ne 24, 3) := by decide +kernel
theorem dL_filling_46 : decode cL_filling 46 = .ok (.lload 6, 2) := by decide +kernel
theorem dL_filling_48 : decode cL_filling 48 = .ok (.iload 12, 2) := by decide +kernel
theorem dL_filling_50 : decode cL_filling 50 = .ok (.invokestatic 63, 3) := by decide +kernel
theorem dL_filling_53 : decode cL_filling 53 = .ok (.iload 5, 2) := by decide +kernel
theorem dL_filling_55 : decode cL_filling 55 = .ok (.if_icmp .lt 12, 3) := by decide +kernel
theorem dL_filling_58 : decode cL_filling 58 = .ok (.lload 10, 2) := by decide +kernel
theorem dL_filling_60 : decode cL_filling 60 = .ok (.lconst 1, 1) := by decide +kernel
theorem dL_filling_61 : decode cL_filling 61 = .ok (.iload 12, 2) := by decide +kernel
theorem dL_filling_63 : decode cL_filling 63 = .ok (.lshl, 1) := by decide +kernel
theorem dL_filling_64 : decode cL_filling 64 = .ok (.lor, 1) := by decide +kernel
theorem dL_filling_65 : decode cL_filling 65 = .ok (.lstore 10, 2) := by decide +kernel
theorem dL_filling_67 : decode cL_filling 67 = .ok (.iinc 12 1, 3) := by decide +kernel
theorem dL_filling_70 : decode cL_filling 70 = .ok (.goto (-40), 3) := by decide +kernel
theorem dL_filling_73 : decode cL_filling 73 = .ok (.lload 10, 2) := by decide +kernel
theorem dL_filling_75 : decode cL_filling 75 = .ok (.lload 6, 2) := by decide +kernel
theorem dL_filling_77 : decode cL_filling 77 = .ok (.lcmp, 1) := by decide +kernel
theorem dL_filling_78 : decode cL_filling 78 = .ok (.ifCond .eq 7, 3) := by decide +kernel
theorem dL_filling_81 : decode cL_filling 81 = .ok (.iconst 1, 1) := by decide +kernel
theorem dL_filling_82 : decode cL_filling 82 = .ok (.goto 4, 3) := by decide +kernel
theorem dL_filling_85 : decode cL_filling 85 = .ok (.iconst 0, 1) := by decide +kernel
theorem dL_filling_86 : decode cL_filling 86 = .ok (.istore 9, 2) := by decide +kernel
theorem dL_filling_88 : decode cL_filling 88 = .ok (.iload 8, 2) := by decide +kernel
theorem dL_filling_90 : decode cL_filling 90 = .ok (.iload 9, 2) := by decide +kernel
theorem dL_filling_92 : decode cL_filling 92 = .ok (.ifCond .eq 7, 3) := by decide +kernel
theorem dL_filling_95 : decode cL_filling 95 = .ok (.iconst 1, 1) := by decide +kernel
theorem dL_filling_96 : decode cL_filling 96 = .ok (.goto 4, 3) := by decide +kernel
theorem dL_filling_99 : decode cL_filling 99 = .ok (.iconst 0, 1) := by decide +kernel
theorem dL_filling_100 : decode cL_filling 100 = .ok (.iadd, 1) := by decide +kernel
theorem dL_filling_101 : decode cL_filling 101 = .ok (.istore 8, 2) := by decide +kernel
theorem dL_filling_103 : decode cL_filling 103 = .ok (.lload 10, 2) := by decide +kernel
theorem dL_filling_105 : decode cL_filling 105 = .ok (.lstore 6, 2) := by decide +kernel
theorem dL_filling_107 : decode cL_filling 107 = .ok (.goto (-89), 3) := by decide +kernel
theorem dL_filling_110 : decode cL_filling 110 = .ok (.aload_n 0, 1) := by decide +kernel
theorem dL_filling_111 : decode cL_filling 111 = .ok (.iload 5, 2) := by decide +kernel
theorem dL_filling_113 : decode cL_filling 113 = .ok (.iconst 0, 1) := by decide +kernel
theorem dL_filling_114 : decode cL_filling 114 = .ok (.invokevirtual 141, 3) := by decide +kernel
theorem dL_filling_117 : decode cL_filling 117 = .ok (.lload 6, 2) := by decide +kernel
theorem dL_filling_119 : decode cL_filling 119 = .ok (.invokestatic 59, 3) := by decide +kernel
theorem dL_filling_122 : decode cL_filling 122 = .ok (.if_icmp .ne 15, 3) := by decide +kernel
theorem dL_filling_125 : decode cL_filling 125 = .ok (.aload_n 0, 1) := by decide +kernel
theorem dL_filling_126 : decode cL_filling 126 = .ok (.iload 5, 2) := by decide +kernel
theorem dL_filling_128 : decode cL_filling 128 = .ok (.iconst 1, 1) := by decide +kernel
theorem dL_filling_129 : decode cL_filling 129 = .ok (.invokevirtual 141, 3) := by decide +kernel
theorem dL_filling_132 : decode cL_filling 132 = .ok (.iload 8, 2) := by decide +kernel
theorem dL_filling_134 : decode cL_filling 134 = .ok (.if_icmp .eq 5, 3) := by decide +kernel
theorem dL_filling_137 : decode cL_filling 137 = .ok (.iconst 0, 1) := by decide +kernel
theorem dL_filling_138 : decode cL_filling 138 = .ok (.ireturn, 1) := by decide +kernel
theorem dL_filling_139 : decode cL_filling 139 = .ok (.iinc 5 1, 3) := by decide +kernel
theorem dL_filling_142 : decode cL_filling 142 = .ok (.goto (-139), 3) := by decide +kernel
theorem dL_filling_145 : decode cL_filling 145 = .ok (.iconst 1, 1) := by decide +kernel
theorem dL_filling_146 : decode cL_filling 146 = .ok (.ireturn, 1) := by decide +kernel
theorem dX7_plant_0 : decode cX7_plant 0 = .ok (.iconst 0, 1) := by decide +kernel
theorem dX7_plant_1 : decode cX7_plant 1 = .ok (.istore_n 2, 1) := by decide +kernel
theorem dX7_plant_2 : decode cX7_plant 2 = .ok (.iload_n 2, 1) := by decide +kernel
theorem dX7_plant_3 : decode cX7_plant 3 = .ok (.iload_n 1, 1) := by decide +kernel
theorem dX7_plant_4 : decode cX7_plant 4 = .ok (.if_icmp .ge 44, 3) := by decide +kernel
theorem dX7_plant_7 : decode cX7_plant 7 = .ok (.aload_n 0, 1) := by decide +kernel
theorem dX7_plant_8 : decode cX7_plant 8 = .ok (.aload_n 0, 1) := by decide +kernel
theorem dX7_plant_9 : decode cX7_plant 9 = .ok (.getfield 59, 3) := by decide +kernel
theorem dX7_plant_12 : decode cX7_plant 12 = .ok (.invokestatic 62, 3) := by decide +kernel
theorem dX7_plant_15 : decode cX7_plant 15 = .ok (.putfield 59, 3) := by decide +kernel
theorem dX7_plant_18 : decode cX7_plant 18 = .ok (.aload_n 0, 1) := by decide +kernel
theorem dX7_plant_19 : decode cX7_plant 19 = .ok (.getfield 59, 3) := by decide +kernel
theorem dX7_plant_22 : decode cX7_plant 22 = .ok (.bipush 36, 2) := by decide +kernel
theorem dX7_plant_24 : decode cX7_plant 24 = .ok (.irem, 1) := by decide +kernel
theorem dX7_plant_25 : decode cX7_plant 25 = .ok (.istore_n 3, 1) := by decide +kernel
theorem dX7_plant_26 : decode cX7_plant 26 = .ok (.aload_n 0, 1) := by decide +kernel
theorem dX7_plant_27 : decode cX7_plant 27 = .ok (.getfield 9, 3) := by decide +kernel
theorem dX7_plant_30 : decode cX7_plant 30 = .ok (.iload_n 3, 1) := by decide +kernel
theorem dX7_plant_31 : decode cX7_plant 31 = .ok (.baload, 1) := by decide +kernel
theorem dX7_plant_32 : decode cX7_plant 32 = .ok (.ifCond .ne 10, 3) := by decide +kernel
theorem dX7_plant_35 : decode cX7_plant 35 = .ok (.aload_n 0, 1) := by decide +kernel
theorem dX7_plant_36 : decode cX7_plant 36 = .ok (.getfield 18, 3) := by decide +kernel
theorem dX7_plant_39 : decode cX7_plant 39 = .ok (.iload_n 3, 1) := by decide +kernel
theorem dX7_plant_40 : decode cX7_plant 40 = .ok (.iconst 1, 1) := by decide +kernel
theorem dX7_plant_41 : decode cX7_plant 41 = .ok (.bastore, 1) := by decide +kernel
theorem dX7_plant_42 : decode cX7_plant 42 = .ok (.iinc 2 1, 3) := by decide +kernel
theorem dX7_plant_45 : decode cX7_plant 45 = .ok (.goto (-43), 3) := by decide +kernel
theorem dX7_plant_48 : decode cX7_plant 48 = .ok (.return_, 1) := by decide +kernel
theorem dX11_grow_0 : decode cX11_grow 0 = .ok (.iload_n 1, 1) := by decide +kernel
theorem dX11_grow_1 : decode cX11_grow 1 = .ok (.iconst 1, 1) := by decide +kernel
theorem dX11_grow_2 : decode cX11_grow 2 = .ok (.sipush 200, 3) := by decide +kernel
theorem dX11_grow_5 : decode cX11_grow 5 = .ok (.invokestatic 90, 3) := by decide +kernel
theorem dX11_grow_8 : decode cX11_grow 8 = .ok (.aload_n 0, 1) := by decide +kernel
theorem dX11_grow_9 : decode cX11_grow 9 = .ok (.getfield 22, 3) := by decide +kernel
theorem dX11_grow_12 : decode cX11_grow 12 = .ok (.iload_n 1, 1) := by decide +kernel
theorem dX11_grow_13 : decode cX11_grow 13 = .ok (.invokevirtual 245, 3) := by decide +kernel
theorem dX11_grow_16 : decode cX11_grow 16 = .ok (.aload_n 0, 1) := by decide +kernel
theorem dX11_grow_17 : decode cX11_grow 17 = .ok (.getfield 22, 3) := by decide +kernel
theorem dX11_grow_20 : decode cX11_grow 20 = .ok (.getfield 248, 3) := by decide +kernel
theorem dX11_grow_23 : decode cX11_grow 23 = .ok (.invokestatic 129, 3) := by decide +kernel
theorem dX11_grow_26 : decode cX11_grow 26 = .ok (.ireturn, 1) := by decide +kernel
theorem dL_flood_0 : decode cL_flood 0 = .ok (.lload_n 0, 1) := by decide +kernel
theorem dL_flood_1 : decode cL_flood 1 = .ok (.lload_n 2, 1) := by decide +kernel
theorem dL_flood_2 : decode cL_flood 2 = .ok (.land, 1) := by decide +kernel
theorem dL_flood_3 : decode cL_flood 3 = .ok (.lstore 4, 2) := by decide +kernel
theorem dL_flood_5 : decode cL_flood 5 = .ok (.ldc2_w 38, 3) := by decide +kernel
theorem dL_flood_8 : decode cL_flood 8 = .ok (.lstore 6, 2) := by decide +kernel
theorem dL_flood_10 : decode cL_flood 10 = .ok (.lload 6, 2) := by decide +kernel
theorem dL_flood_12 : decode cL_flood 12 = .ok (.lload 4, 2) := by decide +kernel
theorem dL_flood_14 : decode cL_flood 14 = .ok (.lcmp, 1) := by decide +kernel
theorem dL_flood_15 : decode cL_flood 15 = .ok (.ifCond .eq 54, 3) := by decide +kernel
theorem dL_flood_18 : decode cL_flood 18 = .ok (.lload 4, 2) := by decide +kernel
theorem dL_flood_20 : decode cL_flood 20 = .ok (.lstore 6, 2) := by decide +kernel
theorem dL_flood_22 : decode cL_flood 22 = .ok (.iconst 0, 1) := by decide +kernel
theorem dL_flood_23 : decode cL_flood 23 = .ok (.istore 8, 2) := by decide +kernel
theorem dL_flood_25 : decode cL_flood 25 = .ok (.iload 8, 2) := by decide +kernel
theorem dL_flood_27 : decode cL_flood 27 = .ok (.bipush 36, 2) := by decide +kernel
theorem dL_flood_29 : decode cL_flood 29 = .ok (.if_icmp .ge 37, 3) := by decide +kernel
theorem dL_flood_32 : decode cL_flood 32 = .ok (.lload_n 0, 1) := by decide +kernel
theorem dL_flood_33 : decode cL_flood 33 = .ok (.iload 8, 2) := by decide +kernel
theorem dL_flood_35 : decode cL_flood 35 = .ok (.invokestatic 25, 3) := by decide +kernel
theorem dL_flood_38 : decode cL_flood 38 = .ok (.ifCond .eq 22, 3) := by decide +kernel
theorem dL_flood_41 : decode cL_flood 41 = .ok (.lload 4, 2) := by decide +kernel
theorem dL_flood_43 : decode cL_flood 43 = .ok (.iload 8, 2) := by decide +kernel
theorem dL_flood_45 : decode cL_flood 45 = .ok (.invokestatic 63, 3) := by decide +kernel
theorem dL_flood_48 : decode cL_flood 48 = .ok (.ifCond .le 12, 3) := by decide +kernel
theorem dL_flood_51 : decode cL_flood 51 = .ok (.lload 4, 2) := by decide +kernel
theorem dL_flood_53 : decode cL_flood 53 = .ok (.lconst 1, 1) := by decide +kernel
theorem dL_flood_54 : decode cL_flood 54 = .ok (.iload 8, 2) := by decide +kernel
theorem dL_flood_56 : decode cL_flood 56 = .ok (.lshl, 1) := by decide +kernel
theorem dL_flood_57 : decode cL_flood 57 = .ok (.lor, 1) := by decide +kernel
theorem dL_flood_58 : decode cL_flood 58 = .ok (.lstore 4, 2) := by decide +kernel
theorem dL_flood_60 : decode cL_flood 60 = .ok (.iinc 8 1, 3) := by decide +kernel
theorem dL_flood_63 : decode cL_flood 63 = .ok (.goto (-38), 3) := by decide +kernel
theorem dL_flood_66 : decode cL_flood 66 = .ok (.goto (-56), 3) := by decide +kernel
theorem dL_flood_69 : decode cL_flood 69 = .ok (.lload 4, 2) := by decide +kernel
theorem dL_flood_71 : decode cL_flood 71 = .ok (.lreturn, 1) := by decide +kernel
theorem dX10_forget_0 : decode cX10_forget 0 = .ok (.aload_n 0, 1) := by decide +kernel
theorem dX10_forget_1 : decode cX10_forget 1 = .ok (.iconst 0, 1) := by decide +kernel
theorem dX10_forget_2 : decode cX10_forget 2 = .ok (.putfield 15, 3) := by decide +kernel
theorem dX10_forget_5 : decode cX10_forget 5 = .ok (.aload_n 0, 1) := by decide +kernel
theorem dX10_forget_6 : decode cX10_forget 6 = .ok (.iconst 0, 1) := by decide +kernel
theorem dX10_forget_7 : decode cX10_forget 7 = .ok (.putfield 19, 3) := by decide +kernel
theorem dX10_forget_10 : decode cX10_forget 10 = .ok (.return_, 1) := by decide +kernel
theorem dX10_add_0 : decode cX10_add 0 = .ok (.aload_n 0, 1) := by decide +kernel
theorem dX10_add_1 : decode cX10_add 1 = .ok (.getfield 19, 3) := by decide +kernel
theorem dX10_add_4 : decode cX10_add 4 = .ok (.bipush 36, 2) := by decide +kernel
theorem dX10_add_6 : decode cX10_add 6 = .ok (.if_icmp .ge 23, 3) := by decide +kernel
theorem dX10_add_9 : decode cX10_add 9 = .ok (.aload_n 0, 1) := by decide +kernel
theorem dX10_add_10 : decode cX10_add 10 = .ok (.getfield 9, 3) := by decide +kernel
theorem dX10_add_13 : decode cX10_add 13 = .ok (.aload_n 0, 1) := by decide +kernel
theorem dX10_add_14 : decode cX10_add 14 = .ok (.getfield 19, 3) := by decide +kernel
theorem dX10_add_17 : decode cX10_add 17 = .ok (.iload_n 1, 1) := by decide +kernel
theorem dX10_add_18 : decode cX10_add 18 = .ok (.iastore, 1) := by decide +kernel
theorem dX10_add_19 : decode cX10_add 19 = .ok (.aload_n 0, 1) := by decide +kernel
theorem dX10_add_20 : decode cX10_add 20 = .ok (.dup, 1) := by decide +kernel
theorem dX10_add_21 : decode cX10_add 21 = .ok (.getfield 19, 3) := by decide +kernel
theorem dX10_add_24 : decode cX10_add 24 = .ok (.iconst 1, 1) := by decide +kernel
theorem dX10_add_25 : decode cX10_add 25 = .ok (.iadd, 1) := by decide +kernel
theorem dX10_add_26 : decode cX10_add 26 = .ok (.putfield 19, 3) := by decide +kernel
theorem dX10_add_29 : decode cX10_add 29 = .ok (.return_, 1) := by decide +kernel
theorem dX7_kindle_0 : decode cX7_kindle 0 = .ok (.iload_n 1, 1) := by decide +kernel
theorem dX7_kindle_1 : decode cX7_kindle 1 = .ok (.iconst (-1), 1) := by decide +kernel
theorem dX7_kindle_2 : decode cX7_kindle 2 = .ok (.if_icmp .eq 27, 3) := by decide +kernel
theorem dX7_kindle_5 : decode cX7_kindle 5 = .ok (.aload_n 0, 1) := by decide +kernel
theorem dX7_kindle_6 : decode cX7_kindle 6 = .ok (.getfield 18, 3) := by decide +kernel
theorem dX7_kindle_9 : decode cX7_kindle 9 = .ok (.iload_n 1, 1) := by decide +kernel
theorem dX7_kindle_10 : decode cX7_kindle 10 = .ok (.baload, 1) := by decide +kernel
theorem dX7_kindle_11 : decode cX7_kindle 11 = .ok (.ifCond .eq 18, 3) := by decide +kernel
theorem dX7_kindle_14 : decode cX7_kindle 14 = .ok (.aload_n 0, 1) := by decide +kernel
theorem dX7_kindle_15 : decode cX7_kindle 15 = .ok (.getfield 18, 3) := by decide +kernel
theorem dX7_kindle_18 : decode cX7_kindle 18 = .ok (.iload_n 1, 1) := by decide +kernel
theorem dX7_kindle_19 : decode cX7_kindle 19 = .ok (.iconst 0, 1) := by decide +kernel
theorem dX7_kindle_20 : decode cX7_kindle 20 = .ok (.bastore, 1) := by decide +kernel
theorem dX7_kindle_21 : decode cX7_kindle 21 = .ok (.aload_n 0, 1) := by decide +kernel
theorem dX7_kindle_22 : decode cX7_kindle 22 = .ok (.getfield 30, 3) := by decide +kernel
theorem dX7_kindle_25 : decode cX7_kindle 25 = .ok (.iload_n 1, 1) := by decide +kernel
theorem dX7_kindle_26 : decode cX7_kindle 26 = .ok (.invokevirtual 79, 3) := by decide +kernel
theorem dX7_kindle_29 : decode cX7_kindle 29 = .ok (.return_, 1) := by decide +kernel
theorem dX10_next_0 : decode cX10_next 0 = .ok (.aload_n 0, 1) := by decide +kernel
theorem dX10_next_1 : decode cX10_next 1 = .ok (.getfield 15, 3) := by decide +kernel
theorem dX10_next_4 : decode cX10_next 4 = .ok (.aload_n 0, 1) := by decide +kernel
theorem dX10_next_5 : decode cX10_next 5 = .ok (.getfield 19, 3) := by decide +kernel
theorem dX10_next_8 : decode cX10_next 8 = .ok (.if_icmp .lt 5, 3) := by decide +kernel
theorem dX10_next_11 : decode cX10_next 11 = .ok (.iconst (-1), 1) := by decide +kernel
theorem dX10_next_12 : decode cX10_next 12 = .ok (.ireturn, 1) := by decide +kernel
theorem dX10_next_13 : decode cX10_next 13 = .ok (.aload_n 0, 1) := by decide +kernel
theorem dX10_next_14 : decode cX10_next 14 = .ok (.getfield 9, 3) := by decide +kernel
theorem dX10_next_17 : decode cX10_next 17 = .ok (.aload_n 0, 1) := by decide +kernel
theorem dX10_next_18 : decode cX10_next 18 = .ok (.getfield 15, 3) := by decide +kernel
theorem dX10_next_21 : decode cX10_next 21 = .ok (.iaload, 1) := by decide +kernel
theorem dX10_next_22 : decode cX10_next 22 = .ok (.istore_n 1, 1) := by decide +kernel
theorem dX10_next_23 : decode cX10_next 23 = .ok (.aload_n 0, 1) := by decide +kernel
theorem dX10_next_24 : decode cX10_next 24 = .ok (.dup, 1) := by decide +kernel
theorem dX10_next_25 : decode cX10_next 25 = .ok (.getfield 15, 3) := by decide +kernel
theorem dX10_next_28 : decode cX10_next 28 = .ok (.iconst 1, 1) := by decide +kernel
theorem dX10_next_29 : decode cX10_next 29 = .ok (.iadd, 1) := by decide +kernel
theorem dX10_next_30 : decode cX10_next 30 = .ok (.putfield 15, 3) := by decide +kernel
theorem dX10_next_33 : decode cX10_next 33 = .ok (.iload_n 1, 1) := by decide +kernel
theorem dX10_next_34 : decode cX10_next 34 = .ok (.ireturn, 1) := by decide +kernel
theorem dX7_burn_0 : decode cX7_burn 0 = .ok (.aload_n 0, 1) := by decide +kernel
theorem dX7_burn_1 : decode cX7_burn 1 = .ok (.getfield 30, 3) := by decide +kernel
theorem dX7_burn_4 : decode cX7_burn 4 = .ok (.invokevirtual 65, 3) := by decide +kernel
theorem dX7_burn_7 : decode cX7_burn 7 = .ok (.aload_n 0, 1) := by decide +kernel
theorem dX7_burn_8 : decode cX7_burn 8 = .ok (.iload_n 1, 1) := by decide +kernel
theorem dX7_burn_9 : decode cX7_burn 9 = .ok (.invokevirtual 68, 3) := by decide +kernel
theorem dX7_burn_12 : decode cX7_burn 12 = .ok (.iconst 0, 1) := by decide +kernel
theorem dX7_burn_13 : decode cX7_burn 13 = .ok (.istore_n 2, 1) := by decide +kernel
theorem dX7_burn_14 : decode cX7_burn 14 = .ok (.iload_n 2, 1) := by decide +kernel
theorem dX7_burn_15 : decode cX7_burn 15 = .ok (.bipush 36, 2) := by decide +kernel
theorem dX7_burn_17 : decode cX7_burn 17 = .ok (.if_icmp .ge 50, 3) := by decide +kernel
theorem dX7_burn_20 : decode cX7_burn 20 = .ok (.aload_n 0, 1) := by decide +kernel
theorem dX7_burn_21 : decode cX7_burn 21 = .ok (.getfield 30, 3) := by decide +kernel
theorem dX7_burn_24 : decode cX7_burn 24 = .ok (.invokevirtual 72, 3) := by decide +kernel
theorem dX7_burn_27 : decode cX7_burn 27 = .ok (.istore_n 3, 1) := by decide +kernel
theorem dX7_burn_28 : decode cX7_burn 28 = .ok (.iload_n 3, 1) := by decide +kernel
theorem dX7_burn_29 : decode cX7_burn 29 = .ok (.iconst (-1), 1) := by decide +kernel
theorem dX7_burn_30 : decode cX7_burn 30 = .ok (.if_icmp .ne 6, 3) := by decide +kernel
theorem dX7_burn_33 : decode cX7_burn 33 = .ok (.goto 34, 3) := by decide +kernel
theorem dX7_burn_36 : decode cX7_burn 36 = .ok (.iconst 0, 1) := by decide +kernel
theorem dX7_burn_37 : decode cX7_burn 37 = .ok (.istore 4, 2) := by decide +kernel
theorem dX7_burn_39 : decode cX7_burn 39 = .ok (.iload 4, 2) := by decide +kernel
theorem dX7_burn_41 : decode cX7_burn 41 = .ok (.iconst 4, 1) := by decide +kernel
theorem dX7_burn_42 : decode cX7_burn 42 = .ok (.if_icmp .ge 19, 3) := by decide +kernel
theorem dX7_burn_45 : decode cX7_burn 45 = .ok (.aload_n 0, 1) := by decide +kernel
theorem dX7_burn_46 : decode cX7_burn 46 = .ok (.iload_n 3, 1) := by decide +kernel
theorem dX7_burn_47 : decode cX7_burn 47 = .ok (.iload 4, 2) := by decide +kernel
theorem dX7_burn_49 : decode cX7_burn 49 = .ok (.invokestatic 38, 3) := by decide +kernel
theorem dX7_burn_52 : decode cX7_burn 52 = .ok (.invokevirtual 68, 3) := by decide +kernel
theorem dX7_burn_55 : decode cX7_burn 55 = .ok (.iinc 4 1, 3) := by decide +kernel
theorem dX7_burn_58 : decode cX7_burn 58 = .ok (.goto (-19), 3) := by decide +kernel
theorem dX7_burn_61 : decode cX7_burn 61 = .ok (.iinc 2 1, 3) := by decide +kernel
theorem dX7_burn_64 : decode cX7_burn 64 = .ok (.goto (-50), 3) := by decide +kernel
theorem dX7_burn_67 : decode cX7_burn 67 = .ok (.aload_n 0, 1) := by decide +kernel
theorem dX7_burn_68 : decode cX7_burn 68 = .ok (.getfield 30, 3) := by decide +kernel
theorem dX7_burn_71 : decode cX7_burn 71 = .ok (.getfield 76, 3) := by decide +kernel
theorem dX7_burn_74 : decode cX7_burn 74 = .ok (.ireturn, 1) := by decide +kernel
theorem dX11_lightning_0 : decode cX11_lightning 0 = .ok (.iload_n 1, 1) := by decide +kernel
theorem dX11_lightning_1 : decode cX11_lightning 1 = .ok (.invokestatic 105, 3) := by decide +kernel
theorem dX11_lightning_4 : decode cX11_lightning 4 = .ok (.aload_n 0, 1) := by decide +kernel
theorem dX11_lightning_5 : decode cX11_lightning 5 = .ok (.getfield 22, 3) := by decide +kernel
theorem dX11_lightning_8 : decode cX11_lightning 8 = .ok (.iload_n 1, 1) := by decide +kernel
theorem dX11_lightning_9 : decode cX11_lightning 9 = .ok (.invokevirtual 251, 3) := by decide +kernel
theorem dX11_lightning_12 : decode cX11_lightning 12 = .ok (.ireturn, 1) := by decide +kernel
theorem dX11_needFibre_0 : decode cX11_needFibre 0 = .ok (.iload_n 0, 1) := by decide +kernel
theorem dX11_needFibre_1 : decode cX11_needFibre 1 = .ok (.ifCond .lt 9, 3) := by decide +kernel
theorem dX11_needFibre_4 : decode cX11_needFibre 4 = .ok (.iload_n 0, 1) := by decide +kernel
theorem dX11_needFibre_5 : decode cX11_needFibre 5 = .ok (.bipush 12, 2) := by decide +kernel
theorem dX11_needFibre_7 : decode cX11_needFibre 7 = .ok (.if_icmp .lt 14, 3) := by decide +kernel
theorem dX11_needFibre_10 : decode cX11_needFibre 10 = .ok (.new 346, 3) := by decide +kernel
theorem dX11_needFibre_13 : decode cX11_needFibre 13 = .ok (.dup, 1) := by decide +kernel
theorem dX11_needFibre_14 : decode cX11_needFibre 14 = .ok (.ldc_w 353, 3) := by decide +kernel
theorem dX11_needFibre_17 : decode cX11_needFibre 17 = .ok (.invokespecial 350, 3) := by decide +kernel
theorem dX11_needFibre_20 : decode cX11_needFibre 20 = .ok (.athrow, 1) := by decide +kernel
theorem dX11_needFibre_21 : decode cX11_needFibre 21 = .ok (.return_, 1) := by decide +kernel
theorem dX11_fibre_0 : decode cX11_fibre 0 = .ok (.iload_n 1, 1) := by decide +kernel
theorem dX11_fibre_1 : decode cX11_fibre 1 = .ok (.invokestatic 254, 3) := by decide +kernel
theorem dX11_fibre_4 : decode cX11_fibre 4 = .ok (.iload_n 2, 1) := by decide +kernel
theorem dX11_fibre_5 : decode cX11_fibre 5 = .ok (.iconst 1, 1) := by decide +kernel
theorem dX11_fibre_6 : decode cX11_fibre 6 = .ok (.sipush 1000, 3) := by decide +kernel
theorem dX11_fibre_9 : decode cX11_fibre 9 = .ok (.invokestatic 90, 3) := by decide +kernel
theorem dX11_fibre_12 : decode cX11_fibre 12 = .ok (.aload_n 0, 1) := by decide +kernel
theorem dX11_fibre_13 : decode cX11_fibre 13 = .ok (.getfield 71, 3) := by decide +kernel
theorem dX11_fibre_16 : decode cX11_fibre 16 = .ok (.getfield 257, 3) := by decide +kernel
theorem dX11_fibre_19 : decode cX11_fibre 19 = .ok (.iload_n 1, 1) := by decide +kernel
theorem dX11_fibre_20 : decode cX11_fibre 20 = .ok (.iaload, 1) := by decide +kernel
theorem dX11_fibre_21 : decode cX11_fibre 21 = .ok (.istore_n 3, 1) := by decide +kernel
theorem dX11_fibre_22 : decode cX11_fibre 22 = .ok (.aload_n 0, 1) := by decide +kernel
theorem dX11_fibre_23 : decode cX11_fibre 23 = .ok (.getfield 71, 3) := by decide +kernel
theorem dX11_fibre_26 : decode cX11_fibre 26 = .ok (.getfield 257, 3) := by decide +kernel
theorem dX11_fibre_29 : decode cX11_fibre 29 = .ok (.iload_n 1, 1) := by decide +kernel
theorem dX11_fibre_30 : decode cX11_fibre 30 = .ok (.iload_n 2, 1) := by decide +kernel
theorem dX11_fibre_31 : decode cX11_fibre 31 = .ok (.iastore, 1) := by decide +kernel
theorem dX11_fibre_32 : decode cX11_fibre 32 = .ok (.iload_n 3, 1) := by decide +kernel
theorem dX11_fibre_33 : decode cX11_fibre 33 = .ok (.ireturn, 1) := by decide +kernel
theorem dX1_mend_0 : decode cX1_mend 0 = .ok (.iconst 0, 1) := by decide +kernel
theorem dX1_mend_1 : decode cX1_mend 1 = .ok (.istore_n 1, 1) := by decide +kernel
theorem dX1_mend_2 : decode cX1_mend 2 = .ok (.iload_n 1, 1) := by decide +kernel
theorem dX1_mend_3 : decode cX1_mend 3 = .ok (.bipush 12, 2) := by decide +kernel
theorem dX1_mend_5 : decode cX1_mend 5 = .ok (.if_icmp .ge 16, 3) := by decide +kernel
theorem dX1_mend_8 : decode cX1_mend 8 = .ok (.aload_n 0, 1) := by decide +kernel
theorem dX1_mend_9 : decode cX1_mend 9 = .ok (.getfield 15, 3) := by decide +kernel
theorem dX1_mend_12 : decode cX1_mend 12 = .ok (.iload_n 1, 1) := by decide +kernel
theorem dX1_mend_13 : decode cX1_mend 13 = .ok (.iconst 1, 1) := by decide +kernel
theorem dX1_mend_14 : decode cX1_mend 14 = .ok (.bastore, 1) := by decide +kernel
theorem dX1_mend_15 : decode cX1_mend 15 = .ok (.iinc 1 1, 3) := by decide +kernel
theorem dX1_mend_18 : decode cX1_mend 18 = .ok (.goto (-16), 3) := by decide +kernel
theorem dX1_mend_21 : decode cX1_mend 21 = .ok (.aload_n 0, 1) := by decide +kernel
theorem dX1_mend_22 : decode cX1_mend 22 = .ok (.bipush 12, 2) := by decide +kernel
theorem dX1_mend_24 : decode cX1_mend 24 = .ok (.putfield 34, 3) := by decide +kernel
theorem dX1_mend_27 : decode cX1_mend 27 = .ok (.return_, 1) := by decide +kernel
theorem dX1_breakOnce_0 : decode cX1_breakOnce 0 = .ok (.iconst 0, 1) := by decide +kernel
theorem dX1_breakOnce_1 : decode cX1_breakOnce 1 = .ok (.istore_n 1, 1) := by decide +kernel
theorem dX1_breakOnce_2 : decode cX1_breakOnce 2 = .ok (.iload_n 1, 1) := by decide +kernel
theorem dX1_breakOnce_3 : decode cX1_breakOnce 3 = .ok (.bipush 12, 2) := by decide +kernel
theorem dX1_breakOnce_5 : decode cX1_breakOnce 5 = .ok (.if_icmp .ge 73, 3) := by decide +kernel
theorem dX1_breakOnce_8 : decode cX1_breakOnce 8 = .ok (.aload_n 0, 1) := by decide +kernel
theorem dX1_breakOnce_9 : decode cX1_breakOnce 9 = .ok (.getfield 19, 3) := by decide +kernel
theorem dX1_breakOnce_12 : decode cX1_breakOnce 12 = .ok (.iload_n 1, 1) := by decide +kernel
theorem dX1_breakOnce_13 : decode cX1_breakOnce 13 = .ok (.aload_n 0, 1) := by decide +kernel
theorem dX1_breakOnce_14 : decode cX1_breakOnce 14 = .ok (.getfield 15, 3) := by decide +kernel
theorem dX1_breakOnce_17 : decode cX1_breakOnce 17 = .ok (.iload_n 1, 1) := by decide +kernel
theorem dX1_breakOnce_18 : decode cX1_breakOnce 18 = .ok (.baload, 1) := by decide +kernel
theorem dX1_breakOnce_19 : decode cX1_breakOnce 19 = .ok (.ifCond .eq 22, 3) := by decide +kernel
theorem dX1_breakOnce_22 : decode cX1_breakOnce 22 = .ok (.aload_n 0, 1) := by decide +kernel
theorem dX1_breakOnce_23 : decode cX1_breakOnce 23 = .ok (.getfield 22, 3) := by decide +kernel
theorem dX1_breakOnce_26 : decode cX1_breakOnce 26 = .ok (.iload_n 1, 1) := by decide +kernel
theorem dX1_breakOnce_27 : decode cX1_breakOnce 27 = .ok (.iaload, 1) := by decide +kernel
theorem dX1_breakOnce_28 : decode cX1_breakOnce 28 = .ok (.aload_n 0, 1) := by decide +kernel
theorem dX1_breakOnce_29 : decode cX1_breakOnce 29 = .ok (.getfield 9, 3) := by decide +kernel
theorem dX1_breakOnce_32 : decode cX1_breakOnce 32 = .ok (.iload_n 1, 1) := by decide +kernel
theorem dX1_breakOnce_33 : decode cX1_breakOnce 33 = .ok (.iaload, 1) := by decide +kernel
theorem dX1_breakOnce_34 : decode cX1_breakOnce 34 = .ok (.if_icmp .le 7, 3) := by decide +kernel
theorem dX1_breakOnce_37 : decode cX1_breakOnce 37 = .ok (.iconst 1, 1) := by decide +kernel
theorem dX1_breakOnce_38 : decode cX1_breakOnce 38 = .ok (.goto 4, 3) := by decide +kernel
theorem dX1_breakOnce_41 : decode cX1_breakOnce 41 = .ok (.iconst 0, 1) := by decide +kernel
theorem dX1_breakOnce_42 : decode cX1_breakOnce 42 = .ok (.bastore, 1) := by decide +kernel
theorem dX1_breakOnce_43 : decode cX1_breakOnce 43 = .ok (.aload_n 0, 1) := by decide +kernel
theorem dX1_breakOnce_44 : decode cX1_breakOnce 44 = .ok (.getfield 15, 3) := by decide +kernel
theorem dX1_breakOnce_47 : decode cX1_breakOnce 47 = .ok (.iload_n 1, 1) := by decide +kernel
theorem dX1_breakOnce_48 : decode cX1_breakOnce 48 = .ok (.aload_n 0, 1) := by decide +kernel
theorem dX1_breakOnce_49 : decode cX1_breakOnce 49 = .ok (.getfield 15, 3) := by decide +kernel
theorem dX1_breakOnce_52 : decode cX1_breakOnce 52 = .ok (.iload_n 1, 1) := by decide +kernel
theorem dX1_breakOnce_53 : decode cX1_breakOnce 53 = .ok (.baload, 1) := by decide +kernel
theorem dX1_breakOnce_54 : decode cX1_breakOnce 54 = .ok (.ifCond .eq 16, 3) := by decide +kernel
theorem dX1_breakOnce_57 : decode cX1_breakOnce 57 = .ok (.aload_n 0, 1) := by decide +kernel
theorem dX1_breakOnce_58 : decode cX1_breakOnce 58 = .ok (.getfield 19, 3) := by decide +kernel
theorem dX1_breakOnce_61 : decode cX1_breakOnce 61 = .ok (.iload_n 1, 1) := by decide +kernel
theorem dX1_breakOnce_62 : decode cX1_breakOnce 62 = .ok (.baload, 1) := by decide +kernel
theorem dX1_breakOnce_63 : decode cX1_breakOnce 63 = .ok (.ifCond .ne 7, 3) := by decide +kernel
theorem dX1_breakOnce_66 : decode cX1_breakOnce 66 = .ok (.iconst 1, 1) := by decide +kernel
theorem dX1_breakOnce_67 : decode cX1_breakOnce 67 = .ok (.goto 4, 3) := by decide +kernel
theorem dX1_breakOnce_70 : decode cX1_breakOnce 70 = .ok (.iconst 0, 1) := by decide +kernel
theorem dX1_breakOnce_71 : decode cX1_breakOnce 71 = .ok (.bastore, 1) := by decide +kernel
theorem dX1_breakOnce_72 : decode cX1_breakOnce 72 = .ok (.iinc 1 1, 3) := by decide +kernel
theorem dX1_breakOnce_75 : decode cX1_breakOnce 75 = .ok (.goto (-73), 3) := by decide +kernel
theorem dX1_breakOnce_78 : decode cX1_breakOnce 78 = .ok (.aload_n 0, 1) := by decide +kernel
theorem dX1_breakOnce_79 : decode cX1_breakOnce 79 = .ok (.getfield 19, 3) := by decide +kernel
theorem dX1_breakOnce_82 : decode cX1_breakOnce 82 = .ok (.invokestatic 58, 3) := by decide +kernel
theorem dX1_breakOnce_85 : decode cX1_breakOnce 85 = .ok (.istore_n 1, 1) := by decide +kernel
theorem dX1_breakOnce_86 : decode cX1_breakOnce 86 = .ok (.aload_n 0, 1) := by decide +kernel
theorem dX1_breakOnce_87 : decode cX1_breakOnce 87 = .ok (.dup, 1) := by decide +kernel
theorem dX1_breakOnce_88 : decode cX1_breakOnce 88 = .ok (.getfield 34, 3) := by decide +kernel
theorem dX1_breakOnce_91 : decode cX1_breakOnce 91 = .ok (.iload_n 1, 1) := by decide +kernel
theorem dX1_breakOnce_92 : decode cX1_breakOnce 92 = .ok (.isub, 1) := by decide +kernel
theorem dX1_breakOnce_93 : decode cX1_breakOnce 93 = .ok (.putfield 34, 3) := by decide +kernel
theorem dX1_breakOnce_96 : decode cX1_breakOnce 96 = .ok (.iload_n 1, 1) := by decide +kernel
theorem dX1_breakOnce_97 : decode cX1_breakOnce 97 = .ok (.ireturn, 1) := by decide +kernel
theorem dX1_nextWhole_0 : decode cX1_nextWhole 0 = .ok (.iload_n 1, 1) := by decide +kernel
theorem dX1_nextWhole_1 : decode cX1_nextWhole 1 = .ok (.istore_n 3, 1) := by decide +kernel
theorem dX1_nextWhole_2 : decode cX1_nextWhole 2 = .ok (.iconst 1, 1) := by decide +kernel
theorem dX1_nextWhole_3 : decode cX1_nextWhole 3 = .ok (.istore 4, 2) := by decide +kernel
theorem dX1_nextWhole_5 : decode cX1_nextWhole 5 = .ok (.iload 4, 2) := by decide +kernel
theorem dX1_nextWhole_7 : decode cX1_nextWhole 7 = .ok (.bipush 12, 2) := by decide +kernel
theorem dX1_nextWhole_9 : decode cX1_nextWhole 9 = .ok (.if_icmp .ge 27, 3) := by decide +kernel
theorem dX1_nextWhole_12 : decode cX1_nextWhole 12 = .ok (.iload_n 3, 1) := by decide +kernel
theorem dX1_nextWhole_13 : decode cX1_nextWhole 13 = .ok (.iload_n 2, 1) := by decide +kernel
theorem dX1_nextWhole_14 : decode cX1_nextWhole 14 = .ok (.iadd, 1) := by decide +kernel
theorem dX1_nextWhole_15 : decode cX1_nextWhole 15 = .ok (.bipush 12, 2) := by decide +kernel
theorem dX1_nextWhole_17 : decode cX1_nextWhole 17 = .ok (.irem, 1) := by decide +kernel
theorem dX1_nextWhole_18 : decode cX1_nextWhole 18 = .ok (.istore_n 3, 1) := by decide +kernel
theorem dX1_nextWhole_19 : decode cX1_nextWhole 19 = .ok (.aload_n 0, 1) := by decide +kernel
theorem dX1_nextWhole_20 : decode cX1_nextWhole 20 = .ok (.getfield 15, 3) := by decide +kernel
theorem dX1_nextWhole_23 : decode cX1_nextWhole 23 = .ok (.iload_n 3, 1) := by decide +kernel
theorem dX1_nextWhole_24 : decode cX1_nextWhole 24 = .ok (.baload, 1) := by decide +kernel
theorem dX1_nextWhole_25 : decode cX1_nextWhole 25 = .ok (.ifCond .eq 5, 3) := by decide +kernel
theorem dX1_nextWhole_28 : decode cX1_nextWhole 28 = .ok (.iload_n 3, 1) := by decide +kernel
theorem dX1_nextWhole_29 : decode cX1_nextWhole 29 = .ok (.ireturn, 1) := by decide +kernel
theorem dX1_nextWhole_30 : decode cX1_nextWhole 30 = .ok (.iinc 4 1, 3) := by decide +kernel
theorem dX1_nextWhole_33 : decode cX1_nextWhole 33 = .ok (.goto (-28), 3) := by decide +kernel
theorem dX1_nextWhole_36 : decode cX1_nextWhole 36 = .ok (.iconst (-1), 1) := by decide +kernel
theorem dX1_nextWhole_37 : decode cX1_nextWhole 37 = .ok (.ireturn, 1) := by decide +kernel
theorem dX1_passOn_0 : decode cX1_passOn 0 = .ok (.iconst 0, 1) := by decide +kernel
theorem dX1_passOn_1 : decode cX1_passOn 1 = .ok (.istore_n 1, 1) := by decide +kernel
theorem dX1_passOn_2 : decode cX1_passOn 2 = .ok (.iload_n 1, 1) := by decide +kernel
theorem dX1_passOn_3 : decode cX1_passOn 3 = .ok (.bipush 12, 2) := by decide +kernel
theorem dX1_passOn_5 : decode cX1_passOn 5 = .ok (.if_icmp .ge 82, 3) := by decide +kernel
theorem dX1_passOn_8 : decode cX1_passOn 8 = .ok (.aload_n 0, 1) := by decide +kernel
theorem dX1_passOn_9 : decode cX1_passOn 9 = .ok (.iload_n 1, 1) := by decide +kernel
theorem dX1_passOn_10 : decode cX1_passOn 10 = .ok (.bipush 11, 2) := by decide +kernel
theorem dX1_passOn_12 : decode cX1_passOn 12 = .ok (.invokevirtual 62, 3) := by decide +kernel
theorem dX1_passOn_15 : decode cX1_passOn 15 = .ok (.istore_n 2, 1) := by decide +kernel
theorem dX1_passOn_16 : decode cX1_passOn 16 = .ok (.aload_n 0, 1) := by decide +kernel
theorem dX1_passOn_17 : decode cX1_passOn 17 = .ok (.iload_n 1, 1) := by decide +kernel
theorem dX1_passOn_18 : decode cX1_passOn 18 = .ok (.iconst 1, 1) := by decide +kernel
theorem dX1_passOn_19 : decode cX1_passOn 19 = .ok (.invokevirtual 62, 3) := by decide +kernel
theorem dX1_passOn_22 : decode cX1_passOn 22 = .ok (.istore_n 3, 1) := by decide +kernel
theorem dX1_passOn_23 : decode cX1_passOn 23 = .ok (.aload_n 0, 1) := by decide +kernel
theorem dX1_passOn_24 : decode cX1_passOn 24 = .ok (.getfield 19, 3) := by decide +kernel
theorem dX1_passOn_27 : decode cX1_passOn 27 = .ok (.iload_n 1, 1) := by decide +kernel
theorem dX1_passOn_28 : decode cX1_passOn 28 = .ok (.baload, 1) := by decide +kernel
theorem dX1_passOn_29 : decode cX1_passOn 29 = .ok (.ifCond .eq 52, 3) := by decide +kernel
theorem dX1_passOn_32 : decode cX1_passOn 32 = .ok (.iload_n 2, 1) := by decide +kernel
theorem dX1_passOn_33 : decode cX1_passOn 33 = .ok (.iconst (-1), 1) := by decide +kernel
theorem dX1_passOn_34 : decode cX1_passOn 34 = .ok (.if_icmp .eq 47, 3) := by decide +kernel
theorem dX1_passOn_37 : decode cX1_passOn 37 = .ok (.iload_n 3, 1) := by decide +kernel
theorem dX1_passOn_38 : decode cX1_passOn 38 = .ok (.iconst (-1), 1) := by decide +kernel
theorem dX1_passOn_39 : decode cX1_passOn 39 = .ok (.if_icmp .eq 42, 3) := by decide +kernel
theorem dX1_passOn_42 : decode cX1_passOn 42 = .ok (.aload_n 0, 1) := by decide +kernel
theorem dX1_passOn_43 : decode cX1_passOn 43 = .ok (.getfield 22, 3) := by decide +kernel
theorem dX1_passOn_46 : decode cX1_passOn 46 = .ok (.iload_n 1, 1) := by decide +kernel
theorem dX1_passOn_47 : decode cX1_passOn 47 = .ok (.iaload, 1) := by decide +kernel
theorem dX1_passOn_48 : decode cX1_passOn 48 = .ok (.iconst 2, 1) := by decide +kernel
theorem dX1_passOn_49 : decode cX1_passOn 49 = .ok (.idiv, 1) := by decide +kernel
theorem dX1_passOn_50 : decode cX1_passOn 50 = .ok (.istore 4, 2) := by decide +kernel
theorem dX1_passOn_52 : decode cX1_passOn 52 = .ok (.aload_n 0, 1) := by decide +kernel
theorem dX1_passOn_53 : decode cX1_passOn 53 = .ok (.getfield 22, 3) := by decide +kernel
theorem dX1_passOn_56 : decode cX1_passOn 56 = .ok (.iload_n 2, 1) := by decide +kernel
theorem dX1_passOn_57 : decode cX1_passOn 57 = .ok (.dup2, 1) := by decide +kernel
theorem dX1_passOn_58 : decode cX1_passOn 58 = .ok (.iaload, 1) := by decide +kernel
theorem dX1_passOn_59 : decode cX1_passOn 59 = .ok (.iload 4, 2) := by decide +kernel
theorem dX1_passOn_61 : decode cX1_passOn 61 = .ok (.iadd, 1) := by decide +kernel
theorem dX1_passOn_62 : decode cX1_passOn 62 = .ok (.iastore, 1) := by decide +kernel
theorem dX1_passOn_63 : decode cX1_passOn 63 = .ok (.aload_n 0, 1) := by decide +kernel
theorem dX1_passOn_64 : decode cX1_passOn 64 = .ok (.getfield 22, 3) := by decide +kernel
theorem dX1_passOn_67 : decode cX1_passOn 67 = .ok (.iload_n 3, 1) := by decide +kernel
theorem dX1_passOn_68 : decode cX1_passOn 68 = .ok (.dup2, 1) := by decide +kernel
theorem dX1_passOn_69 : decode cX1_passOn 69 = .ok (.iaload, 1) := by decide +kernel
theorem dX1_passOn_70 : decode cX1_passOn 70 = .ok (.aload_n 0, 1) := by decide +kernel
theorem dX1_passOn_71 : decode cX1_passOn 71 = .ok (.getfield 22, 3) := by decide +kernel
theorem dX1_passOn_74 : decode cX1_passOn 74 = .ok (.iload_n 1, 1) := by decide +kernel
theorem dX1_passOn_75 : decode cX1_passOn 75 = .ok (.iaload, 1) := by decide +kernel
theorem dX1_passOn_76 : decode cX1_passOn 76 = .ok (.iload 4, 2) := by decide +kernel
theorem dX1_passOn_78 : decode cX1_passOn 78 = .ok (.isub, 1) := by decide +kernel
theorem dX1_passOn_79 : decode cX1_passOn 79 = .ok (.iadd, 1) := by decide +kernel
theorem dX1_passOn_80 : decode cX1_passOn 80 = .ok (.iastore, 1) := by decide +kernel
theorem dX1_passOn_81 : decode cX1_passOn 81 = .ok (.iinc 1 1, 3) := by decide +kernel
theorem dX1_passOn_84 : decode cX1_passOn 84 = .ok (.goto (-82), 3) := by decide +kernel
theorem dX1_passOn_87 : decode cX1_passOn 87 = .ok (.return_, 1) := by decide +kernel
theorem dX1_breakByNeighbours_0 : decode cX1_breakByNeighbours 0 = .ok (.aload_n 0, 1) := by decide +kernel
theorem dX1_breakByNeighbours_1 : decode cX1_breakByNeighbours 1 = .ok (.invokevirtual 31, 3) := by decide +kernel
theorem dX1_breakByNeighbours_4 : decode cX1_breakByNeighbours 4 = .ok (.aload_n 0, 1) := by decide +kernel
theorem dX1_breakByNeighbours_5 : decode cX1_breakByNeighbours 5 = .ok (.getfield 22, 3) := by decide +kernel
theorem dX1_breakByNeighbours_8 : decode cX1_breakByNeighbours 8 = .ok (.iload_n 1, 1) := by decide +kernel
theorem dX1_breakByNeighbours_9 : decode cX1_breakByNeighbours 9 = .ok (.bipush 12, 2) := by decide +kernel
theorem dX1_breakByNeighbours_11 : decode cX1_breakByNeighbours 11 = .ok (.idiv, 1) := by decide +kernel
theorem dX1_breakByNeighbours_12 : decode cX1_breakByNeighbours 12 = .ok (.invokestatic 25, 3) := by decide +kernel
theorem dX1_breakByNeighbours_15 : decode cX1_breakByNeighbours 15 = .ok (.iconst 0, 1) := by decide +kernel
theorem dX1_breakByNeighbours_16 : decode cX1_breakByNeighbours 16 = .ok (.istore_n 2, 1) := by decide +kernel
theorem dX1_breakByNeighbours_17 : decode cX1_breakByNeighbours 17 = .ok (.iload_n 2, 1) := by decide +kernel
theorem dX1_breakByNeighbours_18 : decode cX1_breakByNeighbours 18 = .ok (.bipush 12, 2) := by decide +kernel
theorem dX1_breakByNeighbours_20 : decode cX1_breakByNeighbours 20 = .ok (.if_icmp .ge 30, 3) := by decide +kernel
theorem dX1_breakByNeighbours_23 : decode cX1_breakByNeighbours 23 = .ok (.aload_n 0, 1) := by decide +kernel
theorem dX1_breakByNeighbours_24 : decode cX1_breakByNeighbours 24 = .ok (.getfield 34, 3) := by decide +kernel
theorem dX1_breakByNeighbours_27 : decode cX1_breakByNeighbours 27 = .ok (.ifCond .le 23, 3) := by decide +kernel
theorem dX1_breakByNeighbours_30 : decode cX1_breakByNeighbours 30 = .ok (.aload_n 0, 1) := by decide +kernel
theorem dX1_breakByNeighbours_31 : decode cX1_breakByNeighbours 31 = .ok (.invokevirtual 38, 3) := by decide +kernel
theorem dX1_breakByNeighbours_34 : decode cX1_breakByNeighbours 34 = .ok (.ifCond .ne 6, 3) := by decide +kernel
theorem dX1_breakByNeighbours_37 : decode cX1_breakByNeighbours 37 = .ok (.goto 13, 3) := by decide +kernel
theorem dX1_breakByNeighbours_40 : decode cX1_breakByNeighbours 40 = .ok (.aload_n 0, 1) := by decide +kernel
theorem dX1_breakByNeighbours_41 : decode cX1_breakByNeighbours 41 = .ok (.invokevirtual 42, 3) := by decide +kernel
theorem dX1_breakByNeighbours_44 : decode cX1_breakByNeighbours 44 = .ok (.iinc 2 1, 3) := by decide +kernel
theorem dX1_breakByNeighbours_47 : decode cX1_breakByNeighbours 47 = .ok (.goto (-30), 3) := by decide +kernel
theorem dX1_breakByNeighbours_50 : decode cX1_breakByNeighbours 50 = .ok (.bipush 12, 2) := by decide +kernel
theorem dX1_breakByNeighbours_52 : decode cX1_breakByNeighbours 52 = .ok (.aload_n 0, 1) := by decide +kernel
theorem dX1_breakByNeighbours_53 : decode cX1_breakByNeighbours 53 = .ok (.getfield 34, 3) := by decide +kernel
theorem dX1_breakByNeighbours_56 : decode cX1_breakByNeighbours 56 = .ok (.isub, 1) := by decide +kernel
theorem dX1_breakByNeighbours_57 : decode cX1_breakByNeighbours 57 = .ok (.ireturn, 1) := by decide +kernel
