theorem dX3_rise_0 : decode cX3_rise 0 = .ok (.aload_n 0, 1) := by decide +kernel
theorem dX3_rise_1 : decode cX3_rise 1 = .ok (.invokevirtual 29, 3) := by decide +kernel
theorem dX3_rise_4 : decode cX3_rise 4 = .ok (.aload_n 2, 1) := by decide +kernel
theorem dX3_rise_5 : decode cX3_rise 5 = .ok (.iload_n 3, 1) := by decide +kernel
theorem dX3_rise_6 : decode cX3_rise 6 = .ok (.baload, 1) := by decide +kernel
theorem dX3_rise_7 : decode cX3_rise 7 = .ok (.ifCond .ne 9, 3) := by decide +kernel
theorem dX3_rise_10 : decode cX3_rise 10 = .ok (.aload_n 0, 1) := by decide +kernel
theorem dX3_rise_11 : decode cX3_rise 11 = .ok (.iload_n 3, 1) := by decide +kernel
theorem dX3_rise_12 : decode cX3_rise 12 = .ok (.iconst 0, 1) := by decide +kernel
theorem dX3_rise_13 : decode cX3_rise 13 = .ok (.invokevirtual 32, 3) := by decide +kernel
theorem dX3_rise_16 : decode cX3_rise 16 = .ok (.iconst 0, 1) := by decide +kernel
theorem dX3_rise_17 : decode cX3_rise 17 = .ok (.istore 4, 2) := by decide +kernel
theorem dX3_rise_19 : decode cX3_rise 19 = .ok (.iload 4, 2) := by decide +kernel
theorem dX3_rise_21 : decode cX3_rise 21 = .ok (.bipush 36, 2) := by decide +kernel
theorem dX3_rise_23 : decode cX3_rise 23 = .ok (.if_icmp .ge 89, 3) := by decide +kernel
theorem dX3_rise_26 : decode cX3_rise 26 = .ok (.aload_n 0, 1) := by decide +kernel
theorem dX3_rise_27 : decode cX3_rise 27 = .ok (.invokevirtual 36, 3) := by decide +kernel
theorem dX3_rise_30 : decode cX3_rise 30 = .ok (.istore 5, 2) := by decide +kernel
theorem dX3_rise_32 : decode cX3_rise 32 = .ok (.iload 5, 2) := by decide +kernel
theorem dX3_rise_34 : decode cX3_rise 34 = .ok (.iconst (-1), 1) := by decide +kernel
theorem dX3_rise_35 : decode cX3_rise 35 = .ok (.if_icmp .ne 6, 3) := by decide +kernel
theorem dX3_rise_38 : decode cX3_rise 38 = .ok (.goto 74, 3) := by decide +kernel
theorem dX3_rise_41 : decode cX3_rise 41 = .ok (.iconst 0, 1) := by decide +kernel
theorem dX3_rise_42 : decode cX3_rise 42 = .ok (.istore 6, 2) := by decide +kernel
theorem dX3_rise_44 : decode cX3_rise 44 = .ok (.iload 6, 2) := by decide +kernel
theorem dX3_rise_46 : decode cX3_rise 46 = .ok (.iconst 4, 1) := by decide +kernel
theorem dX3_rise_47 : decode cX3_rise 47 = .ok (.if_icmp .ge 59, 3) := by decide +kernel
theorem dX3_rise_50 : decode cX3_rise 50 = .ok (.iload 5, 2) := by decide +kernel
theorem dX3_rise_52 : decode cX3_rise 52 = .ok (.iload 6, 2) := by decide +kernel
theorem dX3_rise_54 : decode cX3_rise 54 = .ok (.invokestatic 40, 3) := by decide +kernel
theorem dX3_rise_57 : decode cX3_rise 57 = .ok (.istore 7, 2) := by decide +kernel
theorem dX3_rise_59 : decode cX3_rise 59 = .ok (.iload 7, 2) := by decide +kernel
theorem dX3_rise_61 : decode cX3_rise 61 = .ok (.iconst (-1), 1) := by decide +kernel
theorem dX3_rise_62 : decode cX3_rise 62 = .ok (.if_icmp .eq 38, 3) := by decide +kernel
theorem dX3_rise_65 : decode cX3_rise 65 = .ok (.aload_n 2, 1) := by decide +kernel
theorem dX3_rise_66 : decode cX3_rise 66 = .ok (.iload 7, 2) := by decide +kernel
theorem dX3_rise_68 : decode cX3_rise 68 = .ok (.baload, 1) := by decide +kernel
theorem dX3_rise_69 : decode cX3_rise 69 = .ok (.ifCond .ne 31, 3) := by decide +kernel
theorem dX3_rise_72 : decode cX3_rise 72 = .ok (.aload_n 0, 1) := by decide +kernel
theorem dX3_rise_73 : decode cX3_rise 73 = .ok (.iload 7, 2) := by decide +kernel
theorem dX3_rise_75 : decode cX3_rise 75 = .ok (.aload_n 0, 1) := by decide +kernel
theorem dX3_rise_76 : decode cX3_rise 76 = .ok (.getfield 9, 3) := by decide +kernel
theorem dX3_rise_79 : decode cX3_rise 79 = .ok (.iload 5, 2) := by decide +kernel
theorem dX3_rise_81 : decode cX3_rise 81 = .ok (.iaload, 1) := by decide +kernel
theorem dX3_rise_82 : decode cX3_rise 82 = .ok (.aload_n 1, 1) := by decide +kernel
theorem dX3_rise_83 : decode cX3_rise 83 = .ok (.getfield 44, 3) := by decide +kernel
theorem dX3_rise_86 : decode cX3_rise 86 = .ok (.iload 5, 2) := by decide +kernel
theorem dX3_rise_88 : decode cX3_rise 88 = .ok (.iload 7, 2) := by decide +kernel
theorem dX3_rise_90 : decode cX3_rise 90 = .ok (.invokestatic 49, 3) := by decide +kernel
theorem dX3_rise_93 : decode cX3_rise 93 = .ok (.iaload, 1) := by decide +kernel
theorem dX3_rise_94 : decode cX3_rise 94 = .ok (.iadd, 1) := by decide +kernel
theorem dX3_rise_95 : decode cX3_rise 95 = .ok (.iconst 1, 1) := by decide +kernel
theorem dX3_rise_96 : decode cX3_rise 96 = .ok (.iadd, 1) := by decide +kernel
theorem dX3_rise_97 : decode cX3_rise 97 = .ok (.invokevirtual 32, 3) := by decide +kernel
theorem dX3_rise_100 : decode cX3_rise 100 = .ok (.iinc 6 1, 3) := by decide +kernel
theorem dX3_rise_103 : decode cX3_rise 103 = .ok (.goto (-59), 3) := by decide +kernel
theorem dX3_rise_106 : decode cX3_rise 106 = .ok (.iinc 4 1, 3) := by decide +kernel
theorem dX3_rise_109 : decode cX3_rise 109 = .ok (.goto (-90), 3) := by decide +kernel
theorem dX3_rise_112 : decode cX3_rise 112 = .ok (.return_, 1) := by decide +kernel
theorem dX11_time_0 : decode cX11_time 0 = .ok (.iload_n 1, 1) := by decide +kernel
theorem dX11_time_1 : decode cX11_time 1 = .ok (.invokestatic 105, 3) := by decide +kernel
theorem dX11_time_4 : decode cX11_time 4 = .ok (.iload_n 2, 1) := by decide +kernel
theorem dX11_time_5 : decode cX11_time 5 = .ok (.invokestatic 105, 3) := by decide +kernel
theorem dX11_time_8 : decode cX11_time 8 = .ok (.aload_n 0, 1) := by decide +kernel
theorem dX11_time_9 : decode cX11_time 9 = .ok (.getfield 57, 3) := by decide +kernel
theorem dX11_time_12 : decode cX11_time 12 = .ok (.aload_n 0, 1) := by decide +kernel
theorem dX11_time_13 : decode cX11_time 13 = .ok (.getfield 10, 3) := by decide +kernel
theorem dX11_time_16 : decode cX11_time 16 = .ok (.aload_n 0, 1) := by decide +kernel
theorem dX11_time_17 : decode cX11_time 17 = .ok (.getfield 22, 3) := by decide +kernel
theorem dX11_time_20 : decode cX11_time 20 = .ok (.getfield 118, 3) := by decide +kernel
theorem dX11_time_23 : decode cX11_time 23 = .ok (.iload_n 1, 1) := by decide +kernel
theorem dX11_time_24 : decode cX11_time 24 = .ok (.invokevirtual 190, 3) := by decide +kernel
theorem dX11_time_27 : decode cX11_time 27 = .ok (.aload_n 0, 1) := by decide +kernel
theorem dX11_time_28 : decode cX11_time 28 = .ok (.getfield 57, 3) := by decide +kernel
theorem dX11_time_31 : decode cX11_time 31 = .ok (.getfield 194, 3) := by decide +kernel
theorem dX11_time_34 : decode cX11_time 34 = .ok (.iload_n 2, 1) := by decide +kernel
theorem dX11_time_35 : decode cX11_time 35 = .ok (.iaload, 1) := by decide +kernel
theorem dX11_time_36 : decode cX11_time 36 = .ok (.ireturn, 1) := by decide +kernel
theorem dX11_rival_0 : decode cX11_rival 0 = .ok (.iload_n 1, 1) := by decide +kernel
theorem dX11_rival_1 : decode cX11_rival 1 = .ok (.invokestatic 105, 3) := by decide +kernel
theorem dX11_rival_4 : decode cX11_rival 4 = .ok (.iload_n 2, 1) := by decide +kernel
theorem dX11_rival_5 : decode cX11_rival 5 = .ok (.invokestatic 105, 3) := by decide +kernel
theorem dX11_rival_8 : decode cX11_rival 8 = .ok (.iload_n 3, 1) := by decide +kernel
theorem dX11_rival_9 : decode cX11_rival 9 = .ok (.invokestatic 105, 3) := by decide +kernel
theorem dX11_rival_12 : decode cX11_rival 12 = .ok (.iload_n 1, 1) := by decide +kernel
theorem dX11_rival_13 : decode cX11_rival 13 = .ok (.iload_n 2, 1) := by decide +kernel
theorem dX11_rival_14 : decode cX11_rival 14 = .ok (.if_icmp .ne 13, 3) := by decide +kernel
theorem dX11_rival_17 : decode cX11_rival 17 = .ok (.new 201, 3) := by decide +kernel
theorem dX11_rival_20 : decode cX11_rival 20 = .ok (.dup, 1) := by decide +kernel
theorem dX11_rival_21 : decode cX11_rival 21 = .ok (.ldc 203, 2) := by decide +kernel
theorem dX11_rival_23 : decode cX11_rival 23 = .ok (.invokespecial 205, 3) := by decide +kernel
theorem dX11_rival_26 : decode cX11_rival 26 = .ok (.athrow, 1) := by decide +kernel
theorem dX11_rival_27 : decode cX11_rival 27 = .ok (.aload_n 0, 1) := by decide +kernel
theorem dX11_rival_28 : decode cX11_rival 28 = .ok (.iload_n 1, 1) := by decide +kernel
theorem dX11_rival_29 : decode cX11_rival 29 = .ok (.iload_n 3, 1) := by decide +kernel
theorem dX11_rival_30 : decode cX11_rival 30 = .ok (.invokevirtual 208, 3) := by decide +kernel
theorem dX11_rival_33 : decode cX11_rival 33 = .ok (.istore 4, 2) := by decide +kernel
theorem dX11_rival_35 : decode cX11_rival 35 = .ok (.aload_n 0, 1) := by decide +kernel
theorem dX11_rival_36 : decode cX11_rival 36 = .ok (.iload_n 2, 1) := by decide +kernel
theorem dX11_rival_37 : decode cX11_rival 37 = .ok (.iload_n 3, 1) := by decide +kernel
theorem dX11_rival_38 : decode cX11_rival 38 = .ok (.invokevirtual 208, 3) := by decide +kernel
theorem dX11_rival_41 : decode cX11_rival 41 = .ok (.istore 5, 2) := by decide +kernel
theorem dX11_rival_43 : decode cX11_rival 43 = .ok (.iload 4, 2) := by decide +kernel
theorem dX11_rival_45 : decode cX11_rival 45 = .ok (.iload 5, 2) := by decide +kernel
theorem dX11_rival_47 : decode cX11_rival 47 = .ok (.if_icmp .ne 5, 3) := by decide +kernel
theorem dX11_rival_50 : decode cX11_rival 50 = .ok (.iconst (-1), 1) := by decide +kernel
theorem dX11_rival_51 : decode cX11_rival 51 = .ok (.ireturn, 1) := by decide +kernel
theorem dX11_rival_52 : decode cX11_rival 52 = .ok (.iload 4, 2) := by decide +kernel
theorem dX11_rival_54 : decode cX11_rival 54 = .ok (.iconst (-1), 1) := by decide +kernel
theorem dX11_rival_55 : decode cX11_rival 55 = .ok (.if_icmp .ne 5, 3) := by decide +kernel
theorem dX11_rival_58 : decode cX11_rival 58 = .ok (.iconst 1, 1) := by decide +kernel
theorem dX11_rival_59 : decode cX11_rival 59 = .ok (.ireturn, 1) := by decide +kernel
theorem dX11_rival_60 : decode cX11_rival 60 = .ok (.iload 5, 2) := by decide +kernel
theorem dX11_rival_62 : decode cX11_rival 62 = .ok (.iconst (-1), 1) := by decide +kernel
theorem dX11_rival_63 : decode cX11_rival 63 = .ok (.if_icmp .eq 10, 3) := by decide +kernel
theorem dX11_rival_66 : decode cX11_rival 66 = .ok (.iload 4, 2) := by decide +kernel
theorem dX11_rival_68 : decode cX11_rival 68 = .ok (.iload 5, 2) := by decide +kernel
theorem dX11_rival_70 : decode cX11_rival 70 = .ok (.if_icmp .ge 7, 3) := by decide +kernel
theorem dX11_rival_73 : decode cX11_rival 73 = .ok (.iconst 0, 1) := by decide +kernel
theorem dX11_rival_74 : decode cX11_rival 74 = .ok (.goto 4, 3) := by decide +kernel
theorem dX11_rival_77 : decode cX11_rival 77 = .ok (.iconst 1, 1) := by decide +kernel
theorem dX11_rival_78 : decode cX11_rival 78 = .ok (.ireturn, 1) := by decide +kernel
theorem dX3_countWithin_0 : decode cX3_countWithin 0 = .ok (.iconst 0, 1) := by decide +kernel
theorem dX3_countWithin_1 : decode cX3_countWithin 1 = .ok (.istore_n 2, 1) := by decide +kernel
theorem dX3_countWithin_2 : decode cX3_countWithin 2 = .ok (.iconst 0, 1) := by decide +kernel
theorem dX3_countWithin_3 : decode cX3_countWithin 3 = .ok (.istore_n 3, 1) := by decide +kernel
theorem dX3_countWithin_4 : decode cX3_countWithin 4 = .ok (.iload_n 3, 1) := by decide +kernel
theorem dX3_countWithin_5 : decode cX3_countWithin 5 = .ok (.bipush 36, 2) := by decide +kernel
theorem dX3_countWithin_7 : decode cX3_countWithin 7 = .ok (.if_icmp .ge 32, 3) := by decide +kernel
theorem dX3_countWithin_10 : decode cX3_countWithin 10 = .ok (.aload_n 0, 1) := by decide +kernel
theorem dX3_countWithin_11 : decode cX3_countWithin 11 = .ok (.getfield 9, 3) := by decide +kernel
theorem dX3_countWithin_14 : decode cX3_countWithin 14 = .ok (.iload_n 3, 1) := by decide +kernel
theorem dX3_countWithin_15 : decode cX3_countWithin 15 = .ok (.iaload, 1) := by decide +kernel
theorem dX3_countWithin_16 : decode cX3_countWithin 16 = .ok (.iconst (-1), 1) := by decide +kernel
theorem dX3_countWithin_17 : decode cX3_countWithin 17 = .ok (.if_icmp .eq 16, 3) := by decide +kernel
theorem dX3_countWithin_20 : decode cX3_countWithin 20 = .ok (.aload_n 0, 1) := by decide +kernel
theorem dX3_countWithin_21 : decode cX3_countWithin 21 = .ok (.getfield 9, 3) := by decide +kernel
theorem dX3_countWithin_24 : decode cX3_countWithin 24 = .ok (.iload_n 3, 1) := by decide +kernel
theorem dX3_countWithin_25 : decode cX3_countWithin 25 = .ok (.iaload, 1) := by decide +kernel
theorem dX3_countWithin_26 : decode cX3_countWithin 26 = .ok (.iload_n 1, 1) := by decide +kernel
theorem dX3_countWithin_27 : decode cX3_countWithin 27 = .ok (.if_icmp .gt 6, 3) := by decide +kernel
theorem dX3_countWithin_30 : decode cX3_countWithin 30 = .ok (.iinc 2 1, 3) := by decide +kernel
theorem dX3_countWithin_33 : decode cX3_countWithin 33 = .ok (.iinc 3 1, 3) := by decide +kernel
theorem dX3_countWithin_36 : decode cX3_countWithin 36 = .ok (.goto (-32), 3) := by decide +kernel
theorem dX3_countWithin_39 : decode cX3_countWithin 39 = .ok (.iload_n 2, 1) := by decide +kernel
theorem dX3_countWithin_40 : decode cX3_countWithin 40 = .ok (.ireturn, 1) := by decide +kernel
theorem dX11_ball_0 : decode cX11_ball 0 = .ok (.iload_n 1, 1) := by decide +kernel
theorem dX11_ball_1 : decode cX11_ball 1 = .ok (.invokestatic 105, 3) := by decide +kernel
theorem dX11_ball_4 : decode cX11_ball 4 = .ok (.iload_n 2, 1) := by decide +kernel
theorem dX11_ball_5 : decode cX11_ball 5 = .ok (.iconst 0, 1) := by decide +kernel
theorem dX11_ball_6 : decode cX11_ball 6 = .ok (.ldc 197, 2) := by decide +kernel
theorem dX11_ball_8 : decode cX11_ball 8 = .ok (.invokestatic 90, 3) := by decide +kernel
theorem dX11_ball_11 : decode cX11_ball 11 = .ok (.aload_n 0, 1) := by decide +kernel
theorem dX11_ball_12 : decode cX11_ball 12 = .ok (.getfield 57, 3) := by decide +kernel
theorem dX11_ball_15 : decode cX11_ball 15 = .ok (.aload_n 0, 1) := by decide +kernel
theorem dX11_ball_16 : decode cX11_ball 16 = .ok (.getfield 10, 3) := by decide +kernel
theorem dX11_ball_19 : decode cX11_ball 19 = .ok (.aload_n 0, 1) := by decide +kernel
theorem dX11_ball_20 : decode cX11_ball 20 = .ok (.getfield 22, 3) := by decide +kernel
theorem dX11_ball_23 : decode cX11_ball 23 = .ok (.getfield 118, 3) := by decide +kernel
theorem dX11_ball_26 : decode cX11_ball 26 = .ok (.iload_n 1, 1) := by decide +kernel
theorem dX11_ball_27 : decode cX11_ball 27 = .ok (.invokevirtual 190, 3) := by decide +kernel
theorem dX11_ball_30 : decode cX11_ball 30 = .ok (.aload_n 0, 1) := by decide +kernel
theorem dX11_ball_31 : decode cX11_ball 31 = .ok (.getfield 57, 3) := by decide +kernel
theorem dX11_ball_34 : decode cX11_ball 34 = .ok (.iload_n 2, 1) := by decide +kernel
theorem dX11_ball_35 : decode cX11_ball 35 = .ok (.invokevirtual 198, 3) := by decide +kernel
theorem dX11_ball_38 : decode cX11_ball 38 = .ok (.ireturn, 1) := by decide +kernel
theorem dX11_needInvasion_0 : decode cX11_needInvasion 0 = .ok (.iload_n 1, 1) := by decide +kernel
theorem dX11_needInvasion_1 : decode cX11_needInvasion 1 = .ok (.invokestatic 105, 3) := by decide +kernel
theorem dX11_needInvasion_4 : decode cX11_needInvasion 4 = .ok (.iload_n 2, 1) := by decide +kernel
theorem dX11_needInvasion_5 : decode cX11_needInvasion 5 = .ok (.iconst 0, 1) := by decide +kernel
theorem dX11_needInvasion_6 : decode cX11_needInvasion 6 = .ok (.bipush 35, 2) := by decide +kernel
theorem dX11_needInvasion_8 : decode cX11_needInvasion 8 = .ok (.invokestatic 90, 3) := by decide +kernel
theorem dX11_needInvasion_11 : decode cX11_needInvasion 11 = .ok (.aload_n 0, 1) := by decide +kernel
theorem dX11_needInvasion_12 : decode cX11_needInvasion 12 = .ok (.iload_n 1, 1) := by decide +kernel
theorem dX11_needInvasion_13 : decode cX11_needInvasion 13 = .ok (.invokevirtual 224, 3) := by decide +kernel
theorem dX11_needInvasion_16 : decode cX11_needInvasion 16 = .ok (.return_, 1) := by decide +kernel
theorem dX6_nextBond_0 : decode cX6_nextBond 0 = .ok (.iconst (-1), 1) := by decide +kernel
theorem dX6_nextBond_1 : decode cX6_nextBond 1 = .ok (.istore_n 3, 1) := by decide +kernel
theorem dX6_nextBond_2 : decode cX6_nextBond 2 = .ok (.iconst 0, 1) := by decide +kernel
theorem dX6_nextBond_3 : decode cX6_nextBond 3 = .ok (.istore 4, 2) := by decide +kernel
theorem dX6_nextBond_5 : decode cX6_nextBond 5 = .ok (.iload 4, 2) := by decide +kernel
theorem dX6_nextBond_7 : decode cX6_nextBond 7 = .ok (.bipush 60, 2) := by decide +kernel
theorem dX6_nextBond_9 : decode cX6_nextBond 9 = .ok (.if_icmp .ge 90, 3) := by decide +kernel
theorem dX6_nextBond_12 : decode cX6_nextBond 12 = .ok (.iload 4, 2) := by decide +kernel
theorem dX6_nextBond_14 : decode cX6_nextBond 14 = .ok (.invokestatic 30, 3) := by decide +kernel
theorem dX6_nextBond_17 : decode cX6_nextBond 17 = .ok (.istore 5, 2) := by decide +kernel
theorem dX6_nextBond_19 : decode cX6_nextBond 19 = .ok (.iload 4, 2) := by decide +kernel
theorem dX6_nextBond_21 : decode cX6_nextBond 21 = .ok (.invokestatic 34, 3) := by decide +kernel
theorem dX6_nextBond_24 : decode cX6_nextBond 24 = .ok (.istore 6, 2) := by decide +kernel
theorem dX6_nextBond_26 : decode cX6_nextBond 26 = .ok (.aload_n 0, 1) := by decide +kernel
theorem dX6_nextBond_27 : decode cX6_nextBond 27 = .ok (.getfield 9, 3) := by decide +kernel
theorem dX6_nextBond_30 : decode cX6_nextBond 30 = .ok (.iload 5, 2) := by decide +kernel
theorem dX6_nextBond_32 : decode cX6_nextBond 32 = .ok (.baload, 1) := by decide +kernel
theorem dX6_nextBond_33 : decode cX6_nextBond 33 = .ok (.aload_n 0, 1) := by decide +kernel
theorem dX6_nextBond_34 : decode cX6_nextBond 34 = .ok (.getfield 9, 3) := by decide +kernel
theorem dX6_nextBond_37 : decode cX6_nextBond 37 = .ok (.iload 6, 2) := by decide +kernel
theorem dX6_nextBond_39 : decode cX6_nextBond 39 = .ok (.baload, 1) := by decide +kernel
theorem dX6_nextBond_40 : decode cX6_nextBond 40 = .ok (.if_icmp .eq 21, 3) := by decide +kernel
theorem dX6_nextBond_43 : decode cX6_nextBond 43 = .ok (.aload_n 2, 1) := by decide +kernel
theorem dX6_nextBond_44 : decode cX6_nextBond 44 = .ok (.iload 5, 2) := by decide +kernel
theorem dX6_nextBond_46 : decode cX6_nextBond 46 = .ok (.baload, 1) := by decide +kernel
theorem dX6_nextBond_47 : decode cX6_nextBond 47 = .ok (.ifCond .ne 14, 3) := by decide +kernel
theorem dX6_nextBond_50 : decode cX6_nextBond 50 = .ok (.aload_n 2, 1) := by decide +kernel
theorem dX6_nextBond_51 : decode cX6_nextBond 51 = .ok (.iload 6, 2) := by decide +kernel
theorem dX6_nextBond_53 : decode cX6_nextBond 53 = .ok (.baload, 1) := by decide +kernel
theorem dX6_nextBond_54 : decode cX6_nextBond 54 = .ok (.ifCond .ne 7, 3) := by decide +kernel
theorem dX6_nextBond_57 : decode cX6_nextBond 57 = .ok (.iconst 1, 1) := by decide +kernel
theorem dX6_nextBond_58 : decode cX6_nextBond 58 = .ok (.goto 4, 3) := by decide +kernel
theorem dX6_nextBond_61 : decode cX6_nextBond 61 = .ok (.iconst 0, 1) := by decide +kernel
theorem dX6_nextBond_62 : decode cX6_nextBond 62 = .ok (.istore 7, 2) := by decide +kernel
theorem dX6_nextBond_64 : decode cX6_nextBond 64 = .ok (.iload 7, 2) := by decide +kernel
theorem dX6_nextBond_66 : decode cX6_nextBond 66 = .ok (.ifCond .eq 27, 3) := by decide +kernel
theorem dX6_nextBond_69 : decode cX6_nextBond 69 = .ok (.iload_n 3, 1) := by decide +kernel
theorem dX6_nextBond_70 : decode cX6_nextBond 70 = .ok (.iconst (-1), 1) := by decide +kernel
theorem dX6_nextBond_71 : decode cX6_nextBond 71 = .ok (.if_icmp .eq 19, 3) := by decide +kernel
theorem dX6_nextBond_74 : decode cX6_nextBond 74 = .ok (.aload_n 1, 1) := by decide +kernel
theorem dX6_nextBond_75 : decode cX6_nextBond 75 = .ok (.getfield 37, 3) := by decide +kernel
theorem dX6_nextBond_78 : decode cX6_nextBond 78 = .ok (.iload 4, 2) := by decide +kernel
theorem dX6_nextBond_80 : decode cX6_nextBond 80 = .ok (.iaload, 1) := by decide +kernel
theorem dX6_nextBond_81 : decode cX6_nextBond 81 = .ok (.aload_n 1, 1) := by decide +kernel
theorem dX6_nextBond_82 : decode cX6_nextBond 82 = .ok (.getfield 37, 3) := by decide +kernel
theorem dX6_nextBond_85 : decode cX6_nextBond 85 = .ok (.iload_n 3, 1) := by decide +kernel
theorem dX6_nextBond_86 : decode cX6_nextBond 86 = .ok (.iaload, 1) := by decide +kernel
theorem dX6_nextBond_87 : decode cX6_nextBond 87 = .ok (.if_icmp .ge 6, 3) := by decide +kernel
theorem dX6_nextBond_90 : decode cX6_nextBond 90 = .ok (.iload 4, 2) := by decide +kernel
theorem dX6_nextBond_92 : decode cX6_nextBond 92 = .ok (.istore_n 3, 1) := by decide +kernel
theorem dX6_nextBond_93 : decode cX6_nextBond 93 = .ok (.iinc 4 1, 3) := by decide +kernel
theorem dX6_nextBond_96 : decode cX6_nextBond 96 = .ok (.goto (-91), 3) := by decide +kernel
theorem dX6_nextBond_99 : decode cX6_nextBond 99 = .ok (.iload_n 3, 1) := by decide +kernel
theorem dX6_nextBond_100 : decode cX6_nextBond 100 = .ok (.ireturn, 1) := by decide +kernel
theorem dX6_goOn_0 : decode cX6_goOn 0 = .ok (.aload_n 0, 1) := by decide +kernel
theorem dX6_goOn_1 : decode cX6_goOn 1 = .ok (.getfield 9, 3) := by decide +kernel
theorem dX6_goOn_4 : decode cX6_goOn 4 = .ok (.invokestatic 15, 3) := by decide +kernel
theorem dX6_goOn_7 : decode cX6_goOn 7 = .ok (.aload_n 0, 1) := by decide +kernel
theorem dX6_goOn_8 : decode cX6_goOn 8 = .ok (.getfield 9, 3) := by decide +kernel
theorem dX6_goOn_11 : decode cX6_goOn 11 = .ok (.iload_n 3, 1) := by decide +kernel
theorem dX6_goOn_12 : decode cX6_goOn 12 = .ok (.iconst 1, 1) := by decide +kernel
theorem dX6_goOn_13 : decode cX6_goOn 13 = .ok (.bastore, 1) := by decide +kernel
theorem dX6_goOn_14 : decode cX6_goOn 14 = .ok (.aload_n 0, 1) := by decide +kernel
theorem dX6_goOn_15 : decode cX6_goOn 15 = .ok (.iload_n 3, 1) := by decide +kernel
theorem dX6_goOn_16 : decode cX6_goOn 16 = .ok (.putfield 19, 3) := by decide +kernel
theorem dX6_goOn_19 : decode cX6_goOn 19 = .ok (.aload_n 0, 1) := by decide +kernel
theorem dX6_goOn_20 : decode cX6_goOn 20 = .ok (.iconst (-1), 1) := by decide +kernel
theorem dX6_goOn_21 : decode cX6_goOn 21 = .ok (.putfield 23, 3) := by decide +kernel
theorem dX6_goOn_24 : decode cX6_goOn 24 = .ok (.iconst 0, 1) := by decide +kernel
theorem dX6_goOn_25 : decode cX6_goOn 25 = .ok (.istore 5, 2) := by decide +kernel
theorem dX6_goOn_27 : decode cX6_goOn 27 = .ok (.iload 5, 2) := by decide +kernel
theorem dX6_goOn_29 : decode cX6_goOn 29 = .ok (.iload 4, 2) := by decide +kernel
theorem dX6_goOn_31 : decode cX6_goOn 31 = .ok (.if_icmp .ge 83, 3) := by decide +kernel
theorem dX6_goOn_34 : decode cX6_goOn 34 = .ok (.aload_n 0, 1) := by decide +kernel
theorem dX6_goOn_35 : decode cX6_goOn 35 = .ok (.aload_n 1, 1) := by decide +kernel
theorem dX6_goOn_36 : decode cX6_goOn 36 = .ok (.aload_n 2, 1) := by decide +kernel
theorem dX6_goOn_37 : decode cX6_goOn 37 = .ok (.invokevirtual 26, 3) := by decide +kernel
theorem dX6_goOn_40 : decode cX6_goOn 40 = .ok (.istore 6, 2) := by decide +kernel
theorem dX6_goOn_42 : decode cX6_goOn 42 = .ok (.iload 6, 2) := by decide +kernel
theorem dX6_goOn_44 : decode cX6_goOn 44 = .ok (.iconst (-1), 1) := by decide +kernel
theorem dX6_goOn_45 : decode cX6_goOn 45 = .ok (.if_icmp .ne 5, 3) := by decide +kernel
theorem dX6_goOn_48 : decode cX6_goOn 48 = .ok (.iconst 0, 1) := by decide +kernel
theorem dX6_goOn_49 : decode cX6_goOn 49 = .ok (.ireturn, 1) := by decide +kernel
theorem dX6_goOn_50 : decode cX6_goOn 50 = .ok (.aload_n 0, 1) := by decide +kernel
theorem dX6_goOn_51 : decode cX6_goOn 51 = .ok (.aload_n 0, 1) := by decide +kernel
theorem dX6_goOn_52 : decode cX6_goOn 52 = .ok (.getfield 9, 3) := by decide +kernel
theorem dX6_goOn_55 : decode cX6_goOn 55 = .ok (.iload 6, 2) := by decide +kernel
theorem dX6_goOn_57 : decode cX6_goOn 57 = .ok (.invokestatic 30, 3) := by decide +kernel
theorem dX6_goOn_60 : decode cX6_goOn 60 = .ok (.baload, 1) := by decide +kernel
theorem dX6_goOn_61 : decode cX6_goOn 61 = .ok (.ifCond .eq 11, 3) := by decide +kernel
theorem dX6_goOn_64 : decode cX6_goOn 64 = .ok (.iload 6, 2) := by decide +kernel
theorem dX6_goOn_66 : decode cX6_goOn 66 = .ok (.invokestatic 34, 3) := by decide +kernel
theorem dX6_goOn_69 : decode cX6_goOn 69 = .ok (.goto 8, 3) := by decide +kernel
theorem dX6_goOn_72 : decode cX6_goOn 72 = .ok (.iload 6, 2) := by decide +kernel
theorem dX6_goOn_74 : decode cX6_goOn 74 = .ok (.invokestatic 30, 3) := by decide +kernel
theorem dX6_goOn_77 : decode cX6_goOn 77 = .ok (.putfield 19, 3) := by decide +kernel
theorem dX6_goOn_80 : decode cX6_goOn 80 = .ok (.aload_n 0, 1) := by decide +kernel
theorem dX6_goOn_81 : decode cX6_goOn 81 = .ok (.getfield 9, 3) := by decide +kernel
theorem dX6_goOn_84 : decode cX6_goOn 84 = .ok (.aload_n 0, 1) := by decide +kernel
theorem dX6_goOn_85 : decode cX6_goOn 85 = .ok (.getfield 19, 3) := by decide +kernel
theorem dX6_goOn_88 : decode cX6_goOn 88 = .ok (.iconst 1, 1) := by decide +kernel
theorem dX6_goOn_89 : decode cX6_goOn 89 = .ok (.bastore, 1) := by decide +kernel
theorem dX6_goOn_90 : decode cX6_goOn 90 = .ok (.aload_n 0, 1) := by decide +kernel
theorem dX6_goOn_91 : decode cX6_goOn 91 = .ok (.aload_n 0, 1) := by decide +kernel
theorem dX6_goOn_92 : decode cX6_goOn 92 = .ok (.getfield 23, 3) := by decide +kernel
theorem dX6_goOn_95 : decode cX6_goOn 95 = .ok (.aload_n 1, 1) := by decide +kernel
theorem dX6_goOn_96 : decode cX6_goOn 96 = .ok (.getfield 37, 3) := by decide +kernel
theorem dX6_goOn_99 : decode cX6_goOn 99 = .ok (.iload 6, 2) := by decide +kernel
theorem dX6_goOn_101 : decode cX6_goOn 101 = .ok (.iaload, 1) := by decide +kernel
theorem dX6_goOn_102 : decode cX6_goOn 102 = .ok (.invokestatic 43, 3) := by decide +kernel
theorem dX6_goOn_105 : decode cX6_goOn 105 = .ok (.putfield 23, 3) := by decide +kernel
theorem dX6_goOn_108 : decode cX6_goOn 108 = .ok (.iinc 5 1, 3) := by decide +kernel
theorem dX6_goOn_111 : decode cX6_goOn 111 = .ok (.goto (-84), 3) := by decide +kernel
theorem dX6_goOn_114 : decode cX6_goOn 114 = .ok (.iconst 1, 1) := by decide +kernel
theorem dX6_goOn_115 : decode cX6_goOn 115 = .ok (.ireturn, 1) := by decide +kernel
theorem dX11_invade_0 : decode cX11_invade 0 = .ok (.aload_n 0, 1) := by decide +kernel
theorem dX11_invade_1 : decode cX11_invade 1 = .ok (.iload_n 1, 1) := by decide +kernel
theorem dX11_invade_2 : decode cX11_invade 2 = .ok (.iload_n 2, 1) := by decide +kernel
theorem dX11_invade_3 : decode cX11_invade 3 = .ok (.invokevirtual 211, 3) := by decide +kernel
theorem dX11_invade_6 : decode cX11_invade 6 = .ok (.aload_n 0, 1) := by decide +kernel
theorem dX11_invade_7 : decode cX11_invade 7 = .ok (.getfield 64, 3) := by decide +kernel
theorem dX11_invade_10 : decode cX11_invade 10 = .ok (.aload_n 0, 1) := by decide +kernel
theorem dX11_invade_11 : decode cX11_invade 11 = .ok (.getfield 10, 3) := by decide +kernel
theorem dX11_invade_14 : decode cX11_invade 14 = .ok (.aload_n 0, 1) := by decide +kernel
theorem dX11_invade_15 : decode cX11_invade 15 = .ok (.getfield 22, 3) := by decide +kernel
theorem dX11_invade_18 : decode cX11_invade 18 = .ok (.getfield 118, 3) := by decide +kernel
theorem dX11_invade_21 : decode cX11_invade 21 = .ok (.iload_n 1, 1) := by decide +kernel
theorem dX11_invade_22 : decode cX11_invade 22 = .ok (.iload_n 2, 1) := by decide +kernel
theorem dX11_invade_23 : decode cX11_invade 23 = .ok (.invokevirtual 214, 3) := by decide +kernel
theorem dX11_invade_26 : decode cX11_invade 26 = .ok (.ifCond .eq 13, 3) := by decide +kernel
theorem dX11_invade_29 : decode cX11_invade 29 = .ok (.aload_n 0, 1) := by decide +kernel
theorem dX11_invade_30 : decode cX11_invade 30 = .ok (.getfield 64, 3) := by decide +kernel
theorem dX11_invade_33 : decode cX11_invade 33 = .ok (.getfield 218, 3) := by decide +kernel
theorem dX11_invade_36 : decode cX11_invade 36 = .ok (.goto 4, 3) := by decide +kernel
theorem dX11_invade_39 : decode cX11_invade 39 = .ok (.iconst (-1), 1) := by decide +kernel
theorem dX11_invade_40 : decode cX11_invade 40 = .ok (.ireturn, 1) := by decide +kernel
theorem dL_comes_0 : decode cL_comes 0 = .ok (.aload_n 0, 1) := by decide +kernel
theorem dL_comes_1 : decode cL_comes 1 = .ok (.iload_n 1, 1) := by decide +kernel
theorem dL_comes_2 : decode cL_comes 2 = .ok (.iload_n 2, 1) := by decide +kernel
theorem dL_comes_3 : decode cL_comes 3 = .ok (.invokevirtual 18, 3) := by decide +kernel
theorem dL_comes_6 : decode cL_comes 6 = .ok (.ireturn, 1) := by decide +kernel
theorem dL_comes_7 : decode cL_comes 7 = .ok (.astore_n 3, 1) := by decide +kernel
theorem dL_comes_8 : decode cL_comes 8 = .ok (.bipush (-9), 2) := by decide +kernel
theorem dL_comes_10 : decode cL_comes 10 = .ok (.ireturn, 1) := by decide +kernel
theorem dX11_invaded_0 : decode cX11_invaded 0 = .ok (.aload_n 0, 1) := by decide +kernel
theorem dX11_invaded_1 : decode cX11_invaded 1 = .ok (.iload_n 1, 1) := by decide +kernel
theorem dX11_invaded_2 : decode cX11_invaded 2 = .ok (.iload_n 2, 1) := by decide +kernel
theorem dX11_invaded_3 : decode cX11_invaded 3 = .ok (.invokevirtual 211, 3) := by decide +kernel
theorem dX11_invaded_6 : decode cX11_invaded 6 = .ok (.aload_n 0, 1) := by decide +kernel
theorem dX11_invaded_7 : decode cX11_invaded 7 = .ok (.getfield 64, 3) := by decide +kernel
theorem dX11_invaded_10 : decode cX11_invaded 10 = .ok (.aload_n 0, 1) := by decide +kernel
theorem dX11_invaded_11 : decode cX11_invaded 11 = .ok (.getfield 10, 3) := by decide +kernel
theorem dX11_invaded_14 : decode cX11_invaded 14 = .ok (.aload_n 0, 1) := by decide +kernel
theorem dX11_invaded_15 : decode cX11_invaded 15 = .ok (.getfield 22, 3) := by decide +kernel
theorem dX11_invaded_18 : decode cX11_invaded 18 = .ok (.getfield 118, 3) := by decide +kernel
theorem dX11_invaded_21 : decode cX11_invaded 21 = .ok (.iload_n 1, 1) := by decide +kernel
theorem dX11_invaded_22 : decode cX11_invaded 22 = .ok (.iload_n 2, 1) := by decide +kernel
theorem dX11_invaded_23 : decode cX11_invaded 23 = .ok (.invokevirtual 214, 3) := by decide +kernel
theorem dX11_invaded_26 : decode cX11_invaded 26 = .ok (.ifCond .eq 13, 3) := by decide +kernel
theorem dX11_invaded_29 : decode cX11_invaded 29 = .ok (.aload_n 0, 1) := by decide +kernel
theorem dX11_invaded_30 : decode cX11_invaded 30 = .ok (.getfield 64, 3) := by decide +kernel
theorem dX11_invaded_33 : decode cX11_invaded 33 = .ok (.getfield 221, 3) := by decide +kernel
theorem dX11_invaded_36 : decode cX11_invaded 36 = .ok (.goto 4, 3) := by decide +kernel
theorem dX11_invaded_39 : decode cX11_invaded 39 = .ok (.iconst (-1), 1) := by decide +kernel
theorem dX11_invaded_40 : decode cX11_invaded 40 = .ok (.ireturn, 1) := by decide +kernel
theorem dL_most_0 : decode cL_most 0 = .ok (.aload_n 0, 1) := by decide +kernel
theorem dL_most_1 : decode cL_most 1 = .ok (.iload_n 1, 1) := by decide +kernel
theorem dL_most_2 : decode cL_most 2 = .ok (.iload_n 2, 1) := by decide +kernel
theorem dL_most_3 : decode cL_most 3 = .ok (.invokevirtual 22, 3) := by decide +kernel
theorem dL_most_6 : decode cL_most 6 = .ok (.ireturn, 1) := by decide +kernel
theorem dL_most_7 : decode cL_most 7 = .ok (.astore_n 3, 1) := by decide +kernel
theorem dL_most_8 : decode cL_most 8 = .ok (.bipush (-9), 2) := by decide +kernel
theorem dL_most_10 : decode cL_most 10 = .ok (.ireturn, 1) := by decide +kernel
theorem dL_comers_0 : decode cL_comers 0 = .ok (.lload_n 2, 1) := by decide +kernel
theorem dL_comers_1 : decode cL_comers 1 = .ok (.iload 4, 2) := by decide +kernel
theorem dL_comers_3 : decode cL_comers 3 = .ok (.invokestatic 25, 3) := by decide +kernel
theorem dL_comers_6 : decode cL_comers 6 = .ok (.ifCond .eq 33, 3) := by decide +kernel
theorem dL_comers_9 : decode cL_comers 9 = .ok (.aload_n 0, 1) := by decide +kernel
theorem dL_comers_10 : decode cL_comers 10 = .ok (.iload 4, 2) := by decide +kernel
theorem dL_comers_12 : decode cL_comers 12 = .ok (.iconst 0, 1) := by decide +kernel
theorem dL_comers_13 : decode cL_comers 13 = .ok (.invokestatic 52, 3) := by decide +kernel
theorem dL_comers_16 : decode cL_comers 16 = .ok (.bipush (-9), 2) := by decide +kernel
theorem dL_comers_18 : decode cL_comers 18 = .ok (.if_icmp .ne 19, 3) := by decide +kernel
theorem dL_comers_21 : decode cL_comers 21 = .ok (.aload_n 0, 1) := by decide +kernel
theorem dL_comers_22 : decode cL_comers 22 = .ok (.iload 4, 2) := by decide +kernel
theorem dL_comers_24 : decode cL_comers 24 = .ok (.iconst 1, 1) := by decide +kernel
theorem dL_comers_25 : decode cL_comers 25 = .ok (.invokestatic 56, 3) := by decide +kernel
theorem dL_comers_28 : decode cL_comers 28 = .ok (.bipush (-9), 2) := by decide +kernel
theorem dL_comers_30 : decode cL_comers 30 = .ok (.if_icmp .ne 7, 3) := by decide +kernel
theorem dL_comers_33 : decode cL_comers 33 = .ok (.iconst 1, 1) := by decide +kernel
theorem dL_comers_34 : decode cL_comers 34 = .ok (.goto 4, 3) := by decide +kernel
theorem dL_comers_37 : decode cL_comers 37 = .ok (.iconst 0, 1) := by decide +kernel
theorem dL_comers_38 : decode cL_comers 38 = .ok (.ireturn, 1) := by decide +kernel
theorem dL_comers_39 : decode cL_comers 39 = .ok (.lconst 1, 1) := by decide +kernel
theorem dL_comers_40 : decode cL_comers 40 = .ok (.iload 4, 2) := by decide +kernel
theorem dL_comers_42 : decode cL_comers 42 = .ok (.lshl, 1) := by decide +kernel
theorem dL_comers_43 : decode cL_comers 43 = .ok (.lstore 5, 2) := by decide +kernel
theorem dL_comers_45 : decode cL_comers 45 = .ok (.iconst (-1), 1) := by decide +kernel
theorem dL_comers_46 : decode cL_comers 46 = .ok (.istore 7, 2) := by decide +kernel
theorem dL_comers_48 : decode cL_comers 48 = .ok (.iconst 0, 1) := by decide +kernel
theorem dL_comers_49 : decode cL_comers 49 = .ok (.istore 8, 2) := by decide +kernel
theorem dL_comers_51 : decode cL_comers 51 = .ok (.iload 8, 2) := by decide +kernel
theorem dL_comers_53 : decode cL_comers 53 = .ok (.bipush 36, 2) := by decide +kernel
theorem dL_comers_55 : decode cL_comers 55 = .ok (.if_icmp .ge 246, 3) := by decide +kernel
theorem dL_comers_58 : decode cL_comers 58 = .ok (.iconst (-1), 1) := by decide +kernel
theorem dL_comers_59 : decode cL_comers 59 = .ok (.istore 9, 2) := by decide +kernel
theorem dL_comers_61 : decode cL_comers 61 = .ok (.iconst 0, 1) := by decide +kernel
theorem dL_comers_62 : decode cL_comers 62 = .ok (.istore 10, 2) := by decide +kernel
theorem dL_comers_64 : decode cL_comers 64 = .ok (.iload 10, 2) := by decide +kernel
theorem dL_comers_66 : decode cL_comers 66 = .ok (.bipush 60, 2) := by decide +kernel
theorem dL_comers_68 : decode cL_comers 68 = .ok (.if_icmp .ge 93, 3) := by decide +kernel
theorem dL_comers_71 : decode cL_comers 71 = .ok (.iload 8, 2) := by decide +kernel
theorem dL_comers_73 : decode cL_comers 73 = .ok (.ifCond .le 88, 3) := by decide +kernel
theorem dL_comers_76 : decode cL_comers 76 = .ok (.lload 5, 2) := by decide +kernel
theorem dL_comers_78 : decode cL_comers 78 = .ok (.iload 10, 2) := by decide +kernel
theorem dL_comers_80 : decode cL_comers 80 = .ok (.invokestatic 31, 3) := by decide +kernel
theorem dL_comers_83 : decode cL_comers 83 = .ok (.invokestatic 25, 3) := by decide +kernel
theorem dL_comers_86 : decode cL_comers 86 = .ok (.lload 5, 2) := by decide +kernel
theorem dL_comers_88 : decode cL_comers 88 = .ok (.iload 10, 2) := by decide +kernel
theorem dL_comers_90 : decode cL_comers 90 = .ok (.invokestatic 35, 3) := by decide +kernel
theorem dL_comers_93 : decode cL_comers 93 = .ok (.invokestatic 25, 3) := by decide +kernel
theorem dL_comers_96 : decode cL_comers 96 = .ok (.if_icmp .eq 31, 3) := by decide +kernel
theorem dL_comers_99 : decode cL_comers 99 = .ok (.lload_n 2, 1) := by decide +kernel
theorem dL_comers_100 : decode cL_comers 100 = .ok (.iload 10, 2) := by decide +kernel
theorem dL_comers_102 : decode cL_comers 102 = .ok (.invokestatic 31, 3) := by decide +kernel
theorem dL_comers_105 : decode cL_comers 105 = .ok (.invokestatic 25, 3) := by decide +kernel
theorem dL_comers_108 : decode cL_comers 108 = .ok (.ifCond .ne 19, 3) := by decide +kernel
theorem dL_comers_111 : decode cL_comers 111 = .ok (.lload_n 2, 1) := by decide +kernel
theorem dL_comers_112 : decode cL_comers 112 = .ok (.iload 10, 2) := by decide +kernel
theorem dL_comers_114 : decode cL_comers 114 = .ok (.invokestatic 35, 3) := by decide +kernel
theorem dL_comers_117 : decode cL_comers 117 = .ok (.invokestatic 25, 3) := by decide +kernel
theorem dL_comers_120 : decode cL_comers 120 = .ok (.ifCond .ne 7, 3) := by decide +kernel
theorem dL_comers_123 : decode cL_comers 123 = .ok (.iconst 1, 1) := by decide +kernel
theorem dL_comers_124 : decode cL_comers 124 = .ok (.goto 4, 3) := by decide +kernel
theorem dL_comers_127 : decode cL_comers 127 = .ok (.iconst 0, 1) := by decide +kernel
theorem dL_comers_128 : decode cL_comers 128 = .ok (.istore 11, 2) := by decide +kernel
theorem dL_comers_130 : decode cL_comers 130 = .ok (.iload 11, 2) := by decide +kernel
theorem dL_comers_132 : decode cL_comers 132 = .ok (.ifCond .eq 23, 3) := by decide +kernel
theorem dL_comers_135 : decode cL_comers 135 = .ok (.iload 9, 2) := by decide +kernel
theorem dL_comers_137 : decode cL_comers 137 = .ok (.ifCond .lt 14, 3) := by decide +kernel
theorem dL_comers_140 : decode cL_comers 140 = .ok (.aload_n 1, 1) := by decide +kernel
theorem dL_comers_141 : decode cL_comers 141 = .ok (.iload 10, 2) := by decide +kernel
theorem dL_comers_143 : decode cL_comers 143 = .ok (.iaload, 1) := by decide +kernel
theorem dL_comers_144 : decode cL_comers 144 = .ok (.aload_n 1, 1) := by decide +kernel
theorem dL_comers_145 : decode cL_comers 145 = .ok (.iload 9, 2) := by decide +kernel
theorem dL_comers_147 : decode cL_comers 147 = .ok (.iaload, 1) := by decide +kernel
theorem dL_comers_148 : decode cL_comers 148 = .ok (.if_icmp .ge 7, 3) := by decide +kernel
theorem dL_comers_151 : decode cL_comers 151 = .ok (.iload 10, 2) := by decide +kernel
theorem dL_comers_153 : decode cL_comers 153 = .ok (.istore 9, 2) := by decide +kernel
theorem dL_comers_155 : decode cL_comers 155 = .ok (.iinc 10 1, 3) := by decide +kernel
theorem dL_comers_158 : decode cL_comers 158 = .ok (.goto (-94), 3) := by decide +kernel
theorem dL_comers_161 : decode cL_comers 161 = .ok (.iload 8, 2) := by decide +kernel
theorem dL_comers_163 : decode cL_comers 163 = .ok (.ifCond .ne 8, 3) := by decide +kernel
theorem dL_comers_166 : decode cL_comers 166 = .ok (.iload 4, 2) := by decide +kernel
theorem dL_comers_168 : decode cL_comers 168 = .ok (.goto 38, 3) := by decide +kernel
theorem dL_comers_171 : decode cL_comers 171 = .ok (.iload 9, 2) := by decide +kernel
theorem dL_comers_173 : decode cL_comers 173 = .ok (.ifCond .ge 7, 3) := by decide +kernel
theorem dL_comers_176 : decode cL_comers 176 = .ok (.iconst (-1), 1) := by decide +kernel
theorem dL_comers_177 : decode cL_comers 177 = .ok (.goto 29, 3) := by decide +kernel
theorem dL_comers_180 : decode cL_comers 180 = .ok (.lload 5, 2) := by decide +kernel
theorem dL_comers_182 : decode cL_comers 182 = .ok (.iload 9, 2) := by decide +kernel
theorem dL_comers_184 : decode cL_comers 184 = .ok (.invokestatic 31, 3) := by decide +kernel
theorem dL_comers_187 : decode cL_comers 187 = .ok (.invokestatic 25, 3) := by decide +kernel
theorem dL_comers_190 : decode cL_comers 190 = .ok (.ifCond .eq 11, 3) := by decide +kernel
theorem dL_comers_193 : decode cL_comers 193 = .ok (.iload 9, 2) := by decide +kernel
theorem dL_comers_195 : decode cL_comers 195 = .ok (.invokestatic 35, 3) := by decide +kernel
theorem dL_comers_198 : decode cL_comers 198 = .ok (.goto 8, 3) := by decide +kernel
theorem dL_comers_201 : decode cL_comers 201 = .ok (.iload 9, 2) := by decide +kernel
theorem dL_comers_203 : decode cL_comers 203 = .ok (.invokestatic 31, 3) := by decide +kernel
theorem dL_comers_206 : decode cL_comers 206 = .ok (.istore 10, 2) := by decide +kernel
theorem dL_comers_208 : decode cL_comers 208 = .ok (.iload 9, 2) := by decide +kernel
theorem dL_comers_210 : decode cL_comers 210 = .ok (.ifCond .lt 18, 3) := by decide +kernel
theorem dL_comers_213 : decode cL_comers 213 = .ok (.aload_n 1, 1) := by decide +kernel
theorem dL_comers_214 : decode cL_comers 214 = .ok (.iload 9, 2) := by decide +kernel
theorem dL_comers_216 : decode cL_comers 216 = .ok (.iaload, 1) := by decide +kernel
theorem dL_comers_217 : decode cL_comers 217 = .ok (.iload 7, 2) := by decide +kernel
theorem dL_comers_219 : decode cL_comers 219 = .ok (.if_icmp .le 9, 3) := by decide +kernel
theorem dL_comers_222 : decode cL_comers 222 = .ok (.aload_n 1, 1) := by decide +kernel
theorem dL_comers_223 : decode cL_comers 223 = .ok (.iload 9, 2) := by decide +kernel
theorem dL_comers_225 : decode cL_comers 225 = .ok (.iaload, 1) := by decide +kernel
theorem dL_comers_226 : decode cL_comers 226 = .ok (.istore 7, 2) := by decide +kernel
theorem dL_comers_228 : decode cL_comers 228 = .ok (.aload_n 0, 1) := by decide +kernel
theorem dL_comers_229 : decode cL_comers 229 = .ok (.iload 4, 2) := by decide +kernel
theorem dL_comers_231 : decode cL_comers 231 = .ok (.iload 8, 2) := by decide +kernel
theorem dL_comers_233 : decode cL_comers 233 = .ok (.invokestatic 52, 3) := by decide +kernel
theorem dL_comers_236 : decode cL_comers 236 = .ok (.iload 10, 2) := by decide +kernel
theorem dL_comers_238 : decode cL_comers 238 = .ok (.if_icmp .ne 25, 3) := by decide +kernel
theorem dL_comers_241 : decode cL_comers 241 = .ok (.aload_n 0, 1) := by decide +kernel
theorem dL_comers_242 : decode cL_comers 242 = .ok (.iload 4, 2) := by decide +kernel
theorem dL_comers_244 : decode cL_comers 244 = .ok (.iload 8, 2) := by decide +kernel
theorem dL_comers_246 : decode cL_comers 246 = .ok (.invokestatic 56, 3) := by decide +kernel
theorem dL_comers_249 : decode cL_comers 249 = .ok (.iload 10, 2) := by decide +kernel
theorem dL_comers_251 : decode cL_comers 251 = .ok (.ifCond .ge 7, 3) := by decide +kernel
theorem dL_comers_254 : decode cL_comers 254 = .ok (.iconst (-1), 1) := by decide +kernel
theorem dL_comers_255 : decode cL_comers 255 = .ok (.goto 5, 3) := by decide +kernel
theorem dL_comers_258 : decode cL_comers 258 = .ok (.iload 7, 2) := by decide +kernel
theorem dL_comers_260 : decode cL_comers 260 = .ok (.if_icmp .eq 5, 3) := by decide +kernel
theorem dL_comers_263 : decode cL_comers 263 = .ok (.iconst 0, 1) := by decide +kernel
theorem dL_comers_264 : decode cL_comers 264 = .ok (.ireturn, 1) := by decide +kernel
theorem dL_comers_265 : decode cL_comers 265 = .ok (.iload 10, 2) := by decide +kernel
theorem dL_comers_267 : decode cL_comers 267 = .ok (.ifCond .ge 19, 3) := by decide +kernel
theorem dL_comers_270 : decode cL_comers 270 = .ok (.iload 8, 2) := by decide +kernel
theorem dL_comers_272 : decode cL_comers 272 = .ok (.lload 5, 2) := by decide +kernel
theorem dL_comers_274 : decode cL_comers 274 = .ok (.invokestatic 59, 3) := by decide +kernel
theorem dL_comers_277 : decode cL_comers 277 = .ok (.if_icmp .ne 7, 3) := by decide +kernel
theorem dL_comers_280 : decode cL_comers 280 = .ok (.iconst 1, 1) := by decide +kernel
theorem dL_comers_281 : decode cL_comers 281 = .ok (.goto 4, 3) := by decide +kernel
theorem dL_comers_284 : decode cL_comers 284 = .ok (.iconst 0, 1) := by decide +kernel
theorem dL_comers_285 : decode cL_comers 285 = .ok (.ireturn, 1) := by decide +kernel
theorem dL_comers_286 : decode cL_comers 286 = .ok (.lload 5, 2) := by decide +kernel
theorem dL_comers_288 : decode cL_comers 288 = .ok (.lconst 1, 1) := by decide +kernel
theorem dL_comers_289 : decode cL_comers 289 = .ok (.iload 10, 2) := by decide +kernel
theorem dL_comers_291 : decode cL_comers 291 = .ok (.lshl, 1) := by decide +kernel
theorem dL_comers_292 : decode cL_comers 292 = .ok (.lor, 1) := by decide +kernel
theorem dL_comers_293 : decode cL_comers 293 = .ok (.lstore 5, 2) := by decide +kernel
theorem dL_comers_295 : decode cL_comers 295 = .ok (.iinc 8 1, 3) := by decide +kernel
theorem dL_comers_298 : decode cL_comers 298 = .ok (.goto (-247), 3) := by decide +kernel
theorem dL_comers_301 : decode cL_comers 301 = .ok (.iconst 1, 1) := by decide +kernel
theorem dL_comers_302 : decode cL_comers 302 = .ok (.ireturn, 1) := by decide +kernel
theorem dL_times_0 : decode cL_times 0 = .ok (.bipush 36, 2) := by decide +kernel
theorem dL_times_2 : decode cL_times 2 = .ok (.newarray .int, 2) := by decide +kernel
theorem dL_times_4 : decode cL_times 4 = .ok (.astore 6, 2) := by decide +kernel
theorem dL_times_6 : decode cL_times 6 = .ok (.bipush 36, 2) := by decide +kernel
theorem dL_times_8 : decode cL_times 8 = .ok (.newarray .int, 2) := by decide +kernel
theorem dL_times_10 : decode cL_times 10 = .ok (.astore 7, 2) := by decide +kernel
theorem dL_times_12 : decode cL_times 12 = .ok (.iload 4, 2) := by decide +kernel
theorem dL_times_14 : decode cL_times 14 = .ok (.bipush 36, 2) := by decide +kernel
theorem dL_times_16 : decode cL_times 16 = .ok (.invokestatic 77, 3) := by decide +kernel
theorem dL_times_19 : decode cL_times 19 = .ok (.istore 8, 2) := by decide +kernel
theorem dL_times_21 : decode cL_times 21 = .ok (.iload 8, 2) := by decide +kernel
theorem dL_times_23 : decode cL_times 23 = .ok (.iconst 1, 1) := by decide +kernel
theorem dL_times_24 : decode cL_times 24 = .ok (.iadd, 1) := by decide +kernel
theorem dL_times_25 : decode cL_times 25 = .ok (.iload 5, 2) := by decide +kernel
theorem dL_times_27 : decode cL_times 27 = .ok (.bipush 35, 2) := by decide +kernel
theorem dL_times_29 : decode cL_times 29 = .ok (.invokestatic 77, 3) := by decide +kernel
theorem dL_times_32 : decode cL_times 32 = .ok (.iadd, 1) := by decide +kernel
theorem dL_times_33 : decode cL_times 33 = .ok (.bipush 36, 2) := by decide +kernel
theorem dL_times_35 : decode cL_times 35 = .ok (.irem, 1) := by decide +kernel
theorem dL_times_36 : decode cL_times 36 = .ok (.istore 9, 2) := by decide +kernel
theorem dL_times_38 : decode cL_times 38 = .ok (.aload_n 1, 1) := by decide +kernel
theorem dL_times_39 : decode cL_times 39 = .ok (.lload_n 2, 1) := by decide +kernel
theorem dL_times_40 : decode cL_times 40 = .ok (.iload 8, 2) := by decide +kernel
theorem dL_times_42 : decode cL_times 42 = .ok (.aload 6, 2) := by decide +kernel
theorem dL_times_44 : decode cL_times 44 = .ok (.invokestatic 124, 3) := by decide +kernel
theorem dL_times_47 : decode cL_times 47 = .ok (.aload_n 1, 1) := by decide +kernel
theorem dL_times_48 : decode cL_times 48 = .ok (.lload_n 2, 1) := by decide +kernel
theorem dL_times_49 : decode cL_times 49 = .ok (.iload 9, 2) := by decide +kernel
theorem dL_times_51 : decode cL_times 51 = .ok (.aload 7, 2) := by decide +kernel
theorem dL_times_53 : decode cL_times 53 = .ok (.invokestatic 124, 3) := by decide +kernel
theorem dL_times_56 : decode cL_times 56 = .ok (.iload 5, 2) := by decide +kernel
theorem dL_times_58 : decode cL_times 58 = .ok (.iconst 3, 1) := by decide +kernel
theorem dL_times_59 : decode cL_times 59 = .ok (.ishr, 1) := by decide +kernel
theorem dL_times_60 : decode cL_times 60 = .ok (.sipush 3000, 3) := by decide +kernel
theorem dL_times_63 : decode cL_times 63 = .ok (.invokestatic 77, 3) := by decide +kernel
theorem dL_times_66 : decode cL_times 66 = .ok (.istore 10, 2) := by decide +kernel
theorem dL_times_68 : decode cL_times 68 = .ok (.iconst 0, 1) := by decide +kernel
theorem dL_times_69 : decode cL_times 69 = .ok (.istore 11, 2) := by decide +kernel
theorem dL_times_71 : decode cL_times 71 = .ok (.iconst 0, 1) := by decide +kernel
theorem dL_times_72 : decode cL_times 72 = .ok (.istore 12, 2) := by decide +kernel
theorem dL_times_74 : decode cL_times 74 = .ok (.iload 12, 2) := by decide +kernel
theorem dL_times_76 : decode cL_times 76 = .ok (.bipush 36, 2) := by decide +kernel
theorem dL_times_78 : decode cL_times 78 = .ok (.if_icmp .ge 145, 3) := by decide +kernel
theorem dL_times_81 : decode cL_times 81 = .ok (.aload_n 0, 1) := by decide +kernel
theorem dL_times_82 : decode cL_times 82 = .ok (.iload 8, 2) := by decide +kernel
theorem dL_times_84 : decode cL_times 84 = .ok (.iload 12, 2) := by decide +kernel
theorem dL_times_86 : decode cL_times 86 = .ok (.invokevirtual 128, 3) := by decide +kernel
theorem dL_times_89 : decode cL_times 89 = .ok (.aload 6, 2) := by decide +kernel
theorem dL_times_91 : decode cL_times 91 = .ok (.iload 12, 2) := by decide +kernel
theorem dL_times_93 : decode cL_times 93 = .ok (.iaload, 1) := by decide +kernel
theorem dL_times_94 : decode cL_times 94 = .ok (.if_icmp .ne 19, 3) := by decide +kernel
theorem dL_times_97 : decode cL_times 97 = .ok (.aload_n 0, 1) := by decide +kernel
theorem dL_times_98 : decode cL_times 98 = .ok (.iload 12, 2) := by decide +kernel
theorem dL_times_100 : decode cL_times 100 = .ok (.iload 9, 2) := by decide +kernel
theorem dL_times_102 : decode cL_times 102 = .ok (.invokevirtual 128, 3) := by decide +kernel
theorem dL_times_105 : decode cL_times 105 = .ok (.aload 7, 2) := by decide +kernel
theorem dL_times_107 : decode cL_times 107 = .ok (.iload 12, 2) := by decide +kernel
theorem dL_times_109 : decode cL_times 109 = .ok (.iaload, 1) := by decide +kernel
theorem dL_times_110 : decode cL_times 110 = .ok (.if_icmp .eq 5, 3) := by decide +kernel
theorem dL_times_113 : decode cL_times 113 = .ok (.iconst 0, 1) := by decide +kernel
theorem dL_times_114 : decode cL_times 114 = .ok (.ireturn, 1) := by decide +kernel
theorem dL_times_115 : decode cL_times 115 = .ok (.iload 11, 2) := by decide +kernel
theorem dL_times_117 : decode cL_times 117 = .ok (.aload 6, 2) := by decide +kernel
theorem dL_times_119 : decode cL_times 119 = .ok (.iload 12, 2) := by decide +kernel
theorem dL_times_121 : decode cL_times 121 = .ok (.iaload, 1) := by decide +kernel
theorem dL_times_122 : decode cL_times 122 = .ok (.ifCond .lt 17, 3) := by decide +kernel
theorem dL_times_125 : decode cL_times 125 = .ok (.aload 6, 2) := by decide +kernel
theorem dL_times_127 : decode cL_times 127 = .ok (.iload 12, 2) := by decide +kernel
theorem dL_times_129 : decode cL_times 129 = .ok (.iaload, 1) := by decide +kernel
theorem dL_times_130 : decode cL_times 130 = .ok (.iload 10, 2) := by decide +kernel
theorem dL_times_132 : decode cL_times 132 = .ok (.if_icmp .gt 7, 3) := by decide +kernel
theorem dL_times_135 : decode cL_times 135 = .ok (.iconst 1, 1) := by decide +kernel
theorem dL_times_136 : decode cL_times 136 = .ok (.goto 4, 3) := by decide +kernel
theorem dL_times_139 : decode cL_times 139 = .ok (.iconst 0, 1) := by decide +kernel
theorem dL_times_140 : decode cL_times 140 = .ok (.iadd, 1) := by decide +kernel
theorem dL_times_141 : decode cL_times 141 = .ok (.istore 11, 2) := by decide +kernel
theorem dL_times_143 : decode cL_times 143 = .ok (.aload 6, 2) := by decide +kernel
theorem dL_times_145 : decode cL_times 145 = .ok (.iload 12, 2) := by decide +kernel
theorem dL_times_147 : decode cL_times 147 = .ok (.iaload, 1) := by decide +kernel
theorem dL_times_148 : decode cL_times 148 = .ok (.aload 7, 2) := by decide +kernel
theorem dL_times_150 : decode cL_times 150 = .ok (.iload 12, 2) := by decide +kernel
theorem dL_times_152 : decode cL_times 152 = .ok (.iaload, 1) := by decide +kernel
theorem dL_times_153 : decode cL_times 153 = .ok (.if_icmp .ne 7, 3) := by decide +kernel
theorem dL_times_156 : decode cL_times 156 = .ok (.iconst (-1), 1) := by decide +kernel
theorem dL_times_157 : decode cL_times 157 = .ok (.goto 41, 3) := by decide +kernel
theorem dL_times_160 : decode cL_times 160 = .ok (.aload 6, 2) := by decide +kernel
theorem dL_times_162 : decode cL_times 162 = .ok (.iload 12, 2) := by decide +kernel
theorem dL_times_164 : decode cL_times 164 = .ok (.iaload, 1) := by decide +kernel
theorem dL_times_165 : decode cL_times 165 = .ok (.ifCond .ge 7, 3) := by decide +kernel
theorem dL_times_168 : decode cL_times 168 = .ok (.iconst 1, 1) := by decide +kernel
theorem dL_times_169 : decode cL_times 169 = .ok (.goto 29, 3) := by decide +kernel
theorem dL_times_172 : decode cL_times 172 = .ok (.aload 7, 2) := by decide +kernel
theorem dL_times_174 : decode cL_times 174 = .ok (.iload 12, 2) := by decide +kernel
theorem dL_times_176 : decode cL_times 176 = .ok (.iaload, 1) := by decide +kernel
theorem dL_times_177 : decode cL_times 177 = .ok (.ifCond .lt 16, 3) := by decide +kernel
theorem dL_times_180 : decode cL_times 180 = .ok (.aload 6, 2) := by decide +kernel
theorem dL_times_182 : decode cL_times 182 = .ok (.iload 12, 2) := by decide +kernel
theorem dL_times_184 : decode cL_times 184 = .ok (.iaload, 1) := by decide +kernel
theorem dL_times_185 : decode cL_times 185 = .ok (.aload 7, 2) := by decide +kernel
theorem dL_times_187 : decode cL_times 187 = .ok (.iload 12, 2) := by decide +kernel
theorem dL_times_189 : decode cL_times 189 = .ok (.iaload, 1) := by decide +kernel
theorem dL_times_190 : decode cL_times 190 = .ok (.if_icmp .ge 7, 3) := by decide +kernel
theorem dL_times_193 : decode cL_times 193 = .ok (.iconst 0, 1) := by decide +kernel
theorem dL_times_194 : decode cL_times 194 = .ok (.goto 4, 3) := by decide +kernel
theorem dL_times_197 : decode cL_times 197 = .ok (.iconst 1, 1) := by decide +kernel
theorem dL_times_198 : decode cL_times 198 = .ok (.istore 13, 2) := by decide +kernel
theorem dL_times_200 : decode cL_times 200 = .ok (.aload_n 0, 1) := by decide +kernel
theorem dL_times_201 : decode cL_times 201 = .ok (.iload 8, 2) := by decide +kernel
theorem dL_times_203 : decode cL_times 203 = .ok (.iload 9, 2) := by decide +kernel
theorem dL_times_205 : decode cL_times 205 = .ok (.iload 12, 2) := by decide +kernel
theorem dL_times_207 : decode cL_times 207 = .ok (.invokevirtual 131, 3) := by decide +kernel
theorem dL_times_210 : decode cL_times 210 = .ok (.iload 13, 2) := by decide +kernel
theorem dL_times_212 : decode cL_times 212 = .ok (.if_icmp .eq 5, 3) := by decide +kernel
theorem dL_times_215 : decode cL_times 215 = .ok (.iconst 0, 1) := by decide +kernel
theorem dL_times_216 : decode cL_times 216 = .ok (.ireturn, 1) := by decide +kernel
theorem dL_times_217 : decode cL_times 217 = .ok (.iinc 12 1, 3) := by decide +kernel
theorem dL_times_220 : decode cL_times 220 = .ok (.goto (-146), 3) := by decide +kernel
theorem dL_times_223 : decode cL_times 223 = .ok (.aload_n 0, 1) := by decide +kernel
theorem dL_times_224 : decode cL_times 224 = .ok (.iload 8, 2) := by decide +kernel
theorem dL_times_226 : decode cL_times 226 = .ok (.iload 10, 2) := by decide +kernel
theorem dL_times_228 : decode cL_times 228 = .ok (.invokevirtual 134, 3) := by decide +kernel
theorem dL_times_231 : decode cL_times 231 = .ok (.iload 11, 2) := by decide +kernel
theorem dL_times_233 : decode cL_times 233 = .ok (.if_icmp .ne 18, 3) := by decide +kernel
theorem dL_times_236 : decode cL_times 236 = .ok (.aload_n 0, 1) := by decide +kernel
theorem dL_times_237 : decode cL_times 237 = .ok (.aload_n 1, 1) := by decide +kernel
theorem dL_times_238 : decode cL_times 238 = .ok (.lload_n 2, 1) := by decide +kernel
theorem dL_times_239 : decode cL_times 239 = .ok (.iload 8, 2) := by decide +kernel
theorem dL_times_241 : decode cL_times 241 = .ok (.invokestatic 137, 3) := by decide +kernel
theorem dL_times_244 : decode cL_times 244 = .ok (.ifCond .eq 7, 3) := by decide +kernel
theorem dL_times_247 : decode cL_times 247 = .ok (.iconst 1, 1) := by decide +kernel
theorem dL_times_248 : decode cL_times 248 = .ok (.goto 4, 3) := by decide +kernel
theorem dL_times_251 : decode cL_times 251 = .ok (.iconst 0, 1) := by decide +kernel
theorem dL_times_252 : decode cL_times 252 = .ok (.ireturn, 1) := by decide +kernel
theorem dX5_countTrapped_0 : decode cX5_countTrapped 0 = .ok (.aload_n 0, 1) := by decide +kernel
theorem dX5_countTrapped_1 : decode cX5_countTrapped 1 = .ok (.aload_n 1, 1) := by decide +kernel
theorem dX5_countTrapped_2 : decode cX5_countTrapped 2 = .ok (.invokevirtual 25, 3) := by decide +kernel
theorem dX5_countTrapped_5 : decode cX5_countTrapped 5 = .ok (.iconst 0, 1) := by decide +kernel
theorem dX5_countTrapped_6 : decode cX5_countTrapped 6 = .ok (.istore_n 3, 1) := by decide +kernel
theorem dX5_countTrapped_7 : decode cX5_countTrapped 7 = .ok (.iconst 0, 1) := by decide +kernel
theorem dX5_countTrapped_8 : decode cX5_countTrapped 8 = .ok (.istore 4, 2) := by decide +kernel
theorem dX5_countTrapped_10 : decode cX5_countTrapped 10 = .ok (.iload 4, 2) := by decide +kernel
theorem dX5_countTrapped_12 : decode cX5_countTrapped 12 = .ok (.bipush 36, 2) := by decide +kernel
theorem dX5_countTrapped_14 : decode cX5_countTrapped 14 = .ok (.if_icmp .ge 40, 3) := by decide +kernel
theorem dX5_countTrapped_17 : decode cX5_countTrapped 17 = .ok (.aload_n 1, 1) := by decide +kernel
theorem dX5_countTrapped_18 : decode cX5_countTrapped 18 = .ok (.iload 4, 2) := by decide +kernel
theorem dX5_countTrapped_20 : decode cX5_countTrapped 20 = .ok (.baload, 1) := by decide +kernel
theorem dX5_countTrapped_21 : decode cX5_countTrapped 21 = .ok (.ifCond .ne 27, 3) := by decide +kernel
theorem dX5_countTrapped_24 : decode cX5_countTrapped 24 = .ok (.aload_n 0, 1) := by decide +kernel
theorem dX5_countTrapped_25 : decode cX5_countTrapped 25 = .ok (.getfield 9, 3) := by decide +kernel
theorem dX5_countTrapped_28 : decode cX5_countTrapped 28 = .ok (.iload 4, 2) := by decide +kernel
theorem dX5_countTrapped_30 : decode cX5_countTrapped 30 = .ok (.baload, 1) := by decide +kernel
theorem dX5_countTrapped_31 : decode cX5_countTrapped 31 = .ok (.iload_n 2, 1) := by decide +kernel
theorem dX5_countTrapped_32 : decode cX5_countTrapped 32 = .ok (.if_icmp .ne 16, 3) := by decide +kernel
theorem dX5_countTrapped_35 : decode cX5_countTrapped 35 = .ok (.aload_n 0, 1) := by decide +kernel
theorem dX5_countTrapped_36 : decode cX5_countTrapped 36 = .ok (.getfield 15, 3) := by decide +kernel
theorem dX5_countTrapped_39 : decode cX5_countTrapped 39 = .ok (.iload 4, 2) := by decide +kernel
theorem dX5_countTrapped_41 : decode cX5_countTrapped 41 = .ok (.baload, 1) := by decide +kernel
theorem dX5_countTrapped_42 : decode cX5_countTrapped 42 = .ok (.ifCond .ne 6, 3) := by decide +kernel
theorem dX5_countTrapped_45 : decode cX5_countTrapped 45 = .ok (.iinc 3 1, 3) := by decide +kernel
theorem dX5_countTrapped_48 : decode cX5_countTrapped 48 = .ok (.iinc 4 1, 3) := by decide +kernel
theorem dX5_countTrapped_51 : decode cX5_countTrapped 51 = .ok (.goto (-41), 3) := by decide +kernel
theorem dX5_countTrapped_54 : decode cX5_countTrapped 54 = .ok (.iload_n 3, 1) := by decide +kernel
theorem dX5_countTrapped_55 : decode cX5_countTrapped 55 = .ok (.ireturn, 1) := by decide +kernel
theorem dX11_trapped_0 : decode cX11_trapped 0 = .ok (.aload_n 0, 1) := by decide +kernel
theorem dX11_trapped_1 : decode cX11_trapped 1 = .ok (.getfield 78, 3) := by decide +kernel
theorem dX11_trapped_4 : decode cX11_trapped 4 = .ok (.aload_n 0, 1) := by decide +kernel
theorem dX11_trapped_5 : decode cX11_trapped 5 = .ok (.getfield 22, 3) := by decide +kernel
theorem dX11_trapped_8 : decode cX11_trapped 8 = .ok (.getfield 118, 3) := by decide +kernel
theorem dX11_trapped_11 : decode cX11_trapped 11 = .ok (.iload_n 1, 1) := by decide +kernel
theorem dX11_trapped_12 : decode cX11_trapped 12 = .ok (.invokevirtual 279, 3) := by decide +kernel
theorem dX11_trapped_15 : decode cX11_trapped 15 = .ok (.ireturn, 1) := by decide +kernel
theorem dX11_count_0 : decode cX11_count 0 = .ok (.iload_n 1, 1) := by decide +kernel
theorem dX11_count_1 : decode cX11_count 1 = .ok (.tableswitch 87 0 4 #[35, 46, 57, 68, 79], 35) := by decide +kernel
theorem dX11_count_36 : decode cX11_count 36 = .ok (.aload_n 0, 1) := by decide +kernel
theorem dX11_count_37 : decode cX11_count 37 = .ok (.getfield 22, 3) := by decide +kernel
theorem dX11_count_40 : decode cX11_count 40 = .ok (.getfield 118, 3) := by decide +kernel
theorem dX11_count_43 : decode cX11_count 43 = .ok (.invokestatic 129, 3) := by decide +kernel
theorem dX11_count_46 : decode cX11_count 46 = .ok (.ireturn, 1) := by decide +kernel
theorem dX11_count_47 : decode cX11_count 47 = .ok (.aload_n 0, 1) := by decide +kernel
theorem dX11_count_48 : decode cX11_count 48 = .ok (.getfield 22, 3) := by decide +kernel
theorem dX11_count_51 : decode cX11_count 51 = .ok (.getfield 248, 3) := by decide +kernel
theorem dX11_count_54 : decode cX11_count 54 = .ok (.invokestatic 129, 3) := by decide +kernel
theorem dX11_count_57 : decode cX11_count 57 = .ok (.ireturn, 1) := by decide +kernel
theorem dX11_count_58 : decode cX11_count 58 = .ok (.aload_n 0, 1) := by decide +kernel
theorem dX11_count_59 : decode cX11_count 59 = .ok (.getfield 22, 3) := by decide +kernel
theorem dX11_count_62 : decode cX11_count 62 = .ok (.getfield 227, 3) := by decide +kernel
theorem dX11_count_65 : decode cX11_count 65 = .ok (.invokestatic 129, 3) := by decide +kernel
theorem dX11_count_68 : decode cX11_count 68 = .ok (.ireturn, 1) := by decide +kernel
theorem dX11_count_69 : decode cX11_count 69 = .ok (.aload_n 0, 1) := by decide +kernel
theorem dX11_count_70 : decode cX11_count 70 = .ok (.getfield 78, 3) := by decide +kernel
theorem dX11_count_73 : decode cX11_count 73 = .ok (.getfield 276, 3) := by decide +kernel
theorem dX11_count_76 : decode cX11_count 76 = .ok (.invokestatic 129, 3) := by decide +kernel
theorem dX11_count_79 : decode cX11_count 79 = .ok (.ireturn, 1) := by decide +kernel
theorem dX11_count_80 : decode cX11_count 80 = .ok (.aload_n 0, 1) := by decide +kernel
theorem dX11_count_81 : decode cX11_count 81 = .ok (.getfield 85, 3) := by decide +kernel
theorem dX11_count_84 : decode cX11_count 84 = .ok (.invokevirtual 290, 3) := by decide +kernel
theorem dX11_count_87 : decode cX11_count 87 = .ok (.ireturn, 1) := by decide +kernel
theorem dX11_count_88 : decode cX11_count 88 = .ok (.new 201, 3) := by decide +kernel
theorem dX11_count_91 : decode cX11_count 91 = .ok (.dup, 1) := by decide +kernel
theorem dX11_count_92 : decode cX11_count 92 = .ok (.ldc_w 344, 3) := by decide +kernel
theorem dX11_count_95 : decode cX11_count 95 = .ok (.invokespecial 205, 3) := by decide +kernel
theorem dX11_count_98 : decode cX11_count 98 = .ok (.athrow, 1) := by decide +kernel
theorem dX11_numberOf_0 : decode cX11_numberOf 0 = .ok (.iload_n 2, 1) := by decide +kernel
theorem dX11_numberOf_1 : decode cX11_numberOf 1 = .ok (.invokestatic 98, 3) := by decide +kernel
theorem dX11_numberOf_4 : decode cX11_numberOf 4 = .ok (.iload_n 1, 1) := by decide +kernel
theorem dX11_numberOf_5 : decode cX11_numberOf 5 = .ok (.invokestatic 111, 3) := by decide +kernel
theorem dX11_numberOf_8 : decode cX11_numberOf 8 = .ok (.aload_n 0, 1) := by decide +kernel
theorem dX11_numberOf_9 : decode cX11_numberOf 9 = .ok (.getfield 10, 3) := by decide +kernel
theorem dX11_numberOf_12 : decode cX11_numberOf 12 = .ok (.iload_n 1, 1) := by decide +kernel
theorem dX11_numberOf_13 : decode cX11_numberOf 13 = .ok (.iload_n 2, 1) := by decide +kernel
theorem dX11_numberOf_14 : decode cX11_numberOf 14 = .ok (.invokevirtual 114, 3) := by decide +kernel
theorem dX11_numberOf_17 : decode cX11_numberOf 17 = .ok (.ireturn, 1) := by decide +kernel
