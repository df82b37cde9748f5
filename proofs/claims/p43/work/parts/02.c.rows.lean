theorem dX11_sizes_0 : decode cX11_sizes 0 = .ok (.iload_n 3, 1) := by decide +kernel
theorem dX11_sizes_1 : decode cX11_sizes 1 = .ok (.iconst 0, 1) := by decide +kernel
theorem dX11_sizes_2 : decode cX11_sizes 2 = .ok (.iconst 2, 1) := by decide +kernel
theorem dX11_sizes_3 : decode cX11_sizes 3 = .ok (.invokestatic 90, 3) := by decide +kernel
theorem dX11_sizes_6 : decode cX11_sizes 6 = .ok (.aload_n 0, 1) := by decide +kernel
theorem dX11_sizes_7 : decode cX11_sizes 7 = .ok (.iload_n 1, 1) := by decide +kernel
theorem dX11_sizes_8 : decode cX11_sizes 8 = .ok (.iload_n 2, 1) := by decide +kernel
theorem dX11_sizes_9 : decode cX11_sizes 9 = .ok (.invokevirtual 133, 3) := by decide +kernel
theorem dX11_sizes_12 : decode cX11_sizes 12 = .ok (.aload_n 0, 1) := by decide +kernel
theorem dX11_sizes_13 : decode cX11_sizes 13 = .ok (.getfield 29, 3) := by decide +kernel
theorem dX11_sizes_16 : decode cX11_sizes 16 = .ok (.invokevirtual 141, 3) := by decide +kernel
theorem dX11_sizes_19 : decode cX11_sizes 19 = .ok (.iload_n 3, 1) := by decide +kernel
theorem dX11_sizes_20 : decode cX11_sizes 20 = .ok (.ifCond .ne 11, 3) := by decide +kernel
theorem dX11_sizes_23 : decode cX11_sizes 23 = .ok (.aload_n 0, 1) := by decide +kernel
theorem dX11_sizes_24 : decode cX11_sizes 24 = .ok (.getfield 29, 3) := by decide +kernel
theorem dX11_sizes_27 : decode cX11_sizes 27 = .ok (.getfield 144, 3) := by decide +kernel
theorem dX11_sizes_30 : decode cX11_sizes 30 = .ok (.ireturn, 1) := by decide +kernel
theorem dX11_sizes_31 : decode cX11_sizes 31 = .ok (.iload_n 3, 1) := by decide +kernel
theorem dX11_sizes_32 : decode cX11_sizes 32 = .ok (.iconst 1, 1) := by decide +kernel
theorem dX11_sizes_33 : decode cX11_sizes 33 = .ok (.if_icmp .ne 13, 3) := by decide +kernel
theorem dX11_sizes_36 : decode cX11_sizes 36 = .ok (.aload_n 0, 1) := by decide +kernel
theorem dX11_sizes_37 : decode cX11_sizes 37 = .ok (.getfield 29, 3) := by decide +kernel
theorem dX11_sizes_40 : decode cX11_sizes 40 = .ok (.getfield 148, 3) := by decide +kernel
theorem dX11_sizes_43 : decode cX11_sizes 43 = .ok (.goto 10, 3) := by decide +kernel
theorem dX11_sizes_46 : decode cX11_sizes 46 = .ok (.aload_n 0, 1) := by decide +kernel
theorem dX11_sizes_47 : decode cX11_sizes 47 = .ok (.getfield 29, 3) := by decide +kernel
theorem dX11_sizes_50 : decode cX11_sizes 50 = .ok (.getfield 151, 3) := by decide +kernel
theorem dX11_sizes_53 : decode cX11_sizes 53 = .ok (.ireturn, 1) := by decide +kernel
theorem dX2_partAll_0 : decode cX2_partAll 0 = .ok (.iconst 0, 1) := by decide +kernel
theorem dX2_partAll_1 : decode cX2_partAll 1 = .ok (.istore_n 2, 1) := by decide +kernel
theorem dX2_partAll_2 : decode cX2_partAll 2 = .ok (.iload_n 2, 1) := by decide +kernel
theorem dX2_partAll_3 : decode cX2_partAll 3 = .ok (.bipush 36, 2) := by decide +kernel
theorem dX2_partAll_5 : decode cX2_partAll 5 = .ok (.if_icmp .ge 64, 3) := by decide +kernel
theorem dX2_partAll_8 : decode cX2_partAll 8 = .ok (.iload_n 2, 1) := by decide +kernel
theorem dX2_partAll_9 : decode cX2_partAll 9 = .ok (.iload_n 1, 1) := by decide +kernel
theorem dX2_partAll_10 : decode cX2_partAll 10 = .ok (.ifCond .eq 7, 3) := by decide +kernel
theorem dX2_partAll_13 : decode cX2_partAll 13 = .ok (.iconst 0, 1) := by decide +kernel
theorem dX2_partAll_14 : decode cX2_partAll 14 = .ok (.goto 4, 3) := by decide +kernel
theorem dX2_partAll_17 : decode cX2_partAll 17 = .ok (.iconst 1, 1) := by decide +kernel
theorem dX2_partAll_18 : decode cX2_partAll 18 = .ok (.invokestatic 54, 3) := by decide +kernel
theorem dX2_partAll_21 : decode cX2_partAll 21 = .ok (.ifCond .eq 14, 3) := by decide +kernel
theorem dX2_partAll_24 : decode cX2_partAll 24 = .ok (.aload_n 0, 1) := by decide +kernel
theorem dX2_partAll_25 : decode cX2_partAll 25 = .ok (.getfield 9, 3) := by decide +kernel
theorem dX2_partAll_28 : decode cX2_partAll 28 = .ok (.iload_n 2, 1) := by decide +kernel
theorem dX2_partAll_29 : decode cX2_partAll 29 = .ok (.bipush 36, 2) := by decide +kernel
theorem dX2_partAll_31 : decode cX2_partAll 31 = .ok (.iastore, 1) := by decide +kernel
theorem dX2_partAll_32 : decode cX2_partAll 32 = .ok (.goto 31, 3) := by decide +kernel
theorem dX2_partAll_35 : decode cX2_partAll 35 = .ok (.aload_n 0, 1) := by decide +kernel
theorem dX2_partAll_36 : decode cX2_partAll 36 = .ok (.getfield 9, 3) := by decide +kernel
theorem dX2_partAll_39 : decode cX2_partAll 39 = .ok (.iload_n 2, 1) := by decide +kernel
theorem dX2_partAll_40 : decode cX2_partAll 40 = .ok (.iload_n 2, 1) := by decide +kernel
theorem dX2_partAll_41 : decode cX2_partAll 41 = .ok (.iload_n 1, 1) := by decide +kernel
theorem dX2_partAll_42 : decode cX2_partAll 42 = .ok (.ifCond .eq 7, 3) := by decide +kernel
theorem dX2_partAll_45 : decode cX2_partAll 45 = .ok (.iconst 3, 1) := by decide +kernel
theorem dX2_partAll_46 : decode cX2_partAll 46 = .ok (.goto 4, 3) := by decide +kernel
theorem dX2_partAll_49 : decode cX2_partAll 49 = .ok (.iconst 2, 1) := by decide +kernel
theorem dX2_partAll_50 : decode cX2_partAll 50 = .ok (.invokestatic 54, 3) := by decide +kernel
theorem dX2_partAll_53 : decode cX2_partAll 53 = .ok (.ifCond .eq 8, 3) := by decide +kernel
theorem dX2_partAll_56 : decode cX2_partAll 56 = .ok (.bipush 37, 2) := by decide +kernel
theorem dX2_partAll_58 : decode cX2_partAll 58 = .ok (.goto 4, 3) := by decide +kernel
theorem dX2_partAll_61 : decode cX2_partAll 61 = .ok (.iload_n 2, 1) := by decide +kernel
theorem dX2_partAll_62 : decode cX2_partAll 62 = .ok (.iastore, 1) := by decide +kernel
theorem dX2_partAll_63 : decode cX2_partAll 63 = .ok (.iinc 2 1, 3) := by decide +kernel
theorem dX2_partAll_66 : decode cX2_partAll 66 = .ok (.goto (-64), 3) := by decide +kernel
theorem dX2_partAll_69 : decode cX2_partAll 69 = .ok (.aload_n 0, 1) := by decide +kernel
theorem dX2_partAll_70 : decode cX2_partAll 70 = .ok (.getfield 9, 3) := by decide +kernel
theorem dX2_partAll_73 : decode cX2_partAll 73 = .ok (.bipush 36, 2) := by decide +kernel
theorem dX2_partAll_75 : decode cX2_partAll 75 = .ok (.bipush 36, 2) := by decide +kernel
theorem dX2_partAll_77 : decode cX2_partAll 77 = .ok (.iastore, 1) := by decide +kernel
theorem dX2_partAll_78 : decode cX2_partAll 78 = .ok (.aload_n 0, 1) := by decide +kernel
theorem dX2_partAll_79 : decode cX2_partAll 79 = .ok (.getfield 9, 3) := by decide +kernel
theorem dX2_partAll_82 : decode cX2_partAll 82 = .ok (.bipush 37, 2) := by decide +kernel
theorem dX2_partAll_84 : decode cX2_partAll 84 = .ok (.bipush 37, 2) := by decide +kernel
theorem dX2_partAll_86 : decode cX2_partAll 86 = .ok (.iastore, 1) := by decide +kernel
theorem dX2_partAll_87 : decode cX2_partAll 87 = .ok (.return_, 1) := by decide +kernel
theorem dX11_clear_0 : decode cX11_clear 0 = .ok (.iconst 0, 1) := by decide +kernel
theorem dX11_clear_1 : decode cX11_clear 1 = .ok (.istore_n 1, 1) := by decide +kernel
theorem dX11_clear_2 : decode cX11_clear 2 = .ok (.iload_n 1, 1) := by decide +kernel
theorem dX11_clear_3 : decode cX11_clear 3 = .ok (.aload_n 0, 1) := by decide +kernel
theorem dX11_clear_4 : decode cX11_clear 4 = .ok (.arraylength, 1) := by decide +kernel
theorem dX11_clear_5 : decode cX11_clear 5 = .ok (.if_icmp .ge 13, 3) := by decide +kernel
theorem dX11_clear_8 : decode cX11_clear 8 = .ok (.aload_n 0, 1) := by decide +kernel
theorem dX11_clear_9 : decode cX11_clear 9 = .ok (.iload_n 1, 1) := by decide +kernel
theorem dX11_clear_10 : decode cX11_clear 10 = .ok (.iconst 0, 1) := by decide +kernel
theorem dX11_clear_11 : decode cX11_clear 11 = .ok (.bastore, 1) := by decide +kernel
theorem dX11_clear_12 : decode cX11_clear 12 = .ok (.iinc 1 1, 3) := by decide +kernel
theorem dX11_clear_15 : decode cX11_clear 15 = .ok (.goto (-13), 3) := by decide +kernel
theorem dX11_clear_18 : decode cX11_clear 18 = .ok (.return_, 1) := by decide +kernel
theorem dX8_enoughFor_0 : decode cX8_enoughFor 0 = .ok (.iload_n 1, 1) := by decide +kernel
theorem dX8_enoughFor_1 : decode cX8_enoughFor 1 = .ok (.ifCond .ne 10, 3) := by decide +kernel
theorem dX8_enoughFor_4 : decode cX8_enoughFor 4 = .ok (.aload_n 0, 1) := by decide +kernel
theorem dX8_enoughFor_5 : decode cX8_enoughFor 5 = .ok (.getfield 9, 3) := by decide +kernel
theorem dX8_enoughFor_8 : decode cX8_enoughFor 8 = .ok (.iload_n 2, 1) := by decide +kernel
theorem dX8_enoughFor_9 : decode cX8_enoughFor 9 = .ok (.iaload, 1) := by decide +kernel
theorem dX8_enoughFor_10 : decode cX8_enoughFor 10 = .ok (.ireturn, 1) := by decide +kernel
theorem dX8_enoughFor_11 : decode cX8_enoughFor 11 = .ok (.aload_n 0, 1) := by decide +kernel
theorem dX8_enoughFor_12 : decode cX8_enoughFor 12 = .ok (.getfield 15, 3) := by decide +kernel
theorem dX8_enoughFor_15 : decode cX8_enoughFor 15 = .ok (.iload_n 2, 1) := by decide +kernel
theorem dX8_enoughFor_16 : decode cX8_enoughFor 16 = .ok (.invokestatic 22, 3) := by decide +kernel
theorem dX8_enoughFor_19 : decode cX8_enoughFor 19 = .ok (.iaload, 1) := by decide +kernel
theorem dX8_enoughFor_20 : decode cX8_enoughFor 20 = .ok (.aload_n 0, 1) := by decide +kernel
theorem dX8_enoughFor_21 : decode cX8_enoughFor 21 = .ok (.getfield 15, 3) := by decide +kernel
theorem dX8_enoughFor_24 : decode cX8_enoughFor 24 = .ok (.iload_n 2, 1) := by decide +kernel
theorem dX8_enoughFor_25 : decode cX8_enoughFor 25 = .ok (.invokestatic 25, 3) := by decide +kernel
theorem dX8_enoughFor_28 : decode cX8_enoughFor 28 = .ok (.iaload, 1) := by decide +kernel
theorem dX8_enoughFor_29 : decode cX8_enoughFor 29 = .ok (.invokestatic 28, 3) := by decide +kernel
theorem dX8_enoughFor_32 : decode cX8_enoughFor 32 = .ok (.istore_n 3, 1) := by decide +kernel
theorem dX8_enoughFor_33 : decode cX8_enoughFor 33 = .ok (.iload_n 1, 1) := by decide +kernel
theorem dX8_enoughFor_34 : decode cX8_enoughFor 34 = .ok (.iconst 1, 1) := by decide +kernel
theorem dX8_enoughFor_35 : decode cX8_enoughFor 35 = .ok (.if_icmp .ne 7, 3) := by decide +kernel
theorem dX8_enoughFor_38 : decode cX8_enoughFor 38 = .ok (.iload_n 3, 1) := by decide +kernel
theorem dX8_enoughFor_39 : decode cX8_enoughFor 39 = .ok (.goto 13, 3) := by decide +kernel
theorem dX8_enoughFor_42 : decode cX8_enoughFor 42 = .ok (.aload_n 0, 1) := by decide +kernel
theorem dX8_enoughFor_43 : decode cX8_enoughFor 43 = .ok (.getfield 9, 3) := by decide +kernel
theorem dX8_enoughFor_46 : decode cX8_enoughFor 46 = .ok (.iload_n 2, 1) := by decide +kernel
theorem dX8_enoughFor_47 : decode cX8_enoughFor 47 = .ok (.iaload, 1) := by decide +kernel
theorem dX8_enoughFor_48 : decode cX8_enoughFor 48 = .ok (.iload_n 3, 1) := by decide +kernel
theorem dX8_enoughFor_49 : decode cX8_enoughFor 49 = .ok (.invokestatic 28, 3) := by decide +kernel
theorem dX8_enoughFor_52 : decode cX8_enoughFor 52 = .ok (.ireturn, 1) := by decide +kernel
theorem dX2_nextToOpen_0 : decode cX2_nextToOpen 0 = .ok (.iconst (-1), 1) := by decide +kernel
theorem dX2_nextToOpen_1 : decode cX2_nextToOpen 1 = .ok (.istore 4, 2) := by decide +kernel
theorem dX2_nextToOpen_3 : decode cX2_nextToOpen 3 = .ok (.sipush 1000, 3) := by decide +kernel
theorem dX2_nextToOpen_6 : decode cX2_nextToOpen 6 = .ok (.istore 5, 2) := by decide +kernel
theorem dX2_nextToOpen_8 : decode cX2_nextToOpen 8 = .ok (.iconst 0, 1) := by decide +kernel
theorem dX2_nextToOpen_9 : decode cX2_nextToOpen 9 = .ok (.istore 6, 2) := by decide +kernel
theorem dX2_nextToOpen_11 : decode cX2_nextToOpen 11 = .ok (.iload 6, 2) := by decide +kernel
theorem dX2_nextToOpen_13 : decode cX2_nextToOpen 13 = .ok (.bipush 60, 2) := by decide +kernel
theorem dX2_nextToOpen_15 : decode cX2_nextToOpen 15 = .ok (.if_icmp .ge 75, 3) := by decide +kernel
theorem dX2_nextToOpen_18 : decode cX2_nextToOpen 18 = .ok (.aload_n 0, 1) := by decide +kernel
theorem dX2_nextToOpen_19 : decode cX2_nextToOpen 19 = .ok (.getfield 15, 3) := by decide +kernel
theorem dX2_nextToOpen_22 : decode cX2_nextToOpen 22 = .ok (.iload 6, 2) := by decide +kernel
theorem dX2_nextToOpen_24 : decode cX2_nextToOpen 24 = .ok (.baload, 1) := by decide +kernel
theorem dX2_nextToOpen_25 : decode cX2_nextToOpen 25 = .ok (.ifCond .ne 27, 3) := by decide +kernel
theorem dX2_nextToOpen_28 : decode cX2_nextToOpen 28 = .ok (.aload_n 2, 1) := by decide +kernel
theorem dX2_nextToOpen_29 : decode cX2_nextToOpen 29 = .ok (.iload 6, 2) := by decide +kernel
theorem dX2_nextToOpen_31 : decode cX2_nextToOpen 31 = .ok (.invokestatic 38, 3) := by decide +kernel
theorem dX2_nextToOpen_34 : decode cX2_nextToOpen 34 = .ok (.baload, 1) := by decide +kernel
theorem dX2_nextToOpen_35 : decode cX2_nextToOpen 35 = .ok (.ifCond .ne 17, 3) := by decide +kernel
theorem dX2_nextToOpen_38 : decode cX2_nextToOpen 38 = .ok (.aload_n 2, 1) := by decide +kernel
theorem dX2_nextToOpen_39 : decode cX2_nextToOpen 39 = .ok (.iload 6, 2) := by decide +kernel
theorem dX2_nextToOpen_41 : decode cX2_nextToOpen 41 = .ok (.invokestatic 45, 3) := by decide +kernel
theorem dX2_nextToOpen_44 : decode cX2_nextToOpen 44 = .ok (.baload, 1) := by decide +kernel
theorem dX2_nextToOpen_45 : decode cX2_nextToOpen 45 = .ok (.ifCond .ne 7, 3) := by decide +kernel
theorem dX2_nextToOpen_48 : decode cX2_nextToOpen 48 = .ok (.iconst 1, 1) := by decide +kernel
theorem dX2_nextToOpen_49 : decode cX2_nextToOpen 49 = .ok (.goto 4, 3) := by decide +kernel
theorem dX2_nextToOpen_52 : decode cX2_nextToOpen 52 = .ok (.iconst 0, 1) := by decide +kernel
theorem dX2_nextToOpen_53 : decode cX2_nextToOpen 53 = .ok (.istore 7, 2) := by decide +kernel
theorem dX2_nextToOpen_55 : decode cX2_nextToOpen 55 = .ok (.aload_n 1, 1) := by decide +kernel
theorem dX2_nextToOpen_56 : decode cX2_nextToOpen 56 = .ok (.iload_n 3, 1) := by decide +kernel
theorem dX2_nextToOpen_57 : decode cX2_nextToOpen 57 = .ok (.iload 6, 2) := by decide +kernel
theorem dX2_nextToOpen_59 : decode cX2_nextToOpen 59 = .ok (.invokevirtual 48, 3) := by decide +kernel
theorem dX2_nextToOpen_62 : decode cX2_nextToOpen 62 = .ok (.istore 8, 2) := by decide +kernel
theorem dX2_nextToOpen_64 : decode cX2_nextToOpen 64 = .ok (.iload 7, 2) := by decide +kernel
theorem dX2_nextToOpen_66 : decode cX2_nextToOpen 66 = .ok (.ifCond .eq 18, 3) := by decide +kernel
theorem dX2_nextToOpen_69 : decode cX2_nextToOpen 69 = .ok (.iload 8, 2) := by decide +kernel
theorem dX2_nextToOpen_71 : decode cX2_nextToOpen 71 = .ok (.iload 5, 2) := by decide +kernel
theorem dX2_nextToOpen_73 : decode cX2_nextToOpen 73 = .ok (.if_icmp .ge 11, 3) := by decide +kernel
theorem dX2_nextToOpen_76 : decode cX2_nextToOpen 76 = .ok (.iload 8, 2) := by decide +kernel
theorem dX2_nextToOpen_78 : decode cX2_nextToOpen 78 = .ok (.istore 5, 2) := by decide +kernel
theorem dX2_nextToOpen_80 : decode cX2_nextToOpen 80 = .ok (.iload 6, 2) := by decide +kernel
theorem dX2_nextToOpen_82 : decode cX2_nextToOpen 82 = .ok (.istore 4, 2) := by decide +kernel
theorem dX2_nextToOpen_84 : decode cX2_nextToOpen 84 = .ok (.iinc 6 1, 3) := by decide +kernel
theorem dX2_nextToOpen_87 : decode cX2_nextToOpen 87 = .ok (.goto (-76), 3) := by decide +kernel
theorem dX2_nextToOpen_90 : decode cX2_nextToOpen 90 = .ok (.iload 4, 2) := by decide +kernel
theorem dX2_nextToOpen_92 : decode cX2_nextToOpen 92 = .ok (.ireturn, 1) := by decide +kernel
theorem dX2_rootOf_0 : decode cX2_rootOf 0 = .ok (.iload_n 1, 1) := by decide +kernel
theorem dX2_rootOf_1 : decode cX2_rootOf 1 = .ok (.istore_n 2, 1) := by decide +kernel
theorem dX2_rootOf_2 : decode cX2_rootOf 2 = .ok (.iconst 0, 1) := by decide +kernel
theorem dX2_rootOf_3 : decode cX2_rootOf 3 = .ok (.istore_n 3, 1) := by decide +kernel
theorem dX2_rootOf_4 : decode cX2_rootOf 4 = .ok (.iload_n 3, 1) := by decide +kernel
theorem dX2_rootOf_5 : decode cX2_rootOf 5 = .ok (.aload_n 0, 1) := by decide +kernel
theorem dX2_rootOf_6 : decode cX2_rootOf 6 = .ok (.getfield 9, 3) := by decide +kernel
theorem dX2_rootOf_9 : decode cX2_rootOf 9 = .ok (.arraylength, 1) := by decide +kernel
theorem dX2_rootOf_10 : decode cX2_rootOf 10 = .ok (.if_icmp .ge 26, 3) := by decide +kernel
theorem dX2_rootOf_13 : decode cX2_rootOf 13 = .ok (.aload_n 0, 1) := by decide +kernel
theorem dX2_rootOf_14 : decode cX2_rootOf 14 = .ok (.getfield 9, 3) := by decide +kernel
theorem dX2_rootOf_17 : decode cX2_rootOf 17 = .ok (.iload_n 2, 1) := by decide +kernel
theorem dX2_rootOf_18 : decode cX2_rootOf 18 = .ok (.iaload, 1) := by decide +kernel
theorem dX2_rootOf_19 : decode cX2_rootOf 19 = .ok (.iload_n 2, 1) := by decide +kernel
theorem dX2_rootOf_20 : decode cX2_rootOf 20 = .ok (.if_icmp .eq 16, 3) := by decide +kernel
theorem dX2_rootOf_23 : decode cX2_rootOf 23 = .ok (.aload_n 0, 1) := by decide +kernel
theorem dX2_rootOf_24 : decode cX2_rootOf 24 = .ok (.getfield 9, 3) := by decide +kernel
theorem dX2_rootOf_27 : decode cX2_rootOf 27 = .ok (.iload_n 2, 1) := by decide +kernel
theorem dX2_rootOf_28 : decode cX2_rootOf 28 = .ok (.iaload, 1) := by decide +kernel
theorem dX2_rootOf_29 : decode cX2_rootOf 29 = .ok (.istore_n 2, 1) := by decide +kernel
theorem dX2_rootOf_30 : decode cX2_rootOf 30 = .ok (.iinc 3 1, 3) := by decide +kernel
theorem dX2_rootOf_33 : decode cX2_rootOf 33 = .ok (.goto (-29), 3) := by decide +kernel
theorem dX2_rootOf_36 : decode cX2_rootOf 36 = .ok (.iload_n 2, 1) := by decide +kernel
theorem dX2_rootOf_37 : decode cX2_rootOf 37 = .ok (.ireturn, 1) := by decide +kernel
theorem dX2_byOpening_0 : decode cX2_byOpening 0 = .ok (.aload_n 0, 1) := by decide +kernel
theorem dX2_byOpening_1 : decode cX2_byOpening 1 = .ok (.iload 4, 2) := by decide +kernel
theorem dX2_byOpening_3 : decode cX2_byOpening 3 = .ok (.invokevirtual 26, 3) := by decide +kernel
theorem dX2_byOpening_6 : decode cX2_byOpening 6 = .ok (.aload_n 0, 1) := by decide +kernel
theorem dX2_byOpening_7 : decode cX2_byOpening 7 = .ok (.getfield 15, 3) := by decide +kernel
theorem dX2_byOpening_10 : decode cX2_byOpening 10 = .ok (.invokestatic 30, 3) := by decide +kernel
theorem dX2_byOpening_13 : decode cX2_byOpening 13 = .ok (.iconst 0, 1) := by decide +kernel
theorem dX2_byOpening_14 : decode cX2_byOpening 14 = .ok (.istore 5, 2) := by decide +kernel
theorem dX2_byOpening_16 : decode cX2_byOpening 16 = .ok (.iload 5, 2) := by decide +kernel
theorem dX2_byOpening_18 : decode cX2_byOpening 18 = .ok (.bipush 60, 2) := by decide +kernel
theorem dX2_byOpening_20 : decode cX2_byOpening 20 = .ok (.if_icmp .ge 83, 3) := by decide +kernel
theorem dX2_byOpening_23 : decode cX2_byOpening 23 = .ok (.aload_n 0, 1) := by decide +kernel
theorem dX2_byOpening_24 : decode cX2_byOpening 24 = .ok (.aload_n 1, 1) := by decide +kernel
theorem dX2_byOpening_25 : decode cX2_byOpening 25 = .ok (.aload_n 2, 1) := by decide +kernel
theorem dX2_byOpening_26 : decode cX2_byOpening 26 = .ok (.iload_n 3, 1) := by decide +kernel
theorem dX2_byOpening_27 : decode cX2_byOpening 27 = .ok (.invokevirtual 34, 3) := by decide +kernel
theorem dX2_byOpening_30 : decode cX2_byOpening 30 = .ok (.istore 6, 2) := by decide +kernel
theorem dX2_byOpening_32 : decode cX2_byOpening 32 = .ok (.iload 6, 2) := by decide +kernel
theorem dX2_byOpening_34 : decode cX2_byOpening 34 = .ok (.iconst (-1), 1) := by decide +kernel
theorem dX2_byOpening_35 : decode cX2_byOpening 35 = .ok (.if_icmp .ne 6, 3) := by decide +kernel
theorem dX2_byOpening_38 : decode cX2_byOpening 38 = .ok (.goto 65, 3) := by decide +kernel
theorem dX2_byOpening_41 : decode cX2_byOpening 41 = .ok (.aload_n 0, 1) := by decide +kernel
theorem dX2_byOpening_42 : decode cX2_byOpening 42 = .ok (.getfield 15, 3) := by decide +kernel
theorem dX2_byOpening_45 : decode cX2_byOpening 45 = .ok (.iload 6, 2) := by decide +kernel
theorem dX2_byOpening_47 : decode cX2_byOpening 47 = .ok (.iconst 1, 1) := by decide +kernel
theorem dX2_byOpening_48 : decode cX2_byOpening 48 = .ok (.bastore, 1) := by decide +kernel
theorem dX2_byOpening_49 : decode cX2_byOpening 49 = .ok (.aload_n 0, 1) := by decide +kernel
theorem dX2_byOpening_50 : decode cX2_byOpening 50 = .ok (.getfield 9, 3) := by decide +kernel
theorem dX2_byOpening_53 : decode cX2_byOpening 53 = .ok (.aload_n 0, 1) := by decide +kernel
theorem dX2_byOpening_54 : decode cX2_byOpening 54 = .ok (.iload 6, 2) := by decide +kernel
theorem dX2_byOpening_56 : decode cX2_byOpening 56 = .ok (.invokestatic 38, 3) := by decide +kernel
theorem dX2_byOpening_59 : decode cX2_byOpening 59 = .ok (.invokevirtual 42, 3) := by decide +kernel
theorem dX2_byOpening_62 : decode cX2_byOpening 62 = .ok (.aload_n 0, 1) := by decide +kernel
theorem dX2_byOpening_63 : decode cX2_byOpening 63 = .ok (.iload 6, 2) := by decide +kernel
theorem dX2_byOpening_65 : decode cX2_byOpening 65 = .ok (.invokestatic 45, 3) := by decide +kernel
theorem dX2_byOpening_68 : decode cX2_byOpening 68 = .ok (.invokevirtual 42, 3) := by decide +kernel
theorem dX2_byOpening_71 : decode cX2_byOpening 71 = .ok (.iastore, 1) := by decide +kernel
theorem dX2_byOpening_72 : decode cX2_byOpening 72 = .ok (.aload_n 0, 1) := by decide +kernel
theorem dX2_byOpening_73 : decode cX2_byOpening 73 = .ok (.bipush 36, 2) := by decide +kernel
theorem dX2_byOpening_75 : decode cX2_byOpening 75 = .ok (.invokevirtual 42, 3) := by decide +kernel
theorem dX2_byOpening_78 : decode cX2_byOpening 78 = .ok (.aload_n 0, 1) := by decide +kernel
theorem dX2_byOpening_79 : decode cX2_byOpening 79 = .ok (.bipush 37, 2) := by decide +kernel
theorem dX2_byOpening_81 : decode cX2_byOpening 81 = .ok (.invokevirtual 42, 3) := by decide +kernel
theorem dX2_byOpening_84 : decode cX2_byOpening 84 = .ok (.if_icmp .ne 13, 3) := by decide +kernel
theorem dX2_byOpening_87 : decode cX2_byOpening 87 = .ok (.aload_n 1, 1) := by decide +kernel
theorem dX2_byOpening_88 : decode cX2_byOpening 88 = .ok (.iload_n 3, 1) := by decide +kernel
theorem dX2_byOpening_89 : decode cX2_byOpening 89 = .ok (.iload 6, 2) := by decide +kernel
theorem dX2_byOpening_91 : decode cX2_byOpening 91 = .ok (.invokevirtual 48, 3) := by decide +kernel
theorem dX2_byOpening_94 : decode cX2_byOpening 94 = .ok (.iconst 1, 1) := by decide +kernel
theorem dX2_byOpening_95 : decode cX2_byOpening 95 = .ok (.iadd, 1) := by decide +kernel
theorem dX2_byOpening_96 : decode cX2_byOpening 96 = .ok (.ireturn, 1) := by decide +kernel
theorem dX2_byOpening_97 : decode cX2_byOpening 97 = .ok (.iinc 5 1, 3) := by decide +kernel
theorem dX2_byOpening_100 : decode cX2_byOpening 100 = .ok (.goto (-84), 3) := by decide +kernel
theorem dX2_byOpening_103 : decode cX2_byOpening 103 = .ok (.iconst (-1), 1) := by decide +kernel
theorem dX2_byOpening_104 : decode cX2_byOpening 104 = .ok (.ireturn, 1) := by decide +kernel
theorem dX11_edge_0 : decode cX11_edge 0 = .ok (.iload_n 1, 1) := by decide +kernel
theorem dX11_edge_1 : decode cX11_edge 1 = .ok (.invokestatic 111, 3) := by decide +kernel
theorem dX11_edge_4 : decode cX11_edge 4 = .ok (.aload_n 0, 1) := by decide +kernel
theorem dX11_edge_5 : decode cX11_edge 5 = .ok (.getfield 43, 3) := by decide +kernel
theorem dX11_edge_8 : decode cX11_edge 8 = .ok (.aload_n 0, 1) := by decide +kernel
theorem dX11_edge_9 : decode cX11_edge 9 = .ok (.getfield 10, 3) := by decide +kernel
theorem dX11_edge_12 : decode cX11_edge 12 = .ok (.aload_n 0, 1) := by decide +kernel
theorem dX11_edge_13 : decode cX11_edge 13 = .ok (.getfield 22, 3) := by decide +kernel
theorem dX11_edge_16 : decode cX11_edge 16 = .ok (.getfield 118, 3) := by decide +kernel
theorem dX11_edge_19 : decode cX11_edge 19 = .ok (.iload_n 1, 1) := by decide +kernel
theorem dX11_edge_20 : decode cX11_edge 20 = .ok (.iload_n 2, 1) := by decide +kernel
theorem dX11_edge_21 : decode cX11_edge 21 = .ok (.invokevirtual 157, 3) := by decide +kernel
theorem dX11_edge_24 : decode cX11_edge 24 = .ok (.ireturn, 1) := by decide +kernel
theorem dX3_forget_0 : decode cX3_forget 0 = .ok (.aload_n 0, 1) := by decide +kernel
theorem dX3_forget_1 : decode cX3_forget 1 = .ok (.getfield 9, 3) := by decide +kernel
theorem dX3_forget_4 : decode cX3_forget 4 = .ok (.iconst (-1), 1) := by decide +kernel
theorem dX3_forget_5 : decode cX3_forget 5 = .ok (.invokestatic 19, 3) := by decide +kernel
theorem dX3_forget_8 : decode cX3_forget 8 = .ok (.aload_n 0, 1) := by decide +kernel
theorem dX3_forget_9 : decode cX3_forget 9 = .ok (.getfield 15, 3) := by decide +kernel
theorem dX3_forget_12 : decode cX3_forget 12 = .ok (.invokestatic 25, 3) := by decide +kernel
theorem dX3_forget_15 : decode cX3_forget 15 = .ok (.return_, 1) := by decide +kernel
theorem dX3_offer_0 : decode cX3_offer 0 = .ok (.aload_n 0, 1) := by decide +kernel
theorem dX3_offer_1 : decode cX3_offer 1 = .ok (.getfield 9, 3) := by decide +kernel
theorem dX3_offer_4 : decode cX3_offer 4 = .ok (.iload_n 1, 1) := by decide +kernel
theorem dX3_offer_5 : decode cX3_offer 5 = .ok (.iaload, 1) := by decide +kernel
theorem dX3_offer_6 : decode cX3_offer 6 = .ok (.iconst (-1), 1) := by decide +kernel
theorem dX3_offer_7 : decode cX3_offer 7 = .ok (.if_icmp .eq 13, 3) := by decide +kernel
theorem dX3_offer_10 : decode cX3_offer 10 = .ok (.iload_n 2, 1) := by decide +kernel
theorem dX3_offer_11 : decode cX3_offer 11 = .ok (.aload_n 0, 1) := by decide +kernel
theorem dX3_offer_12 : decode cX3_offer 12 = .ok (.getfield 9, 3) := by decide +kernel
theorem dX3_offer_15 : decode cX3_offer 15 = .ok (.iload_n 1, 1) := by decide +kernel
theorem dX3_offer_16 : decode cX3_offer 16 = .ok (.iaload, 1) := by decide +kernel
theorem dX3_offer_17 : decode cX3_offer 17 = .ok (.if_icmp .ge 10, 3) := by decide +kernel
theorem dX3_offer_20 : decode cX3_offer 20 = .ok (.aload_n 0, 1) := by decide +kernel
theorem dX3_offer_21 : decode cX3_offer 21 = .ok (.getfield 9, 3) := by decide +kernel
theorem dX3_offer_24 : decode cX3_offer 24 = .ok (.iload_n 1, 1) := by decide +kernel
theorem dX3_offer_25 : decode cX3_offer 25 = .ok (.iload_n 2, 1) := by decide +kernel
theorem dX3_offer_26 : decode cX3_offer 26 = .ok (.iastore, 1) := by decide +kernel
theorem dX3_offer_27 : decode cX3_offer 27 = .ok (.return_, 1) := by decide +kernel
theorem dX2_startAtSide_0 : decode cX2_startAtSide 0 = .ok (.aload_n 0, 1) := by decide +kernel
theorem dX2_startAtSide_1 : decode cX2_startAtSide 1 = .ok (.getfield 22, 3) := by decide +kernel
theorem dX2_startAtSide_4 : decode cX2_startAtSide 4 = .ok (.invokevirtual 73, 3) := by decide +kernel
theorem dX2_startAtSide_7 : decode cX2_startAtSide 7 = .ok (.iconst 0, 1) := by decide +kernel
theorem dX2_startAtSide_8 : decode cX2_startAtSide 8 = .ok (.istore_n 3, 1) := by decide +kernel
theorem dX2_startAtSide_9 : decode cX2_startAtSide 9 = .ok (.iload_n 3, 1) := by decide +kernel
theorem dX2_startAtSide_10 : decode cX2_startAtSide 10 = .ok (.bipush 36, 2) := by decide +kernel
theorem dX2_startAtSide_12 : decode cX2_startAtSide 12 = .ok (.if_icmp .ge 32, 3) := by decide +kernel
theorem dX2_startAtSide_15 : decode cX2_startAtSide 15 = .ok (.aload_n 1, 1) := by decide +kernel
theorem dX2_startAtSide_16 : decode cX2_startAtSide 16 = .ok (.iload_n 3, 1) := by decide +kernel
theorem dX2_startAtSide_17 : decode cX2_startAtSide 17 = .ok (.baload, 1) := by decide +kernel
theorem dX2_startAtSide_18 : decode cX2_startAtSide 18 = .ok (.ifCond .ne 20, 3) := by decide +kernel
theorem dX2_startAtSide_21 : decode cX2_startAtSide 21 = .ok (.iload_n 3, 1) := by decide +kernel
theorem dX2_startAtSide_22 : decode cX2_startAtSide 22 = .ok (.iload_n 2, 1) := by decide +kernel
theorem dX2_startAtSide_23 : decode cX2_startAtSide 23 = .ok (.invokestatic 54, 3) := by decide +kernel
theorem dX2_startAtSide_26 : decode cX2_startAtSide 26 = .ok (.ifCond .eq 12, 3) := by decide +kernel
theorem dX2_startAtSide_29 : decode cX2_startAtSide 29 = .ok (.aload_n 0, 1) := by decide +kernel
theorem dX2_startAtSide_30 : decode cX2_startAtSide 30 = .ok (.getfield 22, 3) := by decide +kernel
theorem dX2_startAtSide_33 : decode cX2_startAtSide 33 = .ok (.iload_n 3, 1) := by decide +kernel
theorem dX2_startAtSide_34 : decode cX2_startAtSide 34 = .ok (.iconst 0, 1) := by decide +kernel
theorem dX2_startAtSide_35 : decode cX2_startAtSide 35 = .ok (.invokevirtual 76, 3) := by decide +kernel
theorem dX2_startAtSide_38 : decode cX2_startAtSide 38 = .ok (.iinc 3 1, 3) := by decide +kernel
theorem dX2_startAtSide_41 : decode cX2_startAtSide 41 = .ok (.goto (-32), 3) := by decide +kernel
theorem dX2_startAtSide_44 : decode cX2_startAtSide 44 = .ok (.return_, 1) := by decide +kernel
theorem dX3_settleNearest_0 : decode cX3_settleNearest 0 = .ok (.iconst (-1), 1) := by decide +kernel
theorem dX3_settleNearest_1 : decode cX3_settleNearest 1 = .ok (.istore_n 1, 1) := by decide +kernel
theorem dX3_settleNearest_2 : decode cX3_settleNearest 2 = .ok (.iconst 0, 1) := by decide +kernel
theorem dX3_settleNearest_3 : decode cX3_settleNearest 3 = .ok (.istore_n 2, 1) := by decide +kernel
theorem dX3_settleNearest_4 : decode cX3_settleNearest 4 = .ok (.iload_n 2, 1) := by decide +kernel
theorem dX3_settleNearest_5 : decode cX3_settleNearest 5 = .ok (.bipush 36, 2) := by decide +kernel
theorem dX3_settleNearest_7 : decode cX3_settleNearest 7 = .ok (.if_icmp .ge 60, 3) := by decide +kernel
theorem dX3_settleNearest_10 : decode cX3_settleNearest 10 = .ok (.aload_n 0, 1) := by decide +kernel
theorem dX3_settleNearest_11 : decode cX3_settleNearest 11 = .ok (.getfield 15, 3) := by decide +kernel
theorem dX3_settleNearest_14 : decode cX3_settleNearest 14 = .ok (.iload_n 2, 1) := by decide +kernel
theorem dX3_settleNearest_15 : decode cX3_settleNearest 15 = .ok (.baload, 1) := by decide +kernel
theorem dX3_settleNearest_16 : decode cX3_settleNearest 16 = .ok (.ifCond .ne 17, 3) := by decide +kernel
theorem dX3_settleNearest_19 : decode cX3_settleNearest 19 = .ok (.aload_n 0, 1) := by decide +kernel
theorem dX3_settleNearest_20 : decode cX3_settleNearest 20 = .ok (.getfield 9, 3) := by decide +kernel
theorem dX3_settleNearest_23 : decode cX3_settleNearest 23 = .ok (.iload_n 2, 1) := by decide +kernel
theorem dX3_settleNearest_24 : decode cX3_settleNearest 24 = .ok (.iaload, 1) := by decide +kernel
theorem dX3_settleNearest_25 : decode cX3_settleNearest 25 = .ok (.iconst (-1), 1) := by decide +kernel
theorem dX3_settleNearest_26 : decode cX3_settleNearest 26 = .ok (.if_icmp .eq 7, 3) := by decide +kernel
theorem dX3_settleNearest_29 : decode cX3_settleNearest 29 = .ok (.iconst 1, 1) := by decide +kernel
theorem dX3_settleNearest_30 : decode cX3_settleNearest 30 = .ok (.goto 4, 3) := by decide +kernel
theorem dX3_settleNearest_33 : decode cX3_settleNearest 33 = .ok (.iconst 0, 1) := by decide +kernel
theorem dX3_settleNearest_34 : decode cX3_settleNearest 34 = .ok (.istore_n 3, 1) := by decide +kernel
theorem dX3_settleNearest_35 : decode cX3_settleNearest 35 = .ok (.iload_n 3, 1) := by decide +kernel
theorem dX3_settleNearest_36 : decode cX3_settleNearest 36 = .ok (.ifCond .eq 25, 3) := by decide +kernel
theorem dX3_settleNearest_39 : decode cX3_settleNearest 39 = .ok (.iload_n 1, 1) := by decide +kernel
theorem dX3_settleNearest_40 : decode cX3_settleNearest 40 = .ok (.iconst (-1), 1) := by decide +kernel
theorem dX3_settleNearest_41 : decode cX3_settleNearest 41 = .ok (.if_icmp .eq 18, 3) := by decide +kernel
theorem dX3_settleNearest_44 : decode cX3_settleNearest 44 = .ok (.aload_n 0, 1) := by decide +kernel
theorem dX3_settleNearest_45 : decode cX3_settleNearest 45 = .ok (.getfield 9, 3) := by decide +kernel
theorem dX3_settleNearest_48 : decode cX3_settleNearest 48 = .ok (.iload_n 2, 1) := by decide +kernel
theorem dX3_settleNearest_49 : decode cX3_settleNearest 49 = .ok (.iaload, 1) := by decide +kernel
theorem dX3_settleNearest_50 : decode cX3_settleNearest 50 = .ok (.aload_n 0, 1) := by decide +kernel
theorem dX3_settleNearest_51 : decode cX3_settleNearest 51 = .ok (.getfield 9, 3) := by decide +kernel
theorem dX3_settleNearest_54 : decode cX3_settleNearest 54 = .ok (.iload_n 1, 1) := by decide +kernel
theorem dX3_settleNearest_55 : decode cX3_settleNearest 55 = .ok (.iaload, 1) := by decide +kernel
theorem dX3_settleNearest_56 : decode cX3_settleNearest 56 = .ok (.if_icmp .ge 5, 3) := by decide +kernel
theorem dX3_settleNearest_59 : decode cX3_settleNearest 59 = .ok (.iload_n 2, 1) := by decide +kernel
theorem dX3_settleNearest_60 : decode cX3_settleNearest 60 = .ok (.istore_n 1, 1) := by decide +kernel
theorem dX3_settleNearest_61 : decode cX3_settleNearest 61 = .ok (.iinc 2 1, 3) := by decide +kernel
theorem dX3_settleNearest_64 : decode cX3_settleNearest 64 = .ok (.goto (-60), 3) := by decide +kernel
theorem dX3_settleNearest_67 : decode cX3_settleNearest 67 = .ok (.iload_n 1, 1) := by decide +kernel
theorem dX3_settleNearest_68 : decode cX3_settleNearest 68 = .ok (.iconst (-1), 1) := by decide +kernel
theorem dX3_settleNearest_69 : decode cX3_settleNearest 69 = .ok (.if_icmp .eq 10, 3) := by decide +kernel
theorem dX3_settleNearest_72 : decode cX3_settleNearest 72 = .ok (.aload_n 0, 1) := by decide +kernel
theorem dX3_settleNearest_73 : decode cX3_settleNearest 73 = .ok (.getfield 15, 3) := by decide +kernel
theorem dX3_settleNearest_76 : decode cX3_settleNearest 76 = .ok (.iload_n 1, 1) := by decide +kernel
theorem dX3_settleNearest_77 : decode cX3_settleNearest 77 = .ok (.iconst 1, 1) := by decide +kernel
theorem dX3_settleNearest_78 : decode cX3_settleNearest 78 = .ok (.bastore, 1) := by decide +kernel
theorem dX3_settleNearest_79 : decode cX3_settleNearest 79 = .ok (.iload_n 1, 1) := by decide +kernel
theorem dX3_settleNearest_80 : decode cX3_settleNearest 80 = .ok (.ireturn, 1) := by decide +kernel
theorem dX2_offerBeside_0 : decode cX2_offerBeside 0 = .ok (.iconst 0, 1) := by decide +kernel
theorem dX2_offerBeside_1 : decode cX2_offerBeside 1 = .ok (.istore 5, 2) := by decide +kernel
theorem dX2_offerBeside_3 : decode cX2_offerBeside 3 = .ok (.iload 5, 2) := by decide +kernel
theorem dX2_offerBeside_5 : decode cX2_offerBeside 5 = .ok (.iconst 4, 1) := by decide +kernel
theorem dX2_offerBeside_6 : decode cX2_offerBeside 6 = .ok (.if_icmp .ge 69, 3) := by decide +kernel
theorem dX2_offerBeside_9 : decode cX2_offerBeside 9 = .ok (.iload 4, 2) := by decide +kernel
theorem dX2_offerBeside_11 : decode cX2_offerBeside 11 = .ok (.iload 5, 2) := by decide +kernel
theorem dX2_offerBeside_13 : decode cX2_offerBeside 13 = .ok (.invokestatic 80, 3) := by decide +kernel
theorem dX2_offerBeside_16 : decode cX2_offerBeside 16 = .ok (.istore 6, 2) := by decide +kernel
theorem dX2_offerBeside_18 : decode cX2_offerBeside 18 = .ok (.iload 6, 2) := by decide +kernel
theorem dX2_offerBeside_20 : decode cX2_offerBeside 20 = .ok (.iconst (-1), 1) := by decide +kernel
theorem dX2_offerBeside_21 : decode cX2_offerBeside 21 = .ok (.if_icmp .eq 48, 3) := by decide +kernel
theorem dX2_offerBeside_24 : decode cX2_offerBeside 24 = .ok (.aload_n 2, 1) := by decide +kernel
theorem dX2_offerBeside_25 : decode cX2_offerBeside 25 = .ok (.iload 6, 2) := by decide +kernel
theorem dX2_offerBeside_27 : decode cX2_offerBeside 27 = .ok (.baload, 1) := by decide +kernel
theorem dX2_offerBeside_28 : decode cX2_offerBeside 28 = .ok (.ifCond .ne 41, 3) := by decide +kernel
theorem dX2_offerBeside_31 : decode cX2_offerBeside 31 = .ok (.aload_n 1, 1) := by decide +kernel
theorem dX2_offerBeside_32 : decode cX2_offerBeside 32 = .ok (.iload_n 3, 1) := by decide +kernel
theorem dX2_offerBeside_33 : decode cX2_offerBeside 33 = .ok (.iload 4, 2) := by decide +kernel
theorem dX2_offerBeside_35 : decode cX2_offerBeside 35 = .ok (.iload 6, 2) := by decide +kernel
theorem dX2_offerBeside_37 : decode cX2_offerBeside 37 = .ok (.invokestatic 83, 3) := by decide +kernel
theorem dX2_offerBeside_40 : decode cX2_offerBeside 40 = .ok (.invokevirtual 48, 3) := by decide +kernel
theorem dX2_offerBeside_43 : decode cX2_offerBeside 43 = .ok (.istore 7, 2) := by decide +kernel
theorem dX2_offerBeside_45 : decode cX2_offerBeside 45 = .ok (.aload_n 0, 1) := by decide +kernel
theorem dX2_offerBeside_46 : decode cX2_offerBeside 46 = .ok (.getfield 22, 3) := by decide +kernel
theorem dX2_offerBeside_49 : decode cX2_offerBeside 49 = .ok (.iload 6, 2) := by decide +kernel
theorem dX2_offerBeside_51 : decode cX2_offerBeside 51 = .ok (.aload_n 0, 1) := by decide +kernel
theorem dX2_offerBeside_52 : decode cX2_offerBeside 52 = .ok (.getfield 22, 3) := by decide +kernel
theorem dX2_offerBeside_55 : decode cX2_offerBeside 55 = .ok (.getfield 66, 3) := by decide +kernel
theorem dX2_offerBeside_58 : decode cX2_offerBeside 58 = .ok (.iload 4, 2) := by decide +kernel
theorem dX2_offerBeside_60 : decode cX2_offerBeside 60 = .ok (.iaload, 1) := by decide +kernel
theorem dX2_offerBeside_61 : decode cX2_offerBeside 61 = .ok (.iload 7, 2) := by decide +kernel
theorem dX2_offerBeside_63 : decode cX2_offerBeside 63 = .ok (.invokestatic 86, 3) := by decide +kernel
theorem dX2_offerBeside_66 : decode cX2_offerBeside 66 = .ok (.invokevirtual 76, 3) := by decide +kernel
theorem dX2_offerBeside_69 : decode cX2_offerBeside 69 = .ok (.iinc 5 1, 3) := by decide +kernel
theorem dX2_offerBeside_72 : decode cX2_offerBeside 72 = .ok (.goto (-69), 3) := by decide +kernel
theorem dX2_offerBeside_75 : decode cX2_offerBeside 75 = .ok (.return_, 1) := by decide +kernel
theorem dX2_byBestWay_0 : decode cX2_byBestWay 0 = .ok (.aload_n 0, 1) := by decide +kernel
theorem dX2_byBestWay_1 : decode cX2_byBestWay 1 = .ok (.aload_n 2, 1) := by decide +kernel
theorem dX2_byBestWay_2 : decode cX2_byBestWay 2 = .ok (.iload 4, 2) := by decide +kernel
theorem dX2_byBestWay_4 : decode cX2_byBestWay 4 = .ok (.ifCond .eq 7, 3) := by decide +kernel
theorem dX2_byBestWay_7 : decode cX2_byBestWay 7 = .ok (.iconst 0, 1) := by decide +kernel
theorem dX2_byBestWay_8 : decode cX2_byBestWay 8 = .ok (.goto 4, 3) := by decide +kernel
theorem dX2_byBestWay_11 : decode cX2_byBestWay 11 = .ok (.iconst 1, 1) := by decide +kernel
theorem dX2_byBestWay_12 : decode cX2_byBestWay 12 = .ok (.invokevirtual 58, 3) := by decide +kernel
theorem dX2_byBestWay_15 : decode cX2_byBestWay 15 = .ok (.iconst 0, 1) := by decide +kernel
theorem dX2_byBestWay_16 : decode cX2_byBestWay 16 = .ok (.istore 5, 2) := by decide +kernel
theorem dX2_byBestWay_18 : decode cX2_byBestWay 18 = .ok (.iload 5, 2) := by decide +kernel
theorem dX2_byBestWay_20 : decode cX2_byBestWay 20 = .ok (.bipush 36, 2) := by decide +kernel
theorem dX2_byBestWay_22 : decode cX2_byBestWay 22 = .ok (.if_icmp .ge 67, 3) := by decide +kernel
theorem dX2_byBestWay_25 : decode cX2_byBestWay 25 = .ok (.aload_n 0, 1) := by decide +kernel
theorem dX2_byBestWay_26 : decode cX2_byBestWay 26 = .ok (.getfield 22, 3) := by decide +kernel
theorem dX2_byBestWay_29 : decode cX2_byBestWay 29 = .ok (.invokevirtual 62, 3) := by decide +kernel
theorem dX2_byBestWay_32 : decode cX2_byBestWay 32 = .ok (.istore 6, 2) := by decide +kernel
theorem dX2_byBestWay_34 : decode cX2_byBestWay 34 = .ok (.iload 6, 2) := by decide +kernel
theorem dX2_byBestWay_36 : decode cX2_byBestWay 36 = .ok (.iconst (-1), 1) := by decide +kernel
theorem dX2_byBestWay_37 : decode cX2_byBestWay 37 = .ok (.if_icmp .ne 6, 3) := by decide +kernel
theorem dX2_byBestWay_40 : decode cX2_byBestWay 40 = .ok (.goto 49, 3) := by decide +kernel
theorem dX2_byBestWay_43 : decode cX2_byBestWay 43 = .ok (.iload 6, 2) := by decide +kernel
theorem dX2_byBestWay_45 : decode cX2_byBestWay 45 = .ok (.iload 4, 2) := by decide +kernel
theorem dX2_byBestWay_47 : decode cX2_byBestWay 47 = .ok (.ifCond .eq 7, 3) := by decide +kernel
theorem dX2_byBestWay_50 : decode cX2_byBestWay 50 = .ok (.iconst 3, 1) := by decide +kernel
theorem dX2_byBestWay_51 : decode cX2_byBestWay 51 = .ok (.goto 4, 3) := by decide +kernel
theorem dX2_byBestWay_54 : decode cX2_byBestWay 54 = .ok (.iconst 2, 1) := by decide +kernel
theorem dX2_byBestWay_55 : decode cX2_byBestWay 55 = .ok (.invokestatic 54, 3) := by decide +kernel
theorem dX2_byBestWay_58 : decode cX2_byBestWay 58 = .ok (.ifCond .eq 16, 3) := by decide +kernel
theorem dX2_byBestWay_61 : decode cX2_byBestWay 61 = .ok (.aload_n 0, 1) := by decide +kernel
theorem dX2_byBestWay_62 : decode cX2_byBestWay 62 = .ok (.getfield 22, 3) := by decide +kernel
theorem dX2_byBestWay_65 : decode cX2_byBestWay 65 = .ok (.getfield 66, 3) := by decide +kernel
theorem dX2_byBestWay_68 : decode cX2_byBestWay 68 = .ok (.iload 6, 2) := by decide +kernel
theorem dX2_byBestWay_70 : decode cX2_byBestWay 70 = .ok (.iaload, 1) := by decide +kernel
theorem dX2_byBestWay_71 : decode cX2_byBestWay 71 = .ok (.iconst 1, 1) := by decide +kernel
theorem dX2_byBestWay_72 : decode cX2_byBestWay 72 = .ok (.iadd, 1) := by decide +kernel
theorem dX2_byBestWay_73 : decode cX2_byBestWay 73 = .ok (.ireturn, 1) := by decide +kernel
theorem dX2_byBestWay_74 : decode cX2_byBestWay 74 = .ok (.aload_n 0, 1) := by decide +kernel
theorem dX2_byBestWay_75 : decode cX2_byBestWay 75 = .ok (.aload_n 1, 1) := by decide +kernel
theorem dX2_byBestWay_76 : decode cX2_byBestWay 76 = .ok (.aload_n 2, 1) := by decide +kernel
theorem dX2_byBestWay_77 : decode cX2_byBestWay 77 = .ok (.iload_n 3, 1) := by decide +kernel
theorem dX2_byBestWay_78 : decode cX2_byBestWay 78 = .ok (.iload 6, 2) := by decide +kernel
theorem dX2_byBestWay_80 : decode cX2_byBestWay 80 = .ok (.invokevirtual 69, 3) := by decide +kernel
theorem dX2_byBestWay_83 : decode cX2_byBestWay 83 = .ok (.iinc 5 1, 3) := by decide +kernel
theorem dX2_byBestWay_86 : decode cX2_byBestWay 86 = .ok (.goto (-68), 3) := by decide +kernel
theorem dX2_byBestWay_89 : decode cX2_byBestWay 89 = .ok (.iconst (-1), 1) := by decide +kernel
theorem dX2_byBestWay_90 : decode cX2_byBestWay 90 = .ok (.ireturn, 1) := by decide +kernel
theorem dX11_edgeAnew_0 : decode cX11_edgeAnew 0 = .ok (.iload_n 1, 1) := by decide +kernel
theorem dX11_edgeAnew_1 : decode cX11_edgeAnew 1 = .ok (.invokestatic 111, 3) := by decide +kernel
theorem dX11_edgeAnew_4 : decode cX11_edgeAnew 4 = .ok (.aload_n 0, 1) := by decide +kernel
theorem dX11_edgeAnew_5 : decode cX11_edgeAnew 5 = .ok (.getfield 43, 3) := by decide +kernel
theorem dX11_edgeAnew_8 : decode cX11_edgeAnew 8 = .ok (.aload_n 0, 1) := by decide +kernel
theorem dX11_edgeAnew_9 : decode cX11_edgeAnew 9 = .ok (.getfield 10, 3) := by decide +kernel
theorem dX11_edgeAnew_12 : decode cX11_edgeAnew 12 = .ok (.aload_n 0, 1) := by decide +kernel
theorem dX11_edgeAnew_13 : decode cX11_edgeAnew 13 = .ok (.getfield 22, 3) := by decide +kernel
theorem dX11_edgeAnew_16 : decode cX11_edgeAnew 16 = .ok (.getfield 118, 3) := by decide +kernel
theorem dX11_edgeAnew_19 : decode cX11_edgeAnew 19 = .ok (.iload_n 1, 1) := by decide +kernel
theorem dX11_edgeAnew_20 : decode cX11_edgeAnew 20 = .ok (.iload_n 2, 1) := by decide +kernel
theorem dX11_edgeAnew_21 : decode cX11_edgeAnew 21 = .ok (.invokevirtual 161, 3) := by decide +kernel
theorem dX11_edgeAnew_24 : decode cX11_edgeAnew 24 = .ok (.ireturn, 1) := by decide +kernel
theorem dL_cheapest_0 : decode cL_cheapest 0 = .ok (.bipush 25, 2) := by decide +kernel
theorem dL_cheapest_2 : decode cL_cheapest 2 = .ok (.newarray .int, 2) := by decide +kernel
theorem dL_cheapest_4 : decode cL_cheapest 4 = .ok (.astore 6, 2) := by decide +kernel
theorem dL_cheapest_6 : decode cL_cheapest 6 = .ok (.iconst 0, 1) := by decide +kernel
theorem dL_cheapest_7 : decode cL_cheapest 7 = .ok (.istore 7, 2) := by decide +kernel
theorem dL_cheapest_9 : decode cL_cheapest 9 = .ok (.iload 7, 2) := by decide +kernel
theorem dL_cheapest_11 : decode cL_cheapest 11 = .ok (.bipush 25, 2) := by decide +kernel
theorem dL_cheapest_13 : decode cL_cheapest 13 = .ok (.if_icmp .ge 45, 3) := by decide +kernel
theorem dL_cheapest_16 : decode cL_cheapest 16 = .ok (.aload 6, 2) := by decide +kernel
theorem dL_cheapest_18 : decode cL_cheapest 18 = .ok (.iload 7, 2) := by decide +kernel
theorem dL_cheapest_20 : decode cL_cheapest 20 = .ok (.iload 7, 2) := by decide +kernel
theorem dL_cheapest_22 : decode cL_cheapest 22 = .ok (.iconst 5, 1) := by decide +kernel
theorem dL_cheapest_23 : decode cL_cheapest 23 = .ok (.if_icmp .ge 26, 3) := by decide +kernel
theorem dL_cheapest_26 : decode cL_cheapest 26 = .ok (.aload_n 0, 1) := by decide +kernel
theorem dL_cheapest_27 : decode cL_cheapest 27 = .ok (.aload_n 1, 1) := by decide +kernel
theorem dL_cheapest_28 : decode cL_cheapest 28 = .ok (.lload_n 2, 1) := by decide +kernel
theorem dL_cheapest_29 : decode cL_cheapest 29 = .ok (.iload 4, 2) := by decide +kernel
theorem dL_cheapest_31 : decode cL_cheapest 31 = .ok (.iload 5, 2) := by decide +kernel
theorem dL_cheapest_33 : decode cL_cheapest 33 = .ok (.iload 7, 2) := by decide +kernel
theorem dL_cheapest_35 : decode cL_cheapest 35 = .ok (.invokestatic 40, 3) := by decide +kernel
theorem dL_cheapest_38 : decode cL_cheapest 38 = .ok (.ifCond .eq 7, 3) := by decide +kernel
theorem dL_cheapest_41 : decode cL_cheapest 41 = .ok (.iconst 1, 1) := by decide +kernel
theorem dL_cheapest_42 : decode cL_cheapest 42 = .ok (.goto 9, 3) := by decide +kernel
theorem dL_cheapest_45 : decode cL_cheapest 45 = .ok (.iconst 0, 1) := by decide +kernel
theorem dL_cheapest_46 : decode cL_cheapest 46 = .ok (.goto 5, 3) := by decide +kernel
theorem dL_cheapest_49 : decode cL_cheapest 49 = .ok (.bipush 99, 2) := by decide +kernel
theorem dL_cheapest_51 : decode cL_cheapest 51 = .ok (.iastore, 1) := by decide +kernel
theorem dL_cheapest_52 : decode cL_cheapest 52 = .ok (.iinc 7 1, 3) := by decide +kernel
theorem dL_cheapest_55 : decode cL_cheapest 55 = .ok (.goto (-46), 3) := by decide +kernel
theorem dL_cheapest_58 : decode cL_cheapest 58 = .ok (.iconst 1, 1) := by decide +kernel
theorem dL_cheapest_59 : decode cL_cheapest 59 = .ok (.istore 7, 2) := by decide +kernel
theorem dL_cheapest_61 : decode cL_cheapest 61 = .ok (.iload 7, 2) := by decide +kernel
theorem dL_cheapest_63 : decode cL_cheapest 63 = .ok (.ifCond .eq 285, 3) := by decide +kernel
theorem dL_cheapest_66 : decode cL_cheapest 66 = .ok (.iconst 0, 1) := by decide +kernel
theorem dL_cheapest_67 : decode cL_cheapest 67 = .ok (.istore 7, 2) := by decide +kernel
theorem dL_cheapest_69 : decode cL_cheapest 69 = .ok (.iconst 0, 1) := by decide +kernel
theorem dL_cheapest_70 : decode cL_cheapest 70 = .ok (.istore 8, 2) := by decide +kernel
theorem dL_cheapest_72 : decode cL_cheapest 72 = .ok (.iload 8, 2) := by decide +kernel
theorem dL_cheapest_74 : decode cL_cheapest 74 = .ok (.bipush 25, 2) := by decide +kernel
theorem dL_cheapest_76 : decode cL_cheapest 76 = .ok (.if_icmp .ge 269, 3) := by decide +kernel
theorem dL_cheapest_79 : decode cL_cheapest 79 = .ok (.iconst 0, 1) := by decide +kernel
theorem dL_cheapest_80 : decode cL_cheapest 80 = .ok (.istore 9, 2) := by decide +kernel
theorem dL_cheapest_82 : decode cL_cheapest 82 = .ok (.iload 9, 2) := by decide +kernel
theorem dL_cheapest_84 : decode cL_cheapest 84 = .ok (.iconst 4, 1) := by decide +kernel
theorem dL_cheapest_85 : decode cL_cheapest 85 = .ok (.if_icmp .ge 254, 3) := by decide +kernel
theorem dL_cheapest_88 : decode cL_cheapest 88 = .ok (.iload 8, 2) := by decide +kernel
theorem dL_cheapest_90 : decode cL_cheapest 90 = .ok (.iconst 5, 1) := by decide +kernel
theorem dL_cheapest_91 : decode cL_cheapest 91 = .ok (.idiv, 1) := by decide +kernel
theorem dL_cheapest_92 : decode cL_cheapest 92 = .ok (.istore 10, 2) := by decide +kernel
theorem dL_cheapest_94 : decode cL_cheapest 94 = .ok (.iload 8, 2) := by decide +kernel
theorem dL_cheapest_96 : decode cL_cheapest 96 = .ok (.iconst 5, 1) := by decide +kernel
theorem dL_cheapest_97 : decode cL_cheapest 97 = .ok (.irem, 1) := by decide +kernel
theorem dL_cheapest_98 : decode cL_cheapest 98 = .ok (.istore 11, 2) := by decide +kernel
theorem dL_cheapest_100 : decode cL_cheapest 100 = .ok (.iload 9, 2) := by decide +kernel
theorem dL_cheapest_102 : decode cL_cheapest 102 = .ok (.ifCond .ne 16, 3) := by decide +kernel
theorem dL_cheapest_105 : decode cL_cheapest 105 = .ok (.iload 10, 2) := by decide +kernel
theorem dL_cheapest_107 : decode cL_cheapest 107 = .ok (.ifCond .le 7, 3) := by decide +kernel
theorem dL_cheapest_110 : decode cL_cheapest 110 = .ok (.iconst 1, 1) := by decide +kernel
theorem dL_cheapest_111 : decode cL_cheapest 111 = .ok (.goto 57, 3) := by decide +kernel
theorem dL_cheapest_114 : decode cL_cheapest 114 = .ok (.iconst 0, 1) := by decide +kernel
theorem dL_cheapest_115 : decode cL_cheapest 115 = .ok (.goto 53, 3) := by decide +kernel
theorem dL_cheapest_118 : decode cL_cheapest 118 = .ok (.iload 9, 2) := by decide +kernel
theorem dL_cheapest_120 : decode cL_cheapest 120 = .ok (.iconst 1, 1) := by decide +kernel
theorem dL_cheapest_121 : decode cL_cheapest 121 = .ok (.if_icmp .ne 17, 3) := by decide +kernel
theorem dL_cheapest_124 : decode cL_cheapest 124 = .ok (.iload 10, 2) := by decide +kernel
theorem dL_cheapest_126 : decode cL_cheapest 126 = .ok (.iconst 4, 1) := by decide +kernel
theorem dL_cheapest_127 : decode cL_cheapest 127 = .ok (.if_icmp .ge 7, 3) := by decide +kernel
theorem dL_cheapest_130 : decode cL_cheapest 130 = .ok (.iconst 1, 1) := by decide +kernel
theorem dL_cheapest_131 : decode cL_cheapest 131 = .ok (.goto 37, 3) := by decide +kernel
theorem dL_cheapest_134 : decode cL_cheapest 134 = .ok (.iconst 0, 1) := by decide +kernel
theorem dL_cheapest_135 : decode cL_cheapest 135 = .ok (.goto 33, 3) := by decide +kernel
theorem dL_cheapest_138 : decode cL_cheapest 138 = .ok (.iload 9, 2) := by decide +kernel
theorem dL_cheapest_140 : decode cL_cheapest 140 = .ok (.iconst 2, 1) := by decide +kernel
theorem dL_cheapest_141 : decode cL_cheapest 141 = .ok (.if_icmp .ne 16, 3) := by decide +kernel
theorem dL_cheapest_144 : decode cL_cheapest 144 = .ok (.iload 11, 2) := by decide +kernel
theorem dL_cheapest_146 : decode cL_cheapest 146 = .ok (.ifCond .le 7, 3) := by decide +kernel
theorem dL_cheapest_149 : decode cL_cheapest 149 = .ok (.iconst 1, 1) := by decide +kernel
theorem dL_cheapest_150 : decode cL_cheapest 150 = .ok (.goto 18, 3) := by decide +kernel
theorem dL_cheapest_153 : decode cL_cheapest 153 = .ok (.iconst 0, 1) := by decide +kernel
theorem dL_cheapest_154 : decode cL_cheapest 154 = .ok (.goto 14, 3) := by decide +kernel
theorem dL_cheapest_157 : decode cL_cheapest 157 = .ok (.iload 11, 2) := by decide +kernel
theorem dL_cheapest_159 : decode cL_cheapest 159 = .ok (.iconst 4, 1) := by decide +kernel
theorem dL_cheapest_160 : decode cL_cheapest 160 = .ok (.if_icmp .ge 7, 3) := by decide +kernel
theorem dL_cheapest_163 : decode cL_cheapest 163 = .ok (.iconst 1, 1) := by decide +kernel
theorem dL_cheapest_164 : decode cL_cheapest 164 = .ok (.goto 4, 3) := by decide +kernel
theorem dL_cheapest_167 : decode cL_cheapest 167 = .ok (.iconst 0, 1) := by decide +kernel
theorem dL_cheapest_168 : decode cL_cheapest 168 = .ok (.istore 12, 2) := by decide +kernel
theorem dL_cheapest_170 : decode cL_cheapest 170 = .ok (.iload 9, 2) := by decide +kernel
theorem dL_cheapest_172 : decode cL_cheapest 172 = .ok (.ifCond .ne 13, 3) := by decide +kernel
theorem dL_cheapest_175 : decode cL_cheapest 175 = .ok (.iconst 5, 1) := by decide +kernel
theorem dL_cheapest_176 : decode cL_cheapest 176 = .ok (.iload 10, 2) := by decide +kernel
theorem dL_cheapest_178 : decode cL_cheapest 178 = .ok (.imul, 1) := by decide +kernel
theorem dL_cheapest_179 : decode cL_cheapest 179 = .ok (.iload 11, 2) := by decide +kernel
theorem dL_cheapest_181 : decode cL_cheapest 181 = .ok (.iadd, 1) := by decide +kernel
theorem dL_cheapest_182 : decode cL_cheapest 182 = .ok (.goto 52, 3) := by decide +kernel
theorem dL_cheapest_185 : decode cL_cheapest 185 = .ok (.iload 9, 2) := by decide +kernel
theorem dL_cheapest_187 : decode cL_cheapest 187 = .ok (.iconst 1, 1) := by decide +kernel
theorem dL_cheapest_188 : decode cL_cheapest 188 = .ok (.if_icmp .ne 15, 3) := by decide +kernel
theorem dL_cheapest_191 : decode cL_cheapest 191 = .ok (.iconst 5, 1) := by decide +kernel
theorem dL_cheapest_192 : decode cL_cheapest 192 = .ok (.iload 10, 2) := by decide +kernel
theorem dL_cheapest_194 : decode cL_cheapest 194 = .ok (.imul, 1) := by decide +kernel
theorem dL_cheapest_195 : decode cL_cheapest 195 = .ok (.iconst 5, 1) := by decide +kernel
theorem dL_cheapest_196 : decode cL_cheapest 196 = .ok (.iadd, 1) := by decide +kernel
theorem dL_cheapest_197 : decode cL_cheapest 197 = .ok (.iload 11, 2) := by decide +kernel
theorem dL_cheapest_199 : decode cL_cheapest 199 = .ok (.iadd, 1) := by decide +kernel
theorem dL_cheapest_200 : decode cL_cheapest 200 = .ok (.goto 34, 3) := by decide +kernel
theorem dL_cheapest_203 : decode cL_cheapest 203 = .ok (.iload 9, 2) := by decide +kernel
theorem dL_cheapest_205 : decode cL_cheapest 205 = .ok (.iconst 2, 1) := by decide +kernel
theorem dL_cheapest_206 : decode cL_cheapest 206 = .ok (.if_icmp .ne 17, 3) := by decide +kernel
theorem dL_cheapest_209 : decode cL_cheapest 209 = .ok (.bipush 30, 2) := by decide +kernel
theorem dL_cheapest_211 : decode cL_cheapest 211 = .ok (.bipush 6, 2) := by decide +kernel
theorem dL_cheapest_213 : decode cL_cheapest 213 = .ok (.iload 10, 2) := by decide +kernel
theorem dL_cheapest_215 : decode cL_cheapest 215 = .ok (.imul, 1) := by decide +kernel
theorem dL_cheapest_216 : decode cL_cheapest 216 = .ok (.iadd, 1) := by decide +kernel
theorem dL_cheapest_217 : decode cL_cheapest 217 = .ok (.iload 11, 2) := by decide +kernel
theorem dL_cheapest_219 : decode cL_cheapest 219 = .ok (.iadd, 1) := by decide +kernel
theorem dL_cheapest_220 : decode cL_cheapest 220 = .ok (.goto 14, 3) := by decide +kernel
theorem dL_cheapest_223 : decode cL_cheapest 223 = .ok (.bipush 31, 2) := by decide +kernel
theorem dL_cheapest_225 : decode cL_cheapest 225 = .ok (.bipush 6, 2) := by decide +kernel
theorem dL_cheapest_227 : decode cL_cheapest 227 = .ok (.iload 10, 2) := by decide +kernel
theorem dL_cheapest_229 : decode cL_cheapest 229 = .ok (.imul, 1) := by decide +kernel
theorem dL_cheapest_230 : decode cL_cheapest 230 = .ok (.iadd, 1) := by decide +kernel
theorem dL_cheapest_231 : decode cL_cheapest 231 = .ok (.iload 11, 2) := by decide +kernel
theorem dL_cheapest_233 : decode cL_cheapest 233 = .ok (.iadd, 1) := by decide +kernel
theorem dL_cheapest_234 : decode cL_cheapest 234 = .ok (.istore 13, 2) := by decide +kernel
theorem dL_cheapest_236 : decode cL_cheapest 236 = .ok (.iload 9, 2) := by decide +kernel
theorem dL_cheapest_238 : decode cL_cheapest 238 = .ok (.ifCond .ne 10, 3) := by decide +kernel
theorem dL_cheapest_241 : decode cL_cheapest 241 = .ok (.iload 8, 2) := by decide +kernel
theorem dL_cheapest_243 : decode cL_cheapest 243 = .ok (.iconst 5, 1) := by decide +kernel
theorem dL_cheapest_244 : decode cL_cheapest 244 = .ok (.isub, 1) := by decide +kernel
theorem dL_cheapest_245 : decode cL_cheapest 245 = .ok (.goto 33, 3) := by decide +kernel
theorem dL_cheapest_248 : decode cL_cheapest 248 = .ok (.iload 9, 2) := by decide +kernel
theorem dL_cheapest_250 : decode cL_cheapest 250 = .ok (.iconst 1, 1) := by decide +kernel
theorem dL_cheapest_251 : decode cL_cheapest 251 = .ok (.if_icmp .ne 10, 3) := by decide +kernel
theorem dL_cheapest_254 : decode cL_cheapest 254 = .ok (.iload 8, 2) := by decide +kernel
theorem dL_cheapest_256 : decode cL_cheapest 256 = .ok (.iconst 5, 1) := by decide +kernel
theorem dL_cheapest_257 : decode cL_cheapest 257 = .ok (.iadd, 1) := by decide +kernel
theorem dL_cheapest_258 : decode cL_cheapest 258 = .ok (.goto 20, 3) := by decide +kernel
theorem dL_cheapest_261 : decode cL_cheapest 261 = .ok (.iload 9, 2) := by decide +kernel
theorem dL_cheapest_263 : decode cL_cheapest 263 = .ok (.iconst 2, 1) := by decide +kernel
theorem dL_cheapest_264 : decode cL_cheapest 264 = .ok (.if_icmp .ne 10, 3) := by decide +kernel
theorem dL_cheapest_267 : decode cL_cheapest 267 = .ok (.iload 8, 2) := by decide +kernel
theorem dL_cheapest_269 : decode cL_cheapest 269 = .ok (.iconst 1, 1) := by decide +kernel
theorem dL_cheapest_270 : decode cL_cheapest 270 = .ok (.isub, 1) := by decide +kernel
theorem dL_cheapest_271 : decode cL_cheapest 271 = .ok (.goto 7, 3) := by decide +kernel
theorem dL_cheapest_274 : decode cL_cheapest 274 = .ok (.iload 8, 2) := by decide +kernel
theorem dL_cheapest_276 : decode cL_cheapest 276 = .ok (.iconst 1, 1) := by decide +kernel
theorem dL_cheapest_277 : decode cL_cheapest 277 = .ok (.iadd, 1) := by decide +kernel
theorem dL_cheapest_278 : decode cL_cheapest 278 = .ok (.istore 14, 2) := by decide +kernel
theorem dL_cheapest_280 : decode cL_cheapest 280 = .ok (.iload 12, 2) := by decide +kernel
theorem dL_cheapest_282 : decode cL_cheapest 282 = .ok (.ifCond .eq 51, 3) := by decide +kernel
theorem dL_cheapest_285 : decode cL_cheapest 285 = .ok (.aload 6, 2) := by decide +kernel
theorem dL_cheapest_287 : decode cL_cheapest 287 = .ok (.iload 8, 2) := by decide +kernel
theorem dL_cheapest_289 : decode cL_cheapest 289 = .ok (.iaload, 1) := by decide +kernel
theorem dL_cheapest_290 : decode cL_cheapest 290 = .ok (.aload_n 0, 1) := by decide +kernel
theorem dL_cheapest_291 : decode cL_cheapest 291 = .ok (.aload_n 1, 1) := by decide +kernel
theorem dL_cheapest_292 : decode cL_cheapest 292 = .ok (.lload_n 2, 1) := by decide +kernel
theorem dL_cheapest_293 : decode cL_cheapest 293 = .ok (.iload 4, 2) := by decide +kernel
theorem dL_cheapest_295 : decode cL_cheapest 295 = .ok (.iload 5, 2) := by decide +kernel
theorem dL_cheapest_297 : decode cL_cheapest 297 = .ok (.iload 13, 2) := by decide +kernel
theorem dL_cheapest_299 : decode cL_cheapest 299 = .ok (.invokestatic 40, 3) := by decide +kernel
theorem dL_cheapest_302 : decode cL_cheapest 302 = .ok (.ifCond .eq 7, 3) := by decide +kernel
theorem dL_cheapest_305 : decode cL_cheapest 305 = .ok (.iconst 1, 1) := by decide +kernel
theorem dL_cheapest_306 : decode cL_cheapest 306 = .ok (.goto 4, 3) := by decide +kernel
theorem dL_cheapest_309 : decode cL_cheapest 309 = .ok (.iconst 0, 1) := by decide +kernel
theorem dL_cheapest_310 : decode cL_cheapest 310 = .ok (.iadd, 1) := by decide +kernel
theorem dL_cheapest_311 : decode cL_cheapest 311 = .ok (.istore 15, 2) := by decide +kernel
theorem dL_cheapest_313 : decode cL_cheapest 313 = .ok (.iload 15, 2) := by decide +kernel
theorem dL_cheapest_315 : decode cL_cheapest 315 = .ok (.aload 6, 2) := by decide +kernel
theorem dL_cheapest_317 : decode cL_cheapest 317 = .ok (.iload 14, 2) := by decide +kernel
theorem dL_cheapest_319 : decode cL_cheapest 319 = .ok (.iaload, 1) := by decide +kernel
theorem dL_cheapest_320 : decode cL_cheapest 320 = .ok (.if_icmp .ge 13, 3) := by decide +kernel
theorem dL_cheapest_323 : decode cL_cheapest 323 = .ok (.aload 6, 2) := by decide +kernel
theorem dL_cheapest_325 : decode cL_cheapest 325 = .ok (.iload 14, 2) := by decide +kernel
theorem dL_cheapest_327 : decode cL_cheapest 327 = .ok (.iload 15, 2) := by decide +kernel
theorem dL_cheapest_329 : decode cL_cheapest 329 = .ok (.iastore, 1) := by decide +kernel
theorem dL_cheapest_330 : decode cL_cheapest 330 = .ok (.iconst 1, 1) := by decide +kernel
theorem dL_cheapest_331 : decode cL_cheapest 331 = .ok (.istore 7, 2) := by decide +kernel
theorem dL_cheapest_333 : decode cL_cheapest 333 = .ok (.iinc 9 1, 3) := by decide +kernel
theorem dL_cheapest_336 : decode cL_cheapest 336 = .ok (.goto (-254), 3) := by decide +kernel
theorem dL_cheapest_339 : decode cL_cheapest 339 = .ok (.iinc 8 1, 3) := by decide +kernel
theorem dL_cheapest_342 : decode cL_cheapest 342 = .ok (.goto (-270), 3) := by decide +kernel
theorem dL_cheapest_345 : decode cL_cheapest 345 = .ok (.goto (-284), 3) := by decide +kernel
theorem dL_cheapest_348 : decode cL_cheapest 348 = .ok (.bipush 99, 2) := by decide +kernel
theorem dL_cheapest_350 : decode cL_cheapest 350 = .ok (.istore 8, 2) := by decide +kernel
theorem dL_cheapest_352 : decode cL_cheapest 352 = .ok (.iconst 0, 1) := by decide +kernel
theorem dL_cheapest_353 : decode cL_cheapest 353 = .ok (.istore 9, 2) := by decide +kernel
theorem dL_cheapest_355 : decode cL_cheapest 355 = .ok (.iload 9, 2) := by decide +kernel
theorem dL_cheapest_357 : decode cL_cheapest 357 = .ok (.iconst 5, 1) := by decide +kernel
theorem dL_cheapest_358 : decode cL_cheapest 358 = .ok (.if_icmp .ge 54, 3) := by decide +kernel
theorem dL_cheapest_361 : decode cL_cheapest 361 = .ok (.aload 6, 2) := by decide +kernel
theorem dL_cheapest_363 : decode cL_cheapest 363 = .ok (.bipush 20, 2) := by decide +kernel
theorem dL_cheapest_365 : decode cL_cheapest 365 = .ok (.iload 9, 2) := by decide +kernel
theorem dL_cheapest_367 : decode cL_cheapest 367 = .ok (.iadd, 1) := by decide +kernel
theorem dL_cheapest_368 : decode cL_cheapest 368 = .ok (.iaload, 1) := by decide +kernel
theorem dL_cheapest_369 : decode cL_cheapest 369 = .ok (.aload_n 0, 1) := by decide +kernel
theorem dL_cheapest_370 : decode cL_cheapest 370 = .ok (.aload_n 1, 1) := by decide +kernel
theorem dL_cheapest_371 : decode cL_cheapest 371 = .ok (.lload_n 2, 1) := by decide +kernel
theorem dL_cheapest_372 : decode cL_cheapest 372 = .ok (.iload 4, 2) := by decide +kernel
theorem dL_cheapest_374 : decode cL_cheapest 374 = .ok (.iload 5, 2) := by decide +kernel
theorem dL_cheapest_376 : decode cL_cheapest 376 = .ok (.bipush 25, 2) := by decide +kernel
theorem dL_cheapest_378 : decode cL_cheapest 378 = .ok (.iload 9, 2) := by decide +kernel
theorem dL_cheapest_380 : decode cL_cheapest 380 = .ok (.iadd, 1) := by decide +kernel
theorem dL_cheapest_381 : decode cL_cheapest 381 = .ok (.invokestatic 40, 3) := by decide +kernel
theorem dL_cheapest_384 : decode cL_cheapest 384 = .ok (.ifCond .eq 7, 3) := by decide +kernel
theorem dL_cheapest_387 : decode cL_cheapest 387 = .ok (.iconst 1, 1) := by decide +kernel
theorem dL_cheapest_388 : decode cL_cheapest 388 = .ok (.goto 4, 3) := by decide +kernel
theorem dL_cheapest_391 : decode cL_cheapest 391 = .ok (.iconst 0, 1) := by decide +kernel
theorem dL_cheapest_392 : decode cL_cheapest 392 = .ok (.iadd, 1) := by decide +kernel
theorem dL_cheapest_393 : decode cL_cheapest 393 = .ok (.istore 10, 2) := by decide +kernel
theorem dL_cheapest_395 : decode cL_cheapest 395 = .ok (.iload 10, 2) := by decide +kernel
theorem dL_cheapest_397 : decode cL_cheapest 397 = .ok (.iload 8, 2) := by decide +kernel
theorem dL_cheapest_399 : decode cL_cheapest 399 = .ok (.if_icmp .ge 7, 3) := by decide +kernel
theorem dL_cheapest_402 : decode cL_cheapest 402 = .ok (.iload 10, 2) := by decide +kernel
theorem dL_cheapest_404 : decode cL_cheapest 404 = .ok (.istore 8, 2) := by decide +kernel
theorem dL_cheapest_406 : decode cL_cheapest 406 = .ok (.iinc 9 1, 3) := by decide +kernel
theorem dL_cheapest_409 : decode cL_cheapest 409 = .ok (.goto (-54), 3) := by decide +kernel
theorem dL_cheapest_412 : decode cL_cheapest 412 = .ok (.iload 8, 2) := by decide +kernel
theorem dL_cheapest_414 : decode cL_cheapest 414 = .ok (.ireturn, 1) := by decide +kernel
theorem dX4_startAtLeft_0 : decode cX4_startAtLeft 0 = .ok (.aload_n 0, 1) := by decide +kernel
theorem dX4_startAtLeft_1 : decode cX4_startAtLeft 1 = .ok (.getfield 25, 3) := by decide +kernel
theorem dX4_startAtLeft_4 : decode cX4_startAtLeft 4 = .ok (.invokevirtual 81, 3) := by decide +kernel
theorem dX4_startAtLeft_7 : decode cX4_startAtLeft 7 = .ok (.iconst 0, 1) := by decide +kernel
theorem dX4_startAtLeft_8 : decode cX4_startAtLeft 8 = .ok (.istore_n 2, 1) := by decide +kernel
theorem dX4_startAtLeft_9 : decode cX4_startAtLeft 9 = .ok (.iload_n 2, 1) := by decide +kernel
theorem dX4_startAtLeft_10 : decode cX4_startAtLeft 10 = .ok (.bipush 36, 2) := by decide +kernel
theorem dX4_startAtLeft_12 : decode cX4_startAtLeft 12 = .ok (.if_icmp .ge 61, 3) := by decide +kernel
theorem dX4_startAtLeft_15 : decode cX4_startAtLeft 15 = .ok (.aload_n 0, 1) := by decide +kernel
theorem dX4_startAtLeft_16 : decode cX4_startAtLeft 16 = .ok (.getfield 15, 3) := by decide +kernel
theorem dX4_startAtLeft_19 : decode cX4_startAtLeft 19 = .ok (.iload_n 2, 1) := by decide +kernel
theorem dX4_startAtLeft_20 : decode cX4_startAtLeft 20 = .ok (.aload_n 1, 1) := by decide +kernel
theorem dX4_startAtLeft_21 : decode cX4_startAtLeft 21 = .ok (.getfield 84, 3) := by decide +kernel
theorem dX4_startAtLeft_24 : decode cX4_startAtLeft 24 = .ok (.iload_n 2, 1) := by decide +kernel
theorem dX4_startAtLeft_25 : decode cX4_startAtLeft 25 = .ok (.baload, 1) := by decide +kernel
theorem dX4_startAtLeft_26 : decode cX4_startAtLeft 26 = .ok (.ifCond .eq 15, 3) := by decide +kernel
theorem dX4_startAtLeft_29 : decode cX4_startAtLeft 29 = .ok (.iload_n 2, 1) := by decide +kernel
theorem dX4_startAtLeft_30 : decode cX4_startAtLeft 30 = .ok (.iconst 1, 1) := by decide +kernel
theorem dX4_startAtLeft_31 : decode cX4_startAtLeft 31 = .ok (.invokestatic 63, 3) := by decide +kernel
theorem dX4_startAtLeft_34 : decode cX4_startAtLeft 34 = .ok (.ifCond .eq 7, 3) := by decide +kernel
theorem dX4_startAtLeft_37 : decode cX4_startAtLeft 37 = .ok (.iconst 1, 1) := by decide +kernel
theorem dX4_startAtLeft_38 : decode cX4_startAtLeft 38 = .ok (.goto 4, 3) := by decide +kernel
theorem dX4_startAtLeft_41 : decode cX4_startAtLeft 41 = .ok (.iconst 0, 1) := by decide +kernel
theorem dX4_startAtLeft_42 : decode cX4_startAtLeft 42 = .ok (.bastore, 1) := by decide +kernel
theorem dX4_startAtLeft_43 : decode cX4_startAtLeft 43 = .ok (.aload_n 0, 1) := by decide +kernel
theorem dX4_startAtLeft_44 : decode cX4_startAtLeft 44 = .ok (.getfield 19, 3) := by decide +kernel
theorem dX4_startAtLeft_47 : decode cX4_startAtLeft 47 = .ok (.iload_n 2, 1) := by decide +kernel
theorem dX4_startAtLeft_48 : decode cX4_startAtLeft 48 = .ok (.iconst (-1), 1) := by decide +kernel
theorem dX4_startAtLeft_49 : decode cX4_startAtLeft 49 = .ok (.iastore, 1) := by decide +kernel
theorem dX4_startAtLeft_50 : decode cX4_startAtLeft 50 = .ok (.aload_n 0, 1) := by decide +kernel
theorem dX4_startAtLeft_51 : decode cX4_startAtLeft 51 = .ok (.getfield 15, 3) := by decide +kernel
theorem dX4_startAtLeft_54 : decode cX4_startAtLeft 54 = .ok (.iload_n 2, 1) := by decide +kernel
theorem dX4_startAtLeft_55 : decode cX4_startAtLeft 55 = .ok (.baload, 1) := by decide +kernel
theorem dX4_startAtLeft_56 : decode cX4_startAtLeft 56 = .ok (.ifCond .eq 11, 3) := by decide +kernel
theorem dX4_startAtLeft_59 : decode cX4_startAtLeft 59 = .ok (.aload_n 0, 1) := by decide +kernel
theorem dX4_startAtLeft_60 : decode cX4_startAtLeft 60 = .ok (.getfield 25, 3) := by decide +kernel
theorem dX4_startAtLeft_63 : decode cX4_startAtLeft 63 = .ok (.iload_n 2, 1) := by decide +kernel
theorem dX4_startAtLeft_64 : decode cX4_startAtLeft 64 = .ok (.invokevirtual 78, 3) := by decide +kernel
theorem dX4_startAtLeft_67 : decode cX4_startAtLeft 67 = .ok (.iinc 2 1, 3) := by decide +kernel
theorem dX4_startAtLeft_70 : decode cX4_startAtLeft 70 = .ok (.goto (-61), 3) := by decide +kernel
theorem dX4_startAtLeft_73 : decode cX4_startAtLeft 73 = .ok (.return_, 1) := by decide +kernel
theorem dX4_isFree_0 : decode cX4_isFree 0 = .ok (.iload_n 2, 1) := by decide +kernel
theorem dX4_isFree_1 : decode cX4_isFree 1 = .ok (.iload_n 3, 1) := by decide +kernel
theorem dX4_isFree_2 : decode cX4_isFree 2 = .ok (.invokestatic 75, 3) := by decide +kernel
theorem dX4_isFree_5 : decode cX4_isFree 5 = .ok (.istore 4, 2) := by decide +kernel
theorem dX4_isFree_7 : decode cX4_isFree 7 = .ok (.iload_n 2, 1) := by decide +kernel
theorem dX4_isFree_8 : decode cX4_isFree 8 = .ok (.iload_n 3, 1) := by decide +kernel
theorem dX4_isFree_9 : decode cX4_isFree 9 = .ok (.if_icmp .ge 21, 3) := by decide +kernel
theorem dX4_isFree_12 : decode cX4_isFree 12 = .ok (.aload_n 0, 1) := by decide +kernel
theorem dX4_isFree_13 : decode cX4_isFree 13 = .ok (.getfield 9, 3) := by decide +kernel
theorem dX4_isFree_16 : decode cX4_isFree 16 = .ok (.iload 4, 2) := by decide +kernel
theorem dX4_isFree_18 : decode cX4_isFree 18 = .ok (.iaload, 1) := by decide +kernel
theorem dX4_isFree_19 : decode cX4_isFree 19 = .ok (.ifCond .le 7, 3) := by decide +kernel
theorem dX4_isFree_22 : decode cX4_isFree 22 = .ok (.iconst 1, 1) := by decide +kernel
theorem dX4_isFree_23 : decode cX4_isFree 23 = .ok (.goto 22, 3) := by decide +kernel
theorem dX4_isFree_26 : decode cX4_isFree 26 = .ok (.iconst 0, 1) := by decide +kernel
theorem dX4_isFree_27 : decode cX4_isFree 27 = .ok (.goto 18, 3) := by decide +kernel
theorem dX4_isFree_30 : decode cX4_isFree 30 = .ok (.aload_n 0, 1) := by decide +kernel
theorem dX4_isFree_31 : decode cX4_isFree 31 = .ok (.getfield 9, 3) := by decide +kernel
theorem dX4_isFree_34 : decode cX4_isFree 34 = .ok (.iload 4, 2) := by decide +kernel
theorem dX4_isFree_36 : decode cX4_isFree 36 = .ok (.iaload, 1) := by decide +kernel
theorem dX4_isFree_37 : decode cX4_isFree 37 = .ok (.ifCond .ge 7, 3) := by decide +kernel
theorem dX4_isFree_40 : decode cX4_isFree 40 = .ok (.iconst 1, 1) := by decide +kernel
theorem dX4_isFree_41 : decode cX4_isFree 41 = .ok (.goto 4, 3) := by decide +kernel
theorem dX4_isFree_44 : decode cX4_isFree 44 = .ok (.iconst 0, 1) := by decide +kernel
theorem dX4_isFree_45 : decode cX4_isFree 45 = .ok (.istore 5, 2) := by decide +kernel
theorem dX4_isFree_47 : decode cX4_isFree 47 = .ok (.aload_n 1, 1) := by decide +kernel
theorem dX4_isFree_48 : decode cX4_isFree 48 = .ok (.getfield 43, 3) := by decide +kernel
theorem dX4_isFree_51 : decode cX4_isFree 51 = .ok (.iload 4, 2) := by decide +kernel
theorem dX4_isFree_53 : decode cX4_isFree 53 = .ok (.baload, 1) := by decide +kernel
theorem dX4_isFree_54 : decode cX4_isFree 54 = .ok (.ifCond .eq 12, 3) := by decide +kernel
theorem dX4_isFree_57 : decode cX4_isFree 57 = .ok (.iload 5, 2) := by decide +kernel
theorem dX4_isFree_59 : decode cX4_isFree 59 = .ok (.ifCond .ne 7, 3) := by decide +kernel
theorem dX4_isFree_62 : decode cX4_isFree 62 = .ok (.iconst 1, 1) := by decide +kernel
theorem dX4_isFree_63 : decode cX4_isFree 63 = .ok (.goto 4, 3) := by decide +kernel
theorem dX4_isFree_66 : decode cX4_isFree 66 = .ok (.iconst 0, 1) := by decide +kernel
theorem dX4_isFree_67 : decode cX4_isFree 67 = .ok (.ireturn, 1) := by decide +kernel
theorem dX4_searchWay_0 : decode cX4_searchWay 0 = .ok (.aload_n 0, 1) := by decide +kernel
theorem dX4_searchWay_1 : decode cX4_searchWay 1 = .ok (.aload_n 1, 1) := by decide +kernel
theorem dX4_searchWay_2 : decode cX4_searchWay 2 = .ok (.invokevirtual 55, 3) := by decide +kernel
theorem dX4_searchWay_5 : decode cX4_searchWay 5 = .ok (.iconst 0, 1) := by decide +kernel
theorem dX4_searchWay_6 : decode cX4_searchWay 6 = .ok (.istore_n 2, 1) := by decide +kernel
theorem dX4_searchWay_7 : decode cX4_searchWay 7 = .ok (.iload_n 2, 1) := by decide +kernel
theorem dX4_searchWay_8 : decode cX4_searchWay 8 = .ok (.bipush 36, 2) := by decide +kernel
theorem dX4_searchWay_10 : decode cX4_searchWay 10 = .ok (.if_icmp .ge 112, 3) := by decide +kernel
theorem dX4_searchWay_13 : decode cX4_searchWay 13 = .ok (.aload_n 0, 1) := by decide +kernel
theorem dX4_searchWay_14 : decode cX4_searchWay 14 = .ok (.getfield 25, 3) := by decide +kernel
theorem dX4_searchWay_17 : decode cX4_searchWay 17 = .ok (.invokevirtual 59, 3) := by decide +kernel
theorem dX4_searchWay_20 : decode cX4_searchWay 20 = .ok (.istore_n 3, 1) := by decide +kernel
theorem dX4_searchWay_21 : decode cX4_searchWay 21 = .ok (.iload_n 3, 1) := by decide +kernel
theorem dX4_searchWay_22 : decode cX4_searchWay 22 = .ok (.iconst (-1), 1) := by decide +kernel
theorem dX4_searchWay_23 : decode cX4_searchWay 23 = .ok (.if_icmp .eq 11, 3) := by decide +kernel
theorem dX4_searchWay_26 : decode cX4_searchWay 26 = .ok (.iload_n 3, 1) := by decide +kernel
theorem dX4_searchWay_27 : decode cX4_searchWay 27 = .ok (.iconst 2, 1) := by decide +kernel
theorem dX4_searchWay_28 : decode cX4_searchWay 28 = .ok (.invokestatic 63, 3) := by decide +kernel
theorem dX4_searchWay_31 : decode cX4_searchWay 31 = .ok (.ifCond .eq 5, 3) := by decide +kernel
theorem dX4_searchWay_34 : decode cX4_searchWay 34 = .ok (.iload_n 3, 1) := by decide +kernel
theorem dX4_searchWay_35 : decode cX4_searchWay 35 = .ok (.ireturn, 1) := by decide +kernel
theorem dX4_searchWay_36 : decode cX4_searchWay 36 = .ok (.iconst 0, 1) := by decide +kernel
theorem dX4_searchWay_37 : decode cX4_searchWay 37 = .ok (.istore 4, 2) := by decide +kernel
theorem dX4_searchWay_39 : decode cX4_searchWay 39 = .ok (.iload 4, 2) := by decide +kernel
theorem dX4_searchWay_41 : decode cX4_searchWay 41 = .ok (.iconst 4, 1) := by decide +kernel
theorem dX4_searchWay_42 : decode cX4_searchWay 42 = .ok (.if_icmp .ge 74, 3) := by decide +kernel
theorem dX4_searchWay_45 : decode cX4_searchWay 45 = .ok (.iload_n 3, 1) := by decide +kernel
theorem dX4_searchWay_46 : decode cX4_searchWay 46 = .ok (.iload 4, 2) := by decide +kernel
theorem dX4_searchWay_48 : decode cX4_searchWay 48 = .ok (.invokestatic 67, 3) := by decide +kernel
theorem dX4_searchWay_51 : decode cX4_searchWay 51 = .ok (.istore 5, 2) := by decide +kernel
theorem dX4_searchWay_53 : decode cX4_searchWay 53 = .ok (.iload 5, 2) := by decide +kernel
theorem dX4_searchWay_55 : decode cX4_searchWay 55 = .ok (.iconst (-1), 1) := by decide +kernel
theorem dX4_searchWay_56 : decode cX4_searchWay 56 = .ok (.if_icmp .eq 54, 3) := by decide +kernel
theorem dX4_searchWay_59 : decode cX4_searchWay 59 = .ok (.aload_n 0, 1) := by decide +kernel
theorem dX4_searchWay_60 : decode cX4_searchWay 60 = .ok (.getfield 15, 3) := by decide +kernel
theorem dX4_searchWay_63 : decode cX4_searchWay 63 = .ok (.iload 5, 2) := by decide +kernel
theorem dX4_searchWay_65 : decode cX4_searchWay 65 = .ok (.baload, 1) := by decide +kernel
theorem dX4_searchWay_66 : decode cX4_searchWay 66 = .ok (.ifCond .ne 44, 3) := by decide +kernel
theorem dX4_searchWay_69 : decode cX4_searchWay 69 = .ok (.aload_n 0, 1) := by decide +kernel
theorem dX4_searchWay_70 : decode cX4_searchWay 70 = .ok (.aload_n 1, 1) := by decide +kernel
theorem dX4_searchWay_71 : decode cX4_searchWay 71 = .ok (.iload_n 3, 1) := by decide +kernel
theorem dX4_searchWay_72 : decode cX4_searchWay 72 = .ok (.iload 5, 2) := by decide +kernel
theorem dX4_searchWay_74 : decode cX4_searchWay 74 = .ok (.invokevirtual 71, 3) := by decide +kernel
theorem dX4_searchWay_77 : decode cX4_searchWay 77 = .ok (.ifCond .eq 33, 3) := by decide +kernel
theorem dX4_searchWay_80 : decode cX4_searchWay 80 = .ok (.aload_n 0, 1) := by decide +kernel
theorem dX4_searchWay_81 : decode cX4_searchWay 81 = .ok (.getfield 15, 3) := by decide +kernel
theorem dX4_searchWay_84 : decode cX4_searchWay 84 = .ok (.iload 5, 2) := by decide +kernel
theorem dX4_searchWay_86 : decode cX4_searchWay 86 = .ok (.iconst 1, 1) := by decide +kernel
theorem dX4_searchWay_87 : decode cX4_searchWay 87 = .ok (.bastore, 1) := by decide +kernel
theorem dX4_searchWay_88 : decode cX4_searchWay 88 = .ok (.aload_n 0, 1) := by decide +kernel
theorem dX4_searchWay_89 : decode cX4_searchWay 89 = .ok (.getfield 19, 3) := by decide +kernel
theorem dX4_searchWay_92 : decode cX4_searchWay 92 = .ok (.iload 5, 2) := by decide +kernel
theorem dX4_searchWay_94 : decode cX4_searchWay 94 = .ok (.iload_n 3, 1) := by decide +kernel
theorem dX4_searchWay_95 : decode cX4_searchWay 95 = .ok (.iload 5, 2) := by decide +kernel
theorem dX4_searchWay_97 : decode cX4_searchWay 97 = .ok (.invokestatic 75, 3) := by decide +kernel
theorem dX4_searchWay_100 : decode cX4_searchWay 100 = .ok (.iastore, 1) := by decide +kernel
theorem dX4_searchWay_101 : decode cX4_searchWay 101 = .ok (.aload_n 0, 1) := by decide +kernel
theorem dX4_searchWay_102 : decode cX4_searchWay 102 = .ok (.getfield 25, 3) := by decide +kernel
theorem dX4_searchWay_105 : decode cX4_searchWay 105 = .ok (.iload 5, 2) := by decide +kernel
theorem dX4_searchWay_107 : decode cX4_searchWay 107 = .ok (.invokevirtual 78, 3) := by decide +kernel
theorem dX4_searchWay_110 : decode cX4_searchWay 110 = .ok (.iinc 4 1, 3) := by decide +kernel
theorem dX4_searchWay_113 : decode cX4_searchWay 113 = .ok (.goto (-74), 3) := by decide +kernel
theorem dX4_searchWay_116 : decode cX4_searchWay 116 = .ok (.iinc 2 1, 3) := by decide +kernel
theorem dX4_searchWay_119 : decode cX4_searchWay 119 = .ok (.goto (-112), 3) := by decide +kernel
theorem dX4_searchWay_122 : decode cX4_searchWay 122 = .ok (.iconst (-1), 1) := by decide +kernel
theorem dX4_searchWay_123 : decode cX4_searchWay 123 = .ok (.ireturn, 1) := by decide +kernel
theorem dX4_addWayTo_0 : decode cX4_addWayTo 0 = .ok (.iload_n 1, 1) := by decide +kernel
theorem dX4_addWayTo_1 : decode cX4_addWayTo 1 = .ok (.istore_n 2, 1) := by decide +kernel
theorem dX4_addWayTo_2 : decode cX4_addWayTo 2 = .ok (.iconst 0, 1) := by decide +kernel
theorem dX4_addWayTo_3 : decode cX4_addWayTo 3 = .ok (.istore_n 3, 1) := by decide +kernel
theorem dX4_addWayTo_4 : decode cX4_addWayTo 4 = .ok (.iload_n 3, 1) := by decide +kernel
theorem dX4_addWayTo_5 : decode cX4_addWayTo 5 = .ok (.bipush 36, 2) := by decide +kernel
theorem dX4_addWayTo_7 : decode cX4_addWayTo 7 = .ok (.if_icmp .ge 73, 3) := by decide +kernel
theorem dX4_addWayTo_10 : decode cX4_addWayTo 10 = .ok (.aload_n 0, 1) := by decide +kernel
theorem dX4_addWayTo_11 : decode cX4_addWayTo 11 = .ok (.getfield 19, 3) := by decide +kernel
theorem dX4_addWayTo_14 : decode cX4_addWayTo 14 = .ok (.iload_n 2, 1) := by decide +kernel
theorem dX4_addWayTo_15 : decode cX4_addWayTo 15 = .ok (.iaload, 1) := by decide +kernel
theorem dX4_addWayTo_16 : decode cX4_addWayTo 16 = .ok (.iconst (-1), 1) := by decide +kernel
theorem dX4_addWayTo_17 : decode cX4_addWayTo 17 = .ok (.if_icmp .eq 63, 3) := by decide +kernel
theorem dX4_addWayTo_20 : decode cX4_addWayTo 20 = .ok (.aload_n 0, 1) := by decide +kernel
theorem dX4_addWayTo_21 : decode cX4_addWayTo 21 = .ok (.getfield 19, 3) := by decide +kernel
theorem dX4_addWayTo_24 : decode cX4_addWayTo 24 = .ok (.iload_n 2, 1) := by decide +kernel
theorem dX4_addWayTo_25 : decode cX4_addWayTo 25 = .ok (.iaload, 1) := by decide +kernel
theorem dX4_addWayTo_26 : decode cX4_addWayTo 26 = .ok (.istore 4, 2) := by decide +kernel
theorem dX4_addWayTo_28 : decode cX4_addWayTo 28 = .ok (.iload 4, 2) := by decide +kernel
theorem dX4_addWayTo_30 : decode cX4_addWayTo 30 = .ok (.invokestatic 52, 3) := by decide +kernel
theorem dX4_addWayTo_33 : decode cX4_addWayTo 33 = .ok (.iload_n 2, 1) := by decide +kernel
theorem dX4_addWayTo_34 : decode cX4_addWayTo 34 = .ok (.if_icmp .ne 23, 3) := by decide +kernel
theorem dX4_addWayTo_37 : decode cX4_addWayTo 37 = .ok (.aload_n 0, 1) := by decide +kernel
theorem dX4_addWayTo_38 : decode cX4_addWayTo 38 = .ok (.getfield 9, 3) := by decide +kernel
theorem dX4_addWayTo_41 : decode cX4_addWayTo 41 = .ok (.iload 4, 2) := by decide +kernel
theorem dX4_addWayTo_43 : decode cX4_addWayTo 43 = .ok (.dup2, 1) := by decide +kernel
theorem dX4_addWayTo_44 : decode cX4_addWayTo 44 = .ok (.iaload, 1) := by decide +kernel
theorem dX4_addWayTo_45 : decode cX4_addWayTo 45 = .ok (.iconst 1, 1) := by decide +kernel
theorem dX4_addWayTo_46 : decode cX4_addWayTo 46 = .ok (.iadd, 1) := by decide +kernel
theorem dX4_addWayTo_47 : decode cX4_addWayTo 47 = .ok (.iastore, 1) := by decide +kernel
theorem dX4_addWayTo_48 : decode cX4_addWayTo 48 = .ok (.iload 4, 2) := by decide +kernel
theorem dX4_addWayTo_50 : decode cX4_addWayTo 50 = .ok (.invokestatic 48, 3) := by decide +kernel
theorem dX4_addWayTo_53 : decode cX4_addWayTo 53 = .ok (.istore_n 2, 1) := by decide +kernel
theorem dX4_addWayTo_54 : decode cX4_addWayTo 54 = .ok (.goto 20, 3) := by decide +kernel
theorem dX4_addWayTo_57 : decode cX4_addWayTo 57 = .ok (.aload_n 0, 1) := by decide +kernel
theorem dX4_addWayTo_58 : decode cX4_addWayTo 58 = .ok (.getfield 9, 3) := by decide +kernel
theorem dX4_addWayTo_61 : decode cX4_addWayTo 61 = .ok (.iload 4, 2) := by decide +kernel
theorem dX4_addWayTo_63 : decode cX4_addWayTo 63 = .ok (.dup2, 1) := by decide +kernel
theorem dX4_addWayTo_64 : decode cX4_addWayTo 64 = .ok (.iaload, 1) := by decide +kernel
theorem dX4_addWayTo_65 : decode cX4_addWayTo 65 = .ok (.iconst 1, 1) := by decide +kernel
theorem dX4_addWayTo_66 : decode cX4_addWayTo 66 = .ok (.isub, 1) := by decide +kernel
theorem dX4_addWayTo_67 : decode cX4_addWayTo 67 = .ok (.iastore, 1) := by decide +kernel
theorem dX4_addWayTo_68 : decode cX4_addWayTo 68 = .ok (.iload 4, 2) := by decide +kernel
theorem dX4_addWayTo_70 : decode cX4_addWayTo 70 = .ok (.invokestatic 52, 3) := by decide +kernel
theorem dX4_addWayTo_73 : decode cX4_addWayTo 73 = .ok (.istore_n 2, 1) := by decide +kernel
theorem dX4_addWayTo_74 : decode cX4_addWayTo 74 = .ok (.iinc 3 1, 3) := by decide +kernel
theorem dX4_addWayTo_77 : decode cX4_addWayTo 77 = .ok (.goto (-73), 3) := by decide +kernel
theorem dX4_addWayTo_80 : decode cX4_addWayTo 80 = .ok (.return_, 1) := by decide +kernel
theorem dX4_mostWays_0 : decode cX4_mostWays 0 = .ok (.aload_n 0, 1) := by decide +kernel
theorem dX4_mostWays_1 : decode cX4_mostWays 1 = .ok (.getfield 9, 3) := by decide +kernel
theorem dX4_mostWays_4 : decode cX4_mostWays 4 = .ok (.iconst 0, 1) := by decide +kernel
theorem dX4_mostWays_5 : decode cX4_mostWays 5 = .ok (.invokestatic 29, 3) := by decide +kernel
theorem dX4_mostWays_8 : decode cX4_mostWays 8 = .ok (.iconst 0, 1) := by decide +kernel
theorem dX4_mostWays_9 : decode cX4_mostWays 9 = .ok (.istore_n 2, 1) := by decide +kernel
theorem dX4_mostWays_10 : decode cX4_mostWays 10 = .ok (.iload_n 2, 1) := by decide +kernel
theorem dX4_mostWays_11 : decode cX4_mostWays 11 = .ok (.bipush 60, 2) := by decide +kernel
theorem dX4_mostWays_13 : decode cX4_mostWays 13 = .ok (.if_icmp .ge 28, 3) := by decide +kernel
theorem dX4_mostWays_16 : decode cX4_mostWays 16 = .ok (.aload_n 0, 1) := by decide +kernel
theorem dX4_mostWays_17 : decode cX4_mostWays 17 = .ok (.aload_n 1, 1) := by decide +kernel
theorem dX4_mostWays_18 : decode cX4_mostWays 18 = .ok (.invokevirtual 35, 3) := by decide +kernel
theorem dX4_mostWays_21 : decode cX4_mostWays 21 = .ok (.istore_n 3, 1) := by decide +kernel
theorem dX4_mostWays_22 : decode cX4_mostWays 22 = .ok (.iload_n 3, 1) := by decide +kernel
theorem dX4_mostWays_23 : decode cX4_mostWays 23 = .ok (.iconst (-1), 1) := by decide +kernel
theorem dX4_mostWays_24 : decode cX4_mostWays 24 = .ok (.if_icmp .ne 6, 3) := by decide +kernel
theorem dX4_mostWays_27 : decode cX4_mostWays 27 = .ok (.goto 14, 3) := by decide +kernel
theorem dX4_mostWays_30 : decode cX4_mostWays 30 = .ok (.aload_n 0, 1) := by decide +kernel
theorem dX4_mostWays_31 : decode cX4_mostWays 31 = .ok (.iload_n 3, 1) := by decide +kernel
theorem dX4_mostWays_32 : decode cX4_mostWays 32 = .ok (.invokevirtual 39, 3) := by decide +kernel
theorem dX4_mostWays_35 : decode cX4_mostWays 35 = .ok (.iinc 2 1, 3) := by decide +kernel
theorem dX4_mostWays_38 : decode cX4_mostWays 38 = .ok (.goto (-28), 3) := by decide +kernel
theorem dX4_mostWays_41 : decode cX4_mostWays 41 = .ok (.iload_n 2, 1) := by decide +kernel
theorem dX4_mostWays_42 : decode cX4_mostWays 42 = .ok (.ireturn, 1) := by decide +kernel
theorem dX4_countCut_0 : decode cX4_countCut 0 = .ok (.iconst 0, 1) := by decide +kernel
theorem dX4_countCut_1 : decode cX4_countCut 1 = .ok (.istore_n 2, 1) := by decide +kernel
theorem dX4_countCut_2 : decode cX4_countCut 2 = .ok (.iconst 0, 1) := by decide +kernel
theorem dX4_countCut_3 : decode cX4_countCut 3 = .ok (.istore_n 3, 1) := by decide +kernel
theorem dX4_countCut_4 : decode cX4_countCut 4 = .ok (.iload_n 3, 1) := by decide +kernel
theorem dX4_countCut_5 : decode cX4_countCut 5 = .ok (.bipush 60, 2) := by decide +kernel
theorem dX4_countCut_7 : decode cX4_countCut 7 = .ok (.if_icmp .ge 42, 3) := by decide +kernel
theorem dX4_countCut_10 : decode cX4_countCut 10 = .ok (.aload_n 1, 1) := by decide +kernel
theorem dX4_countCut_11 : decode cX4_countCut 11 = .ok (.getfield 43, 3) := by decide +kernel
theorem dX4_countCut_14 : decode cX4_countCut 14 = .ok (.iload_n 3, 1) := by decide +kernel
theorem dX4_countCut_15 : decode cX4_countCut 15 = .ok (.baload, 1) := by decide +kernel
theorem dX4_countCut_16 : decode cX4_countCut 16 = .ok (.ifCond .eq 27, 3) := by decide +kernel
theorem dX4_countCut_19 : decode cX4_countCut 19 = .ok (.aload_n 0, 1) := by decide +kernel
theorem dX4_countCut_20 : decode cX4_countCut 20 = .ok (.getfield 15, 3) := by decide +kernel
theorem dX4_countCut_23 : decode cX4_countCut 23 = .ok (.iload_n 3, 1) := by decide +kernel
theorem dX4_countCut_24 : decode cX4_countCut 24 = .ok (.invokestatic 48, 3) := by decide +kernel
theorem dX4_countCut_27 : decode cX4_countCut 27 = .ok (.baload, 1) := by decide +kernel
theorem dX4_countCut_28 : decode cX4_countCut 28 = .ok (.aload_n 0, 1) := by decide +kernel
theorem dX4_countCut_29 : decode cX4_countCut 29 = .ok (.getfield 15, 3) := by decide +kernel
theorem dX4_countCut_32 : decode cX4_countCut 32 = .ok (.iload_n 3, 1) := by decide +kernel
theorem dX4_countCut_33 : decode cX4_countCut 33 = .ok (.invokestatic 52, 3) := by decide +kernel
theorem dX4_countCut_36 : decode cX4_countCut 36 = .ok (.baload, 1) := by decide +kernel
theorem dX4_countCut_37 : decode cX4_countCut 37 = .ok (.if_icmp .eq 6, 3) := by decide +kernel
theorem dX4_countCut_40 : decode cX4_countCut 40 = .ok (.iinc 2 1, 3) := by decide +kernel
theorem dX4_countCut_43 : decode cX4_countCut 43 = .ok (.iinc 3 1, 3) := by decide +kernel
theorem dX4_countCut_46 : decode cX4_countCut 46 = .ok (.goto (-42), 3) := by decide +kernel
theorem dX4_countCut_49 : decode cX4_countCut 49 = .ok (.iload_n 2, 1) := by decide +kernel
theorem dX4_countCut_50 : decode cX4_countCut 50 = .ok (.ireturn, 1) := by decide +kernel
theorem dX11_cut_0 : decode cX11_cut 0 = .ok (.aload_n 0, 1) := by decide +kernel
theorem dX11_cut_1 : decode cX11_cut 1 = .ok (.iload_n 1, 1) := by decide +kernel
theorem dX11_cut_2 : decode cX11_cut 2 = .ok (.iload_n 2, 1) := by decide +kernel
theorem dX11_cut_3 : decode cX11_cut 3 = .ok (.invokevirtual 133, 3) := by decide +kernel
theorem dX11_cut_6 : decode cX11_cut 6 = .ok (.aload_n 0, 1) := by decide +kernel
theorem dX11_cut_7 : decode cX11_cut 7 = .ok (.getfield 36, 3) := by decide +kernel
theorem dX11_cut_10 : decode cX11_cut 10 = .ok (.aload_n 0, 1) := by decide +kernel
theorem dX11_cut_11 : decode cX11_cut 11 = .ok (.getfield 29, 3) := by decide +kernel
theorem dX11_cut_14 : decode cX11_cut 14 = .ok (.invokevirtual 164, 3) := by decide +kernel
theorem dX11_cut_17 : decode cX11_cut 17 = .ok (.pop, 1) := by decide +kernel
theorem dX11_cut_18 : decode cX11_cut 18 = .ok (.aload_n 0, 1) := by decide +kernel
theorem dX11_cut_19 : decode cX11_cut 19 = .ok (.getfield 36, 3) := by decide +kernel
theorem dX11_cut_22 : decode cX11_cut 22 = .ok (.aload_n 0, 1) := by decide +kernel
theorem dX11_cut_23 : decode cX11_cut 23 = .ok (.getfield 29, 3) := by decide +kernel
theorem dX11_cut_26 : decode cX11_cut 26 = .ok (.invokevirtual 168, 3) := by decide +kernel
theorem dX11_cut_29 : decode cX11_cut 29 = .ok (.ireturn, 1) := by decide +kernel
theorem dX11_ways_0 : decode cX11_ways 0 = .ok (.aload_n 0, 1) := by decide +kernel
theorem dX11_ways_1 : decode cX11_ways 1 = .ok (.iload_n 1, 1) := by decide +kernel
theorem dX11_ways_2 : decode cX11_ways 2 = .ok (.iload_n 2, 1) := by decide +kernel
theorem dX11_ways_3 : decode cX11_ways 3 = .ok (.invokevirtual 133, 3) := by decide +kernel
theorem dX11_ways_6 : decode cX11_ways 6 = .ok (.aload_n 0, 1) := by decide +kernel
theorem dX11_ways_7 : decode cX11_ways 7 = .ok (.getfield 36, 3) := by decide +kernel
theorem dX11_ways_10 : decode cX11_ways 10 = .ok (.aload_n 0, 1) := by decide +kernel
theorem dX11_ways_11 : decode cX11_ways 11 = .ok (.getfield 29, 3) := by decide +kernel
theorem dX11_ways_14 : decode cX11_ways 14 = .ok (.invokevirtual 164, 3) := by decide +kernel
theorem dX11_ways_17 : decode cX11_ways 17 = .ok (.ireturn, 1) := by decide +kernel
theorem dX9_countRedBonds_0 : decode cX9_countRedBonds 0 = .ok (.aload_n 0, 1) := by decide +kernel
theorem dX9_countRedBonds_1 : decode cX9_countRedBonds 1 = .ok (.iconst 1, 1) := by decide +kernel
theorem dX9_countRedBonds_2 : decode cX9_countRedBonds 2 = .ok (.iconst 2, 1) := by decide +kernel
theorem dX9_countRedBonds_3 : decode cX9_countRedBonds 3 = .ok (.invokevirtual 80, 3) := by decide +kernel
theorem dX9_countRedBonds_6 : decode cX9_countRedBonds 6 = .ok (.iconst (-1), 1) := by decide +kernel
theorem dX9_countRedBonds_7 : decode cX9_countRedBonds 7 = .ok (.if_icmp .ne 5, 3) := by decide +kernel
theorem dX9_countRedBonds_10 : decode cX9_countRedBonds 10 = .ok (.iconst 0, 1) := by decide +kernel
theorem dX9_countRedBonds_11 : decode cX9_countRedBonds 11 = .ok (.ireturn, 1) := by decide +kernel
theorem dX9_countRedBonds_12 : decode cX9_countRedBonds 12 = .ok (.iconst 0, 1) := by decide +kernel
theorem dX9_countRedBonds_13 : decode cX9_countRedBonds 13 = .ok (.istore_n 1, 1) := by decide +kernel
theorem dX9_countRedBonds_14 : decode cX9_countRedBonds 14 = .ok (.iconst 0, 1) := by decide +kernel
theorem dX9_countRedBonds_15 : decode cX9_countRedBonds 15 = .ok (.istore_n 2, 1) := by decide +kernel
theorem dX9_countRedBonds_16 : decode cX9_countRedBonds 16 = .ok (.iload_n 2, 1) := by decide +kernel
theorem dX9_countRedBonds_17 : decode cX9_countRedBonds 17 = .ok (.bipush 60, 2) := by decide +kernel
theorem dX9_countRedBonds_19 : decode cX9_countRedBonds 19 = .ok (.if_icmp .ge 45, 3) := by decide +kernel
theorem dX9_countRedBonds_22 : decode cX9_countRedBonds 22 = .ok (.aload_n 0, 1) := by decide +kernel
theorem dX9_countRedBonds_23 : decode cX9_countRedBonds 23 = .ok (.getfield 15, 3) := by decide +kernel
theorem dX9_countRedBonds_26 : decode cX9_countRedBonds 26 = .ok (.iload_n 2, 1) := by decide +kernel
theorem dX9_countRedBonds_27 : decode cX9_countRedBonds 27 = .ok (.baload, 1) := by decide +kernel
theorem dX9_countRedBonds_28 : decode cX9_countRedBonds 28 = .ok (.ifCond .eq 30, 3) := by decide +kernel
theorem dX9_countRedBonds_31 : decode cX9_countRedBonds 31 = .ok (.aload_n 0, 1) := by decide +kernel
theorem dX9_countRedBonds_32 : decode cX9_countRedBonds 32 = .ok (.getfield 15, 3) := by decide +kernel
theorem dX9_countRedBonds_35 : decode cX9_countRedBonds 35 = .ok (.iload_n 2, 1) := by decide +kernel
theorem dX9_countRedBonds_36 : decode cX9_countRedBonds 36 = .ok (.iconst 0, 1) := by decide +kernel
theorem dX9_countRedBonds_37 : decode cX9_countRedBonds 37 = .ok (.bastore, 1) := by decide +kernel
theorem dX9_countRedBonds_38 : decode cX9_countRedBonds 38 = .ok (.aload_n 0, 1) := by decide +kernel
theorem dX9_countRedBonds_39 : decode cX9_countRedBonds 39 = .ok (.iconst 1, 1) := by decide +kernel
theorem dX9_countRedBonds_40 : decode cX9_countRedBonds 40 = .ok (.iconst 2, 1) := by decide +kernel
theorem dX9_countRedBonds_41 : decode cX9_countRedBonds 41 = .ok (.invokevirtual 80, 3) := by decide +kernel
theorem dX9_countRedBonds_44 : decode cX9_countRedBonds 44 = .ok (.iconst (-1), 1) := by decide +kernel
theorem dX9_countRedBonds_45 : decode cX9_countRedBonds 45 = .ok (.if_icmp .ne 6, 3) := by decide +kernel
theorem dX9_countRedBonds_48 : decode cX9_countRedBonds 48 = .ok (.iinc 1 1, 3) := by decide +kernel
theorem dX9_countRedBonds_51 : decode cX9_countRedBonds 51 = .ok (.aload_n 0, 1) := by decide +kernel
theorem dX9_countRedBonds_52 : decode cX9_countRedBonds 52 = .ok (.getfield 15, 3) := by decide +kernel
theorem dX9_countRedBonds_55 : decode cX9_countRedBonds 55 = .ok (.iload_n 2, 1) := by decide +kernel
theorem dX9_countRedBonds_56 : decode cX9_countRedBonds 56 = .ok (.iconst 1, 1) := by decide +kernel
theorem dX9_countRedBonds_57 : decode cX9_countRedBonds 57 = .ok (.bastore, 1) := by decide +kernel
theorem dX9_countRedBonds_58 : decode cX9_countRedBonds 58 = .ok (.iinc 2 1, 3) := by decide +kernel
theorem dX9_countRedBonds_61 : decode cX9_countRedBonds 61 = .ok (.goto (-45), 3) := by decide +kernel
theorem dX9_countRedBonds_64 : decode cX9_countRedBonds 64 = .ok (.iload_n 1, 1) := by decide +kernel
theorem dX9_countRedBonds_65 : decode cX9_countRedBonds 65 = .ok (.ireturn, 1) := by decide +kernel
theorem dX11_red_0 : decode cX11_red 0 = .ok (.aload_n 0, 1) := by decide +kernel
theorem dX11_red_1 : decode cX11_red 1 = .ok (.iload_n 1, 1) := by decide +kernel
theorem dX11_red_2 : decode cX11_red 2 = .ok (.iload_n 2, 1) := by decide +kernel
theorem dX11_red_3 : decode cX11_red 3 = .ok (.invokevirtual 133, 3) := by decide +kernel
theorem dX11_red_6 : decode cX11_red 6 = .ok (.aload_n 0, 1) := by decide +kernel
theorem dX11_red_7 : decode cX11_red 7 = .ok (.getfield 29, 3) := by decide +kernel
theorem dX11_red_10 : decode cX11_red 10 = .ok (.invokevirtual 171, 3) := by decide +kernel
theorem dX11_red_13 : decode cX11_red 13 = .ok (.ireturn, 1) := by decide +kernel
theorem dX11_shortest_0 : decode cX11_shortest 0 = .ok (.aload_n 0, 1) := by decide +kernel
theorem dX11_shortest_1 : decode cX11_shortest 1 = .ok (.iload_n 1, 1) := by decide +kernel
theorem dX11_shortest_2 : decode cX11_shortest 2 = .ok (.iload_n 2, 1) := by decide +kernel
theorem dX11_shortest_3 : decode cX11_shortest 3 = .ok (.invokevirtual 133, 3) := by decide +kernel
theorem dX11_shortest_6 : decode cX11_shortest 6 = .ok (.aload_n 0, 1) := by decide +kernel
theorem dX11_shortest_7 : decode cX11_shortest 7 = .ok (.getfield 29, 3) := by decide +kernel
theorem dX11_shortest_10 : decode cX11_shortest 10 = .ok (.iconst 1, 1) := by decide +kernel
theorem dX11_shortest_11 : decode cX11_shortest 11 = .ok (.iconst 2, 1) := by decide +kernel
theorem dX11_shortest_12 : decode cX11_shortest 12 = .ok (.invokevirtual 154, 3) := by decide +kernel
theorem dX11_shortest_15 : decode cX11_shortest 15 = .ok (.ireturn, 1) := by decide +kernel
theorem dL_steps_0 : decode cL_steps 0 = .ok (.aload_n 0, 1) := by decide +kernel
theorem dL_steps_1 : decode cL_steps 1 = .ok (.aload_n 1, 1) := by decide +kernel
theorem dL_steps_2 : decode cL_steps 2 = .ok (.lload_n 2, 1) := by decide +kernel
theorem dL_steps_3 : decode cL_steps 3 = .ok (.iload 4, 2) := by decide +kernel
theorem dL_steps_5 : decode cL_steps 5 = .ok (.iload 5, 2) := by decide +kernel
theorem dL_steps_7 : decode cL_steps 7 = .ok (.iconst 0, 1) := by decide +kernel
theorem dL_steps_8 : decode cL_steps 8 = .ok (.invokestatic 44, 3) := by decide +kernel
theorem dL_steps_11 : decode cL_steps 11 = .ok (.iconst (-1), 1) := by decide +kernel
theorem dL_steps_12 : decode cL_steps 12 = .ok (.invokestatic 48, 3) := by decide +kernel
theorem dL_steps_15 : decode cL_steps 15 = .ok (.lstore 6, 2) := by decide +kernel
theorem dL_steps_17 : decode cL_steps 17 = .ok (.lload 6, 2) := by decide +kernel
theorem dL_steps_19 : decode cL_steps 19 = .ok (.iconst 1, 1) := by decide +kernel
theorem dL_steps_20 : decode cL_steps 20 = .ok (.invokestatic 44, 3) := by decide +kernel
theorem dL_steps_23 : decode cL_steps 23 = .ok (.land, 1) := by decide +kernel
theorem dL_steps_24 : decode cL_steps 24 = .ok (.lconst 0, 1) := by decide +kernel
theorem dL_steps_25 : decode cL_steps 25 = .ok (.lcmp, 1) := by decide +kernel
theorem dL_steps_26 : decode cL_steps 26 = .ok (.ifCond .ne 5, 3) := by decide +kernel
theorem dL_steps_29 : decode cL_steps 29 = .ok (.iconst (-1), 1) := by decide +kernel
theorem dL_steps_30 : decode cL_steps 30 = .ok (.ireturn, 1) := by decide +kernel
theorem dL_steps_31 : decode cL_steps 31 = .ok (.lconst 0, 1) := by decide +kernel
theorem dL_steps_32 : decode cL_steps 32 = .ok (.lstore 8, 2) := by decide +kernel
theorem dL_steps_34 : decode cL_steps 34 = .ok (.iconst 0, 1) := by decide +kernel
theorem dL_steps_35 : decode cL_steps 35 = .ok (.istore 10, 2) := by decide +kernel
theorem dL_steps_37 : decode cL_steps 37 = .ok (.iload 10, 2) := by decide +kernel
theorem dL_steps_39 : decode cL_steps 39 = .ok (.bipush 36, 2) := by decide +kernel
theorem dL_steps_41 : decode cL_steps 41 = .ok (.if_icmp .ge 53, 3) := by decide +kernel
theorem dL_steps_44 : decode cL_steps 44 = .ok (.iconst 0, 1) := by decide +kernel
theorem dL_steps_45 : decode cL_steps 45 = .ok (.invokestatic 44, 3) := by decide +kernel
theorem dL_steps_48 : decode cL_steps 48 = .ok (.iload 10, 2) := by decide +kernel
theorem dL_steps_50 : decode cL_steps 50 = .ok (.invokestatic 25, 3) := by decide +kernel
theorem dL_steps_53 : decode cL_steps 53 = .ok (.ifCond .eq 35, 3) := by decide +kernel
theorem dL_steps_56 : decode cL_steps 56 = .ok (.lload_n 2, 1) := by decide +kernel
theorem dL_steps_57 : decode cL_steps 57 = .ok (.iload 10, 2) := by decide +kernel
theorem dL_steps_59 : decode cL_steps 59 = .ok (.invokestatic 25, 3) := by decide +kernel
theorem dL_steps_62 : decode cL_steps 62 = .ok (.ifCond .ne 26, 3) := by decide +kernel
theorem dL_steps_65 : decode cL_steps 65 = .ok (.iload 4, 2) := by decide +kernel
theorem dL_steps_67 : decode cL_steps 67 = .ok (.ifCond .eq 12, 3) := by decide +kernel
theorem dL_steps_70 : decode cL_steps 70 = .ok (.aload_n 1, 1) := by decide +kernel
theorem dL_steps_71 : decode cL_steps 71 = .ok (.iload 10, 2) := by decide +kernel
theorem dL_steps_73 : decode cL_steps 73 = .ok (.iaload, 1) := by decide +kernel
theorem dL_steps_74 : decode cL_steps 74 = .ok (.iload 5, 2) := by decide +kernel
theorem dL_steps_76 : decode cL_steps 76 = .ok (.if_icmp .ge 12, 3) := by decide +kernel
theorem dL_steps_79 : decode cL_steps 79 = .ok (.lload 8, 2) := by decide +kernel
theorem dL_steps_81 : decode cL_steps 81 = .ok (.lconst 1, 1) := by decide +kernel
theorem dL_steps_82 : decode cL_steps 82 = .ok (.iload 10, 2) := by decide +kernel
theorem dL_steps_84 : decode cL_steps 84 = .ok (.lshl, 1) := by decide +kernel
theorem dL_steps_85 : decode cL_steps 85 = .ok (.lor, 1) := by decide +kernel
theorem dL_steps_86 : decode cL_steps 86 = .ok (.lstore 8, 2) := by decide +kernel
theorem dL_steps_88 : decode cL_steps 88 = .ok (.iinc 10 1, 3) := by decide +kernel
theorem dL_steps_91 : decode cL_steps 91 = .ok (.goto (-54), 3) := by decide +kernel
theorem dL_steps_94 : decode cL_steps 94 = .ok (.iconst 0, 1) := by decide +kernel
theorem dL_steps_95 : decode cL_steps 95 = .ok (.istore 10, 2) := by decide +kernel
theorem dL_steps_97 : decode cL_steps 97 = .ok (.lload 8, 2) := by decide +kernel
theorem dL_steps_99 : decode cL_steps 99 = .ok (.iconst 1, 1) := by decide +kernel
theorem dL_steps_100 : decode cL_steps 100 = .ok (.invokestatic 44, 3) := by decide +kernel
theorem dL_steps_103 : decode cL_steps 103 = .ok (.land, 1) := by decide +kernel
theorem dL_steps_104 : decode cL_steps 104 = .ok (.lconst 0, 1) := by decide +kernel
theorem dL_steps_105 : decode cL_steps 105 = .ok (.lcmp, 1) := by decide +kernel
theorem dL_steps_106 : decode cL_steps 106 = .ok (.ifCond .ne 91, 3) := by decide +kernel
theorem dL_steps_109 : decode cL_steps 109 = .ok (.lload 8, 2) := by decide +kernel
theorem dL_steps_111 : decode cL_steps 111 = .ok (.lstore 11, 2) := by decide +kernel
theorem dL_steps_113 : decode cL_steps 113 = .ok (.iconst 0, 1) := by decide +kernel
theorem dL_steps_114 : decode cL_steps 114 = .ok (.istore 13, 2) := by decide +kernel
theorem dL_steps_116 : decode cL_steps 116 = .ok (.iload 13, 2) := by decide +kernel
theorem dL_steps_118 : decode cL_steps 118 = .ok (.bipush 60, 2) := by decide +kernel
theorem dL_steps_120 : decode cL_steps 120 = .ok (.if_icmp .ge 67, 3) := by decide +kernel
theorem dL_steps_123 : decode cL_steps 123 = .ok (.lload 8, 2) := by decide +kernel
theorem dL_steps_125 : decode cL_steps 125 = .ok (.iload 13, 2) := by decide +kernel
theorem dL_steps_127 : decode cL_steps 127 = .ok (.invokestatic 31, 3) := by decide +kernel
theorem dL_steps_130 : decode cL_steps 130 = .ok (.invokestatic 25, 3) := by decide +kernel
theorem dL_steps_133 : decode cL_steps 133 = .ok (.lload 8, 2) := by decide +kernel
theorem dL_steps_135 : decode cL_steps 135 = .ok (.iload 13, 2) := by decide +kernel
theorem dL_steps_137 : decode cL_steps 137 = .ok (.invokestatic 35, 3) := by decide +kernel
theorem dL_steps_140 : decode cL_steps 140 = .ok (.invokestatic 25, 3) := by decide +kernel
theorem dL_steps_143 : decode cL_steps 143 = .ok (.if_icmp .eq 38, 3) := by decide +kernel
theorem dL_steps_146 : decode cL_steps 146 = .ok (.aload_n 0, 1) := by decide +kernel
theorem dL_steps_147 : decode cL_steps 147 = .ok (.aload_n 1, 1) := by decide +kernel
theorem dL_steps_148 : decode cL_steps 148 = .ok (.lload_n 2, 1) := by decide +kernel
theorem dL_steps_149 : decode cL_steps 149 = .ok (.iload 4, 2) := by decide +kernel
theorem dL_steps_151 : decode cL_steps 151 = .ok (.iload 5, 2) := by decide +kernel
theorem dL_steps_153 : decode cL_steps 153 = .ok (.iload 13, 2) := by decide +kernel
theorem dL_steps_155 : decode cL_steps 155 = .ok (.invokestatic 40, 3) := by decide +kernel
theorem dL_steps_158 : decode cL_steps 158 = .ok (.ifCond .eq 23, 3) := by decide +kernel
theorem dL_steps_161 : decode cL_steps 161 = .ok (.lload 11, 2) := by decide +kernel
theorem dL_steps_163 : decode cL_steps 163 = .ok (.lconst 1, 1) := by decide +kernel
theorem dL_steps_164 : decode cL_steps 164 = .ok (.iload 13, 2) := by decide +kernel
theorem dL_steps_166 : decode cL_steps 166 = .ok (.invokestatic 31, 3) := by decide +kernel
theorem dL_steps_169 : decode cL_steps 169 = .ok (.lshl, 1) := by decide +kernel
theorem dL_steps_170 : decode cL_steps 170 = .ok (.lconst 1, 1) := by decide +kernel
theorem dL_steps_171 : decode cL_steps 171 = .ok (.iload 13, 2) := by decide +kernel
theorem dL_steps_173 : decode cL_steps 173 = .ok (.invokestatic 35, 3) := by decide +kernel
theorem dL_steps_176 : decode cL_steps 176 = .ok (.lshl, 1) := by decide +kernel
theorem dL_steps_177 : decode cL_steps 177 = .ok (.lor, 1) := by decide +kernel
theorem dL_steps_178 : decode cL_steps 178 = .ok (.lor, 1) := by decide +kernel
theorem dL_steps_179 : decode cL_steps 179 = .ok (.lstore 11, 2) := by decide +kernel
theorem dL_steps_181 : decode cL_steps 181 = .ok (.iinc 13 1, 3) := by decide +kernel
theorem dL_steps_184 : decode cL_steps 184 = .ok (.goto (-68), 3) := by decide +kernel
theorem dL_steps_187 : decode cL_steps 187 = .ok (.lload 11, 2) := by decide +kernel
theorem dL_steps_189 : decode cL_steps 189 = .ok (.lstore 8, 2) := by decide +kernel
theorem dL_steps_191 : decode cL_steps 191 = .ok (.iinc 10 1, 3) := by decide +kernel
theorem dL_steps_194 : decode cL_steps 194 = .ok (.goto (-97), 3) := by decide +kernel
theorem dL_steps_197 : decode cL_steps 197 = .ok (.iload 10, 2) := by decide +kernel
theorem dL_steps_199 : decode cL_steps 199 = .ok (.ireturn, 1) := by decide +kernel
theorem dL_thresholds_0 : decode cL_thresholds 0 = .ok (.iload 7, 2) := by decide +kernel
theorem dL_thresholds_2 : decode cL_thresholds 2 = .ok (.iconst 5, 1) := by decide +kernel
theorem dL_thresholds_3 : decode cL_thresholds 3 = .ok (.ishr, 1) := by decide +kernel
theorem dL_thresholds_4 : decode cL_thresholds 4 = .ok (.iconst 2, 1) := by decide +kernel
theorem dL_thresholds_5 : decode cL_thresholds 5 = .ok (.invokestatic 77, 3) := by decide +kernel
theorem dL_thresholds_8 : decode cL_thresholds 8 = .ok (.ifCond .ne 7, 3) := by decide +kernel
theorem dL_thresholds_11 : decode cL_thresholds 11 = .ok (.iconst 1, 1) := by decide +kernel
theorem dL_thresholds_12 : decode cL_thresholds 12 = .ok (.goto 4, 3) := by decide +kernel
theorem dL_thresholds_15 : decode cL_thresholds 15 = .ok (.iconst 0, 1) := by decide +kernel
theorem dL_thresholds_16 : decode cL_thresholds 16 = .ok (.istore 8, 2) := by decide +kernel
theorem dL_thresholds_18 : decode cL_thresholds 18 = .ok (.iload 7, 2) := by decide +kernel
theorem dL_thresholds_20 : decode cL_thresholds 20 = .ok (.bipush 7, 2) := by decide +kernel
theorem dL_thresholds_22 : decode cL_thresholds 22 = .ok (.ishr, 1) := by decide +kernel
theorem dL_thresholds_23 : decode cL_thresholds 23 = .ok (.bipush 36, 2) := by decide +kernel
theorem dL_thresholds_25 : decode cL_thresholds 25 = .ok (.invokestatic 77, 3) := by decide +kernel
theorem dL_thresholds_28 : decode cL_thresholds 28 = .ok (.istore 9, 2) := by decide +kernel
theorem dL_thresholds_30 : decode cL_thresholds 30 = .ok (.aload_n 0, 1) := by decide +kernel
theorem dL_thresholds_31 : decode cL_thresholds 31 = .ok (.iload 5, 2) := by decide +kernel
theorem dL_thresholds_33 : decode cL_thresholds 33 = .ok (.iload 6, 2) := by decide +kernel
theorem dL_thresholds_35 : decode cL_thresholds 35 = .ok (.iload 8, 2) := by decide +kernel
theorem dL_thresholds_37 : decode cL_thresholds 37 = .ok (.invokevirtual 80, 3) := by decide +kernel
theorem dL_thresholds_40 : decode cL_thresholds 40 = .ok (.aload_n 1, 1) := by decide +kernel
theorem dL_thresholds_41 : decode cL_thresholds 41 = .ok (.aload_n 2, 1) := by decide +kernel
theorem dL_thresholds_42 : decode cL_thresholds 42 = .ok (.lload_n 3, 1) := by decide +kernel
theorem dL_thresholds_43 : decode cL_thresholds 43 = .ok (.iload 5, 2) := by decide +kernel
theorem dL_thresholds_45 : decode cL_thresholds 45 = .ok (.iload 6, 2) := by decide +kernel
theorem dL_thresholds_47 : decode cL_thresholds 47 = .ok (.iload 8, 2) := by decide +kernel
theorem dL_thresholds_49 : decode cL_thresholds 49 = .ok (.iconst (-1), 1) := by decide +kernel
theorem dL_thresholds_50 : decode cL_thresholds 50 = .ok (.invokestatic 84, 3) := by decide +kernel
theorem dL_thresholds_53 : decode cL_thresholds 53 = .ok (.if_icmp .eq 5, 3) := by decide +kernel
theorem dL_thresholds_56 : decode cL_thresholds 56 = .ok (.iconst 0, 1) := by decide +kernel
theorem dL_thresholds_57 : decode cL_thresholds 57 = .ok (.ireturn, 1) := by decide +kernel
theorem dL_thresholds_58 : decode cL_thresholds 58 = .ok (.aload_n 1, 1) := by decide +kernel
theorem dL_thresholds_59 : decode cL_thresholds 59 = .ok (.aload_n 2, 1) := by decide +kernel
theorem dL_thresholds_60 : decode cL_thresholds 60 = .ok (.lload_n 3, 1) := by decide +kernel
theorem dL_thresholds_61 : decode cL_thresholds 61 = .ok (.iload 5, 2) := by decide +kernel
theorem dL_thresholds_63 : decode cL_thresholds 63 = .ok (.iload 6, 2) := by decide +kernel
theorem dL_thresholds_65 : decode cL_thresholds 65 = .ok (.lconst 1, 1) := by decide +kernel
theorem dL_thresholds_66 : decode cL_thresholds 66 = .ok (.iload 9, 2) := by decide +kernel
theorem dL_thresholds_68 : decode cL_thresholds 68 = .ok (.lshl, 1) := by decide +kernel
theorem dL_thresholds_69 : decode cL_thresholds 69 = .ok (.iconst (-1), 1) := by decide +kernel
theorem dL_thresholds_70 : decode cL_thresholds 70 = .ok (.invokestatic 48, 3) := by decide +kernel
theorem dL_thresholds_73 : decode cL_thresholds 73 = .ok (.lstore 10, 2) := by decide +kernel
theorem dL_thresholds_75 : decode cL_thresholds 75 = .ok (.aload_n 0, 1) := by decide +kernel
theorem dL_thresholds_76 : decode cL_thresholds 76 = .ok (.iload 5, 2) := by decide +kernel
theorem dL_thresholds_78 : decode cL_thresholds 78 = .ok (.iload 6, 2) := by decide +kernel
theorem dL_thresholds_80 : decode cL_thresholds 80 = .ok (.iload 9, 2) := by decide +kernel
theorem dL_thresholds_82 : decode cL_thresholds 82 = .ok (.invokevirtual 88, 3) := by decide +kernel
theorem dL_thresholds_85 : decode cL_thresholds 85 = .ok (.lload 10, 2) := by decide +kernel
theorem dL_thresholds_87 : decode cL_thresholds 87 = .ok (.invokestatic 92, 3) := by decide +kernel
theorem dL_thresholds_90 : decode cL_thresholds 90 = .ok (.if_icmp .eq 5, 3) := by decide +kernel
theorem dL_thresholds_93 : decode cL_thresholds 93 = .ok (.iconst 0, 1) := by decide +kernel
theorem dL_thresholds_94 : decode cL_thresholds 94 = .ok (.ireturn, 1) := by decide +kernel
theorem dL_thresholds_95 : decode cL_thresholds 95 = .ok (.aload_n 1, 1) := by decide +kernel
theorem dL_thresholds_96 : decode cL_thresholds 96 = .ok (.aload_n 2, 1) := by decide +kernel
theorem dL_thresholds_97 : decode cL_thresholds 97 = .ok (.lload_n 3, 1) := by decide +kernel
theorem dL_thresholds_98 : decode cL_thresholds 98 = .ok (.iload 5, 2) := by decide +kernel
theorem dL_thresholds_100 : decode cL_thresholds 100 = .ok (.iload 6, 2) := by decide +kernel
theorem dL_thresholds_102 : decode cL_thresholds 102 = .ok (.ldc2_w 71, 3) := by decide +kernel
theorem dL_thresholds_105 : decode cL_thresholds 105 = .ok (.iconst (-1), 1) := by decide +kernel
theorem dL_thresholds_106 : decode cL_thresholds 106 = .ok (.invokestatic 48, 3) := by decide +kernel
theorem dL_thresholds_109 : decode cL_thresholds 109 = .ok (.lstore 12, 2) := by decide +kernel
theorem dL_thresholds_111 : decode cL_thresholds 111 = .ok (.iconst 0, 1) := by decide +kernel
theorem dL_thresholds_112 : decode cL_thresholds 112 = .ok (.istore 14, 2) := by decide +kernel
theorem dL_thresholds_114 : decode cL_thresholds 114 = .ok (.iconst 0, 1) := by decide +kernel
theorem dL_thresholds_115 : decode cL_thresholds 115 = .ok (.istore 15, 2) := by decide +kernel
theorem dL_thresholds_117 : decode cL_thresholds 117 = .ok (.iconst 0, 1) := by decide +kernel
theorem dL_thresholds_118 : decode cL_thresholds 118 = .ok (.istore 16, 2) := by decide +kernel
theorem dL_thresholds_120 : decode cL_thresholds 120 = .ok (.lload 12, 2) := by decide +kernel
theorem dL_thresholds_122 : decode cL_thresholds 122 = .ok (.lconst 0, 1) := by decide +kernel
theorem dL_thresholds_123 : decode cL_thresholds 123 = .ok (.lcmp, 1) := by decide +kernel
theorem dL_thresholds_124 : decode cL_thresholds 124 = .ok (.ifCond .eq 68, 3) := by decide +kernel
theorem dL_thresholds_127 : decode cL_thresholds 127 = .ok (.aload_n 1, 1) := by decide +kernel
theorem dL_thresholds_128 : decode cL_thresholds 128 = .ok (.aload_n 2, 1) := by decide +kernel
theorem dL_thresholds_129 : decode cL_thresholds 129 = .ok (.lload_n 3, 1) := by decide +kernel
theorem dL_thresholds_130 : decode cL_thresholds 130 = .ok (.iload 5, 2) := by decide +kernel
theorem dL_thresholds_132 : decode cL_thresholds 132 = .ok (.iload 6, 2) := by decide +kernel
theorem dL_thresholds_134 : decode cL_thresholds 134 = .ok (.lconst 1, 1) := by decide +kernel
theorem dL_thresholds_135 : decode cL_thresholds 135 = .ok (.lload 12, 2) := by decide +kernel
theorem dL_thresholds_137 : decode cL_thresholds 137 = .ok (.invokestatic 92, 3) := by decide +kernel
theorem dL_thresholds_140 : decode cL_thresholds 140 = .ok (.lshl, 1) := by decide +kernel
theorem dL_thresholds_141 : decode cL_thresholds 141 = .ok (.iconst (-1), 1) := by decide +kernel
theorem dL_thresholds_142 : decode cL_thresholds 142 = .ok (.invokestatic 48, 3) := by decide +kernel
theorem dL_thresholds_145 : decode cL_thresholds 145 = .ok (.lstore 17, 2) := by decide +kernel
theorem dL_thresholds_147 : decode cL_thresholds 147 = .ok (.lload 17, 2) := by decide +kernel
theorem dL_thresholds_149 : decode cL_thresholds 149 = .ok (.invokestatic 59, 3) := by decide +kernel
theorem dL_thresholds_152 : decode cL_thresholds 152 = .ok (.istore 19, 2) := by decide +kernel
theorem dL_thresholds_154 : decode cL_thresholds 154 = .ok (.iinc 14 1, 3) := by decide +kernel
theorem dL_thresholds_157 : decode cL_thresholds 157 = .ok (.iload 16, 2) := by decide +kernel
theorem dL_thresholds_159 : decode cL_thresholds 159 = .ok (.iload 19, 2) := by decide +kernel
theorem dL_thresholds_161 : decode cL_thresholds 161 = .ok (.iload 19, 2) := by decide +kernel
theorem dL_thresholds_163 : decode cL_thresholds 163 = .ok (.imul, 1) := by decide +kernel
theorem dL_thresholds_164 : decode cL_thresholds 164 = .ok (.iadd, 1) := by decide +kernel
theorem dL_thresholds_165 : decode cL_thresholds 165 = .ok (.istore 16, 2) := by decide +kernel
theorem dL_thresholds_167 : decode cL_thresholds 167 = .ok (.iload 19, 2) := by decide +kernel
theorem dL_thresholds_169 : decode cL_thresholds 169 = .ok (.iload 15, 2) := by decide +kernel
theorem dL_thresholds_171 : decode cL_thresholds 171 = .ok (.if_icmp .le 7, 3) := by decide +kernel
theorem dL_thresholds_174 : decode cL_thresholds 174 = .ok (.iload 19, 2) := by decide +kernel
theorem dL_thresholds_176 : decode cL_thresholds 176 = .ok (.istore 15, 2) := by decide +kernel
theorem dL_thresholds_178 : decode cL_thresholds 178 = .ok (.lload 12, 2) := by decide +kernel
theorem dL_thresholds_180 : decode cL_thresholds 180 = .ok (.lload 17, 2) := by decide +kernel
theorem dL_thresholds_182 : decode cL_thresholds 182 = .ok (.ldc2_w 38, 3) := by decide +kernel
theorem dL_thresholds_185 : decode cL_thresholds 185 = .ok (.lxor, 1) := by decide +kernel
theorem dL_thresholds_186 : decode cL_thresholds 186 = .ok (.land, 1) := by decide +kernel
theorem dL_thresholds_187 : decode cL_thresholds 187 = .ok (.lstore 12, 2) := by decide +kernel
theorem dL_thresholds_189 : decode cL_thresholds 189 = .ok (.goto (-69), 3) := by decide +kernel
theorem dL_thresholds_192 : decode cL_thresholds 192 = .ok (.aload_n 0, 1) := by decide +kernel
theorem dL_thresholds_193 : decode cL_thresholds 193 = .ok (.iload 5, 2) := by decide +kernel
theorem dL_thresholds_195 : decode cL_thresholds 195 = .ok (.iload 6, 2) := by decide +kernel
theorem dL_thresholds_197 : decode cL_thresholds 197 = .ok (.iconst 0, 1) := by decide +kernel
theorem dL_thresholds_198 : decode cL_thresholds 198 = .ok (.invokevirtual 95, 3) := by decide +kernel
theorem dL_thresholds_201 : decode cL_thresholds 201 = .ok (.iload 14, 2) := by decide +kernel
theorem dL_thresholds_203 : decode cL_thresholds 203 = .ok (.if_icmp .ne 31, 3) := by decide +kernel
theorem dL_thresholds_206 : decode cL_thresholds 206 = .ok (.aload_n 0, 1) := by decide +kernel
theorem dL_thresholds_207 : decode cL_thresholds 207 = .ok (.iload 5, 2) := by decide +kernel
theorem dL_thresholds_209 : decode cL_thresholds 209 = .ok (.iload 6, 2) := by decide +kernel
theorem dL_thresholds_211 : decode cL_thresholds 211 = .ok (.iconst 1, 1) := by decide +kernel
theorem dL_thresholds_212 : decode cL_thresholds 212 = .ok (.invokevirtual 95, 3) := by decide +kernel
theorem dL_thresholds_215 : decode cL_thresholds 215 = .ok (.iload 15, 2) := by decide +kernel
theorem dL_thresholds_217 : decode cL_thresholds 217 = .ok (.if_icmp .ne 17, 3) := by decide +kernel
theorem dL_thresholds_220 : decode cL_thresholds 220 = .ok (.aload_n 0, 1) := by decide +kernel
theorem dL_thresholds_221 : decode cL_thresholds 221 = .ok (.iload 5, 2) := by decide +kernel
theorem dL_thresholds_223 : decode cL_thresholds 223 = .ok (.iload 6, 2) := by decide +kernel
theorem dL_thresholds_225 : decode cL_thresholds 225 = .ok (.iconst 2, 1) := by decide +kernel
theorem dL_thresholds_226 : decode cL_thresholds 226 = .ok (.invokevirtual 95, 3) := by decide +kernel
theorem dL_thresholds_229 : decode cL_thresholds 229 = .ok (.iload 16, 2) := by decide +kernel
theorem dL_thresholds_231 : decode cL_thresholds 231 = .ok (.if_icmp .eq 5, 3) := by decide +kernel
theorem dL_thresholds_234 : decode cL_thresholds 234 = .ok (.iconst 0, 1) := by decide +kernel
theorem dL_thresholds_235 : decode cL_thresholds 235 = .ok (.ireturn, 1) := by decide +kernel
theorem dL_thresholds_236 : decode cL_thresholds 236 = .ok (.aload_n 0, 1) := by decide +kernel
theorem dL_thresholds_237 : decode cL_thresholds 237 = .ok (.iload 5, 2) := by decide +kernel
theorem dL_thresholds_239 : decode cL_thresholds 239 = .ok (.iload 8, 2) := by decide +kernel
theorem dL_thresholds_241 : decode cL_thresholds 241 = .ok (.invokevirtual 98, 3) := by decide +kernel
theorem dL_thresholds_244 : decode cL_thresholds 244 = .ok (.istore 17, 2) := by decide +kernel
theorem dL_thresholds_246 : decode cL_thresholds 246 = .ok (.iload 17, 2) := by decide +kernel
theorem dL_thresholds_248 : decode cL_thresholds 248 = .ok (.aload_n 0, 1) := by decide +kernel
theorem dL_thresholds_249 : decode cL_thresholds 249 = .ok (.iload 5, 2) := by decide +kernel
theorem dL_thresholds_251 : decode cL_thresholds 251 = .ok (.iload 8, 2) := by decide +kernel
theorem dL_thresholds_253 : decode cL_thresholds 253 = .ok (.invokevirtual 102, 3) := by decide +kernel
theorem dL_thresholds_256 : decode cL_thresholds 256 = .ok (.if_icmp .eq 5, 3) := by decide +kernel
theorem dL_thresholds_259 : decode cL_thresholds 259 = .ok (.iconst 0, 1) := by decide +kernel
theorem dL_thresholds_260 : decode cL_thresholds 260 = .ok (.ireturn, 1) := by decide +kernel
theorem dL_thresholds_261 : decode cL_thresholds 261 = .ok (.iload 17, 2) := by decide +kernel
theorem dL_thresholds_263 : decode cL_thresholds 263 = .ok (.ifCond .ge 23, 3) := by decide +kernel
theorem dL_thresholds_266 : decode cL_thresholds 266 = .ok (.aload_n 1, 1) := by decide +kernel
theorem dL_thresholds_267 : decode cL_thresholds 267 = .ok (.aload_n 2, 1) := by decide +kernel
theorem dL_thresholds_268 : decode cL_thresholds 268 = .ok (.lload_n 3, 1) := by decide +kernel
theorem dL_thresholds_269 : decode cL_thresholds 269 = .ok (.iload 5, 2) := by decide +kernel
theorem dL_thresholds_271 : decode cL_thresholds 271 = .ok (.sipush 1000, 3) := by decide +kernel
theorem dL_thresholds_274 : decode cL_thresholds 274 = .ok (.iload 8, 2) := by decide +kernel
theorem dL_thresholds_276 : decode cL_thresholds 276 = .ok (.iconst (-1), 1) := by decide +kernel
theorem dL_thresholds_277 : decode cL_thresholds 277 = .ok (.invokestatic 84, 3) := by decide +kernel
theorem dL_thresholds_280 : decode cL_thresholds 280 = .ok (.ifCond .eq 42, 3) := by decide +kernel
theorem dL_thresholds_283 : decode cL_thresholds 283 = .ok (.goto 37, 3) := by decide +kernel
theorem dL_thresholds_286 : decode cL_thresholds 286 = .ok (.aload_n 1, 1) := by decide +kernel
theorem dL_thresholds_287 : decode cL_thresholds 287 = .ok (.aload_n 2, 1) := by decide +kernel
theorem dL_thresholds_288 : decode cL_thresholds 288 = .ok (.lload_n 3, 1) := by decide +kernel
theorem dL_thresholds_289 : decode cL_thresholds 289 = .ok (.iload 5, 2) := by decide +kernel
theorem dL_thresholds_291 : decode cL_thresholds 291 = .ok (.iload 17, 2) := by decide +kernel
theorem dL_thresholds_293 : decode cL_thresholds 293 = .ok (.iload 8, 2) := by decide +kernel
theorem dL_thresholds_295 : decode cL_thresholds 295 = .ok (.iconst (-1), 1) := by decide +kernel
theorem dL_thresholds_296 : decode cL_thresholds 296 = .ok (.invokestatic 84, 3) := by decide +kernel
theorem dL_thresholds_299 : decode cL_thresholds 299 = .ok (.ifCond .eq 21, 3) := by decide +kernel
theorem dL_thresholds_302 : decode cL_thresholds 302 = .ok (.aload_n 1, 1) := by decide +kernel
theorem dL_thresholds_303 : decode cL_thresholds 303 = .ok (.aload_n 2, 1) := by decide +kernel
theorem dL_thresholds_304 : decode cL_thresholds 304 = .ok (.lload_n 3, 1) := by decide +kernel
theorem dL_thresholds_305 : decode cL_thresholds 305 = .ok (.iload 5, 2) := by decide +kernel
theorem dL_thresholds_307 : decode cL_thresholds 307 = .ok (.iload 17, 2) := by decide +kernel
theorem dL_thresholds_309 : decode cL_thresholds 309 = .ok (.iconst 1, 1) := by decide +kernel
theorem dL_thresholds_310 : decode cL_thresholds 310 = .ok (.isub, 1) := by decide +kernel
theorem dL_thresholds_311 : decode cL_thresholds 311 = .ok (.iload 8, 2) := by decide +kernel
theorem dL_thresholds_313 : decode cL_thresholds 313 = .ok (.iconst (-1), 1) := by decide +kernel
theorem dL_thresholds_314 : decode cL_thresholds 314 = .ok (.invokestatic 84, 3) := by decide +kernel
theorem dL_thresholds_317 : decode cL_thresholds 317 = .ok (.ifCond .eq 5, 3) := by decide +kernel
theorem dL_thresholds_320 : decode cL_thresholds 320 = .ok (.iconst 0, 1) := by decide +kernel
theorem dL_thresholds_321 : decode cL_thresholds 321 = .ok (.ireturn, 1) := by decide +kernel
theorem dL_thresholds_322 : decode cL_thresholds 322 = .ok (.aload_n 1, 1) := by decide +kernel
theorem dL_thresholds_323 : decode cL_thresholds 323 = .ok (.aload_n 2, 1) := by decide +kernel
theorem dL_thresholds_324 : decode cL_thresholds 324 = .ok (.lload_n 3, 1) := by decide +kernel
theorem dL_thresholds_325 : decode cL_thresholds 325 = .ok (.iload 5, 2) := by decide +kernel
theorem dL_thresholds_327 : decode cL_thresholds 327 = .ok (.iload 6, 2) := by decide +kernel
theorem dL_thresholds_329 : decode cL_thresholds 329 = .ok (.invokestatic 105, 3) := by decide +kernel
theorem dL_thresholds_332 : decode cL_thresholds 332 = .ok (.istore 18, 2) := by decide +kernel
theorem dL_thresholds_334 : decode cL_thresholds 334 = .ok (.iconst 0, 1) := by decide +kernel
theorem dL_thresholds_335 : decode cL_thresholds 335 = .ok (.istore 19, 2) := by decide +kernel
theorem dL_thresholds_337 : decode cL_thresholds 337 = .ok (.iconst 0, 1) := by decide +kernel
theorem dL_thresholds_338 : decode cL_thresholds 338 = .ok (.istore 20, 2) := by decide +kernel
theorem dL_thresholds_340 : decode cL_thresholds 340 = .ok (.iload 20, 2) := by decide +kernel
theorem dL_thresholds_342 : decode cL_thresholds 342 = .ok (.bipush 60, 2) := by decide +kernel
theorem dL_thresholds_344 : decode cL_thresholds 344 = .ok (.if_icmp .ge 56, 3) := by decide +kernel
theorem dL_thresholds_347 : decode cL_thresholds 347 = .ok (.iload 18, 2) := by decide +kernel
theorem dL_thresholds_349 : decode cL_thresholds 349 = .ok (.iconst 1, 1) := by decide +kernel
theorem dL_thresholds_350 : decode cL_thresholds 350 = .ok (.if_icmp .ne 50, 3) := by decide +kernel
theorem dL_thresholds_353 : decode cL_thresholds 353 = .ok (.iload 19, 2) := by decide +kernel
theorem dL_thresholds_355 : decode cL_thresholds 355 = .ok (.aload_n 1, 1) := by decide +kernel
theorem dL_thresholds_356 : decode cL_thresholds 356 = .ok (.aload_n 2, 1) := by decide +kernel
theorem dL_thresholds_357 : decode cL_thresholds 357 = .ok (.lload_n 3, 1) := by decide +kernel
theorem dL_thresholds_358 : decode cL_thresholds 358 = .ok (.iload 5, 2) := by decide +kernel
theorem dL_thresholds_360 : decode cL_thresholds 360 = .ok (.iload 6, 2) := by decide +kernel
theorem dL_thresholds_362 : decode cL_thresholds 362 = .ok (.iload 20, 2) := by decide +kernel
theorem dL_thresholds_364 : decode cL_thresholds 364 = .ok (.invokestatic 40, 3) := by decide +kernel
theorem dL_thresholds_367 : decode cL_thresholds 367 = .ok (.ifCond .eq 23, 3) := by decide +kernel
theorem dL_thresholds_370 : decode cL_thresholds 370 = .ok (.aload_n 1, 1) := by decide +kernel
theorem dL_thresholds_371 : decode cL_thresholds 371 = .ok (.aload_n 2, 1) := by decide +kernel
theorem dL_thresholds_372 : decode cL_thresholds 372 = .ok (.lload_n 3, 1) := by decide +kernel
theorem dL_thresholds_373 : decode cL_thresholds 373 = .ok (.iload 5, 2) := by decide +kernel
theorem dL_thresholds_375 : decode cL_thresholds 375 = .ok (.iload 6, 2) := by decide +kernel
theorem dL_thresholds_377 : decode cL_thresholds 377 = .ok (.iconst 0, 1) := by decide +kernel
theorem dL_thresholds_378 : decode cL_thresholds 378 = .ok (.iload 20, 2) := by decide +kernel
theorem dL_thresholds_380 : decode cL_thresholds 380 = .ok (.invokestatic 84, 3) := by decide +kernel
theorem dL_thresholds_383 : decode cL_thresholds 383 = .ok (.ifCond .ne 7, 3) := by decide +kernel
theorem dL_thresholds_386 : decode cL_thresholds 386 = .ok (.iconst 1, 1) := by decide +kernel
theorem dL_thresholds_387 : decode cL_thresholds 387 = .ok (.goto 4, 3) := by decide +kernel
theorem dL_thresholds_390 : decode cL_thresholds 390 = .ok (.iconst 0, 1) := by decide +kernel
theorem dL_thresholds_391 : decode cL_thresholds 391 = .ok (.iadd, 1) := by decide +kernel
theorem dL_thresholds_392 : decode cL_thresholds 392 = .ok (.istore 19, 2) := by decide +kernel
theorem dL_thresholds_394 : decode cL_thresholds 394 = .ok (.iinc 20 1, 3) := by decide +kernel
theorem dL_thresholds_397 : decode cL_thresholds 397 = .ok (.goto (-57), 3) := by decide +kernel
theorem dL_thresholds_400 : decode cL_thresholds 400 = .ok (.aload_n 0, 1) := by decide +kernel
theorem dL_thresholds_401 : decode cL_thresholds 401 = .ok (.iload 5, 2) := by decide +kernel
theorem dL_thresholds_403 : decode cL_thresholds 403 = .ok (.iload 6, 2) := by decide +kernel
theorem dL_thresholds_405 : decode cL_thresholds 405 = .ok (.invokevirtual 109, 3) := by decide +kernel
theorem dL_thresholds_408 : decode cL_thresholds 408 = .ok (.iload 18, 2) := by decide +kernel
theorem dL_thresholds_410 : decode cL_thresholds 410 = .ok (.if_icmp .ne 54, 3) := by decide +kernel
theorem dL_thresholds_413 : decode cL_thresholds 413 = .ok (.aload_n 0, 1) := by decide +kernel
theorem dL_thresholds_414 : decode cL_thresholds 414 = .ok (.iload 5, 2) := by decide +kernel
theorem dL_thresholds_416 : decode cL_thresholds 416 = .ok (.iload 6, 2) := by decide +kernel
theorem dL_thresholds_418 : decode cL_thresholds 418 = .ok (.invokevirtual 112, 3) := by decide +kernel
theorem dL_thresholds_421 : decode cL_thresholds 421 = .ok (.iload 18, 2) := by decide +kernel
theorem dL_thresholds_423 : decode cL_thresholds 423 = .ok (.if_icmp .ne 41, 3) := by decide +kernel
theorem dL_thresholds_426 : decode cL_thresholds 426 = .ok (.aload_n 0, 1) := by decide +kernel
theorem dL_thresholds_427 : decode cL_thresholds 427 = .ok (.iload 5, 2) := by decide +kernel
theorem dL_thresholds_429 : decode cL_thresholds 429 = .ok (.iload 6, 2) := by decide +kernel
theorem dL_thresholds_431 : decode cL_thresholds 431 = .ok (.invokevirtual 115, 3) := by decide +kernel
theorem dL_thresholds_434 : decode cL_thresholds 434 = .ok (.iload 19, 2) := by decide +kernel
theorem dL_thresholds_436 : decode cL_thresholds 436 = .ok (.if_icmp .ne 28, 3) := by decide +kernel
theorem dL_thresholds_439 : decode cL_thresholds 439 = .ok (.aload_n 0, 1) := by decide +kernel
theorem dL_thresholds_440 : decode cL_thresholds 440 = .ok (.iload 5, 2) := by decide +kernel
theorem dL_thresholds_442 : decode cL_thresholds 442 = .ok (.iload 6, 2) := by decide +kernel
theorem dL_thresholds_444 : decode cL_thresholds 444 = .ok (.invokevirtual 118, 3) := by decide +kernel
theorem dL_thresholds_447 : decode cL_thresholds 447 = .ok (.aload_n 1, 1) := by decide +kernel
theorem dL_thresholds_448 : decode cL_thresholds 448 = .ok (.aload_n 2, 1) := by decide +kernel
theorem dL_thresholds_449 : decode cL_thresholds 449 = .ok (.lload_n 3, 1) := by decide +kernel
theorem dL_thresholds_450 : decode cL_thresholds 450 = .ok (.iload 5, 2) := by decide +kernel
theorem dL_thresholds_452 : decode cL_thresholds 452 = .ok (.iload 6, 2) := by decide +kernel
theorem dL_thresholds_454 : decode cL_thresholds 454 = .ok (.invokestatic 121, 3) := by decide +kernel
theorem dL_thresholds_457 : decode cL_thresholds 457 = .ok (.if_icmp .ne 7, 3) := by decide +kernel
theorem dL_thresholds_460 : decode cL_thresholds 460 = .ok (.iconst 1, 1) := by decide +kernel
theorem dL_thresholds_461 : decode cL_thresholds 461 = .ok (.goto 4, 3) := by decide +kernel
theorem dL_thresholds_464 : decode cL_thresholds 464 = .ok (.iconst 0, 1) := by decide +kernel
theorem dL_thresholds_465 : decode cL_thresholds 465 = .ok (.ireturn, 1) := by decide +kernel
theorem dL_nears_0 : decode cL_nears 0 = .ok (.iconst 0, 1) := by decide +kernel
theorem dL_nears_1 : decode cL_nears 1 = .ok (.istore 5, 2) := by decide +kernel
theorem dL_nears_3 : decode cL_nears 3 = .ok (.iload 5, 2) := by decide +kernel
theorem dL_nears_5 : decode cL_nears 5 = .ok (.bipush 36, 2) := by decide +kernel
theorem dL_nears_7 : decode cL_nears 7 = .ok (.if_icmp .ge 15, 3) := by decide +kernel
theorem dL_nears_10 : decode cL_nears 10 = .ok (.aload 4, 2) := by decide +kernel
theorem dL_nears_12 : decode cL_nears 12 = .ok (.iload 5, 2) := by decide +kernel
theorem dL_nears_14 : decode cL_nears 14 = .ok (.iconst (-1), 1) := by decide +kernel
theorem dL_nears_15 : decode cL_nears 15 = .ok (.iastore, 1) := by decide +kernel
theorem dL_nears_16 : decode cL_nears 16 = .ok (.iinc 5 1, 3) := by decide +kernel
theorem dL_nears_19 : decode cL_nears 19 = .ok (.goto (-16), 3) := by decide +kernel
theorem dL_nears_22 : decode cL_nears 22 = .ok (.lload_n 1, 1) := by decide +kernel
theorem dL_nears_23 : decode cL_nears 23 = .ok (.iload_n 3, 1) := by decide +kernel
theorem dL_nears_24 : decode cL_nears 24 = .ok (.invokestatic 25, 3) := by decide +kernel
theorem dL_nears_27 : decode cL_nears 27 = .ok (.ifCond .eq 4, 3) := by decide +kernel
theorem dL_nears_30 : decode cL_nears 30 = .ok (.return_, 1) := by decide +kernel
theorem dL_nears_31 : decode cL_nears 31 = .ok (.aload 4, 2) := by decide +kernel
theorem dL_nears_33 : decode cL_nears 33 = .ok (.iload_n 3, 1) := by decide +kernel
theorem dL_nears_34 : decode cL_nears 34 = .ok (.iconst 0, 1) := by decide +kernel
theorem dL_nears_35 : decode cL_nears 35 = .ok (.iastore, 1) := by decide +kernel
theorem dL_nears_36 : decode cL_nears 36 = .ok (.lconst 0, 1) := by decide +kernel
theorem dL_nears_37 : decode cL_nears 37 = .ok (.lstore 5, 2) := by decide +kernel
theorem dL_nears_39 : decode cL_nears 39 = .ok (.iload_n 3, 1) := by decide +kernel
theorem dL_nears_40 : decode cL_nears 40 = .ok (.istore 7, 2) := by decide +kernel
theorem dL_nears_42 : decode cL_nears 42 = .ok (.iload 7, 2) := by decide +kernel
theorem dL_nears_44 : decode cL_nears 44 = .ok (.ifCond .lt 188, 3) := by decide +kernel
theorem dL_nears_47 : decode cL_nears 47 = .ok (.lload 5, 2) := by decide +kernel
theorem dL_nears_49 : decode cL_nears 49 = .ok (.lconst 1, 1) := by decide +kernel
theorem dL_nears_50 : decode cL_nears 50 = .ok (.iload 7, 2) := by decide +kernel
theorem dL_nears_52 : decode cL_nears 52 = .ok (.lshl, 1) := by decide +kernel
theorem dL_nears_53 : decode cL_nears 53 = .ok (.lor, 1) := by decide +kernel
theorem dL_nears_54 : decode cL_nears 54 = .ok (.lstore 5, 2) := by decide +kernel
theorem dL_nears_56 : decode cL_nears 56 = .ok (.iconst 0, 1) := by decide +kernel
theorem dL_nears_57 : decode cL_nears 57 = .ok (.istore 8, 2) := by decide +kernel
theorem dL_nears_59 : decode cL_nears 59 = .ok (.iload 8, 2) := by decide +kernel
theorem dL_nears_61 : decode cL_nears 61 = .ok (.bipush 60, 2) := by decide +kernel
theorem dL_nears_63 : decode cL_nears 63 = .ok (.if_icmp .ge 107, 3) := by decide +kernel
theorem dL_nears_66 : decode cL_nears 66 = .ok (.iload 8, 2) := by decide +kernel
theorem dL_nears_68 : decode cL_nears 68 = .ok (.invokestatic 31, 3) := by decide +kernel
theorem dL_nears_71 : decode cL_nears 71 = .ok (.iload 7, 2) := by decide +kernel
theorem dL_nears_73 : decode cL_nears 73 = .ok (.if_icmp .ne 11, 3) := by decide +kernel
theorem dL_nears_76 : decode cL_nears 76 = .ok (.iload 8, 2) := by decide +kernel
theorem dL_nears_78 : decode cL_nears 78 = .ok (.invokestatic 35, 3) := by decide +kernel
theorem dL_nears_81 : decode cL_nears 81 = .ok (.goto 22, 3) := by decide +kernel
theorem dL_nears_84 : decode cL_nears 84 = .ok (.iload 8, 2) := by decide +kernel
theorem dL_nears_86 : decode cL_nears 86 = .ok (.invokestatic 35, 3) := by decide +kernel
theorem dL_nears_89 : decode cL_nears 89 = .ok (.iload 7, 2) := by decide +kernel
theorem dL_nears_91 : decode cL_nears 91 = .ok (.if_icmp .ne 11, 3) := by decide +kernel
theorem dL_nears_94 : decode cL_nears 94 = .ok (.iload 8, 2) := by decide +kernel
theorem dL_nears_96 : decode cL_nears 96 = .ok (.invokestatic 31, 3) := by decide +kernel
theorem dL_nears_99 : decode cL_nears 99 = .ok (.goto 4, 3) := by decide +kernel
theorem dL_nears_102 : decode cL_nears 102 = .ok (.iconst (-1), 1) := by decide +kernel
theorem dL_nears_103 : decode cL_nears 103 = .ok (.istore 9, 2) := by decide +kernel
theorem dL_nears_105 : decode cL_nears 105 = .ok (.iload 9, 2) := by decide +kernel
theorem dL_nears_107 : decode cL_nears 107 = .ok (.ifCond .lt 57, 3) := by decide +kernel
theorem dL_nears_110 : decode cL_nears 110 = .ok (.lload_n 1, 1) := by decide +kernel
theorem dL_nears_111 : decode cL_nears 111 = .ok (.iload 9, 2) := by decide +kernel
theorem dL_nears_113 : decode cL_nears 113 = .ok (.invokestatic 25, 3) := by decide +kernel
theorem dL_nears_116 : decode cL_nears 116 = .ok (.ifCond .ne 48, 3) := by decide +kernel
theorem dL_nears_119 : decode cL_nears 119 = .ok (.aload 4, 2) := by decide +kernel
theorem dL_nears_121 : decode cL_nears 121 = .ok (.iload 9, 2) := by decide +kernel
theorem dL_nears_123 : decode cL_nears 123 = .ok (.iaload, 1) := by decide +kernel
theorem dL_nears_124 : decode cL_nears 124 = .ok (.ifCond .lt 23, 3) := by decide +kernel
theorem dL_nears_127 : decode cL_nears 127 = .ok (.aload 4, 2) := by decide +kernel
theorem dL_nears_129 : decode cL_nears 129 = .ok (.iload 7, 2) := by decide +kernel
theorem dL_nears_131 : decode cL_nears 131 = .ok (.iaload, 1) := by decide +kernel
theorem dL_nears_132 : decode cL_nears 132 = .ok (.aload_n 0, 1) := by decide +kernel
theorem dL_nears_133 : decode cL_nears 133 = .ok (.iload 8, 2) := by decide +kernel
theorem dL_nears_135 : decode cL_nears 135 = .ok (.iaload, 1) := by decide +kernel
theorem dL_nears_136 : decode cL_nears 136 = .ok (.iadd, 1) := by decide +kernel
theorem dL_nears_137 : decode cL_nears 137 = .ok (.iconst 1, 1) := by decide +kernel
theorem dL_nears_138 : decode cL_nears 138 = .ok (.iadd, 1) := by decide +kernel
theorem dL_nears_139 : decode cL_nears 139 = .ok (.aload 4, 2) := by decide +kernel
theorem dL_nears_141 : decode cL_nears 141 = .ok (.iload 9, 2) := by decide +kernel
theorem dL_nears_143 : decode cL_nears 143 = .ok (.iaload, 1) := by decide +kernel
theorem dL_nears_144 : decode cL_nears 144 = .ok (.if_icmp .ge 20, 3) := by decide +kernel
theorem dL_nears_147 : decode cL_nears 147 = .ok (.aload 4, 2) := by decide +kernel
theorem dL_nears_149 : decode cL_nears 149 = .ok (.iload 9, 2) := by decide +kernel
theorem dL_nears_151 : decode cL_nears 151 = .ok (.aload 4, 2) := by decide +kernel
theorem dL_nears_153 : decode cL_nears 153 = .ok (.iload 7, 2) := by decide +kernel
theorem dL_nears_155 : decode cL_nears 155 = .ok (.iaload, 1) := by decide +kernel
theorem dL_nears_156 : decode cL_nears 156 = .ok (.aload_n 0, 1) := by decide +kernel
theorem dL_nears_157 : decode cL_nears 157 = .ok (.iload 8, 2) := by decide +kernel
theorem dL_nears_159 : decode cL_nears 159 = .ok (.iaload, 1) := by decide +kernel
theorem dL_nears_160 : decode cL_nears 160 = .ok (.iadd, 1) := by decide +kernel
theorem dL_nears_161 : decode cL_nears 161 = .ok (.iconst 1, 1) := by decide +kernel
theorem dL_nears_162 : decode cL_nears 162 = .ok (.iadd, 1) := by decide +kernel
theorem dL_nears_163 : decode cL_nears 163 = .ok (.iastore, 1) := by decide +kernel
theorem dL_nears_164 : decode cL_nears 164 = .ok (.iinc 8 1, 3) := by decide +kernel
theorem dL_nears_167 : decode cL_nears 167 = .ok (.goto (-108), 3) := by decide +kernel
theorem dL_nears_170 : decode cL_nears 170 = .ok (.iconst (-1), 1) := by decide +kernel
theorem dL_nears_171 : decode cL_nears 171 = .ok (.istore 7, 2) := by decide +kernel
theorem dL_nears_173 : decode cL_nears 173 = .ok (.iconst 0, 1) := by decide +kernel
theorem dL_nears_174 : decode cL_nears 174 = .ok (.istore 8, 2) := by decide +kernel
theorem dL_nears_176 : decode cL_nears 176 = .ok (.iload 8, 2) := by decide +kernel
theorem dL_nears_178 : decode cL_nears 178 = .ok (.bipush 36, 2) := by decide +kernel
theorem dL_nears_180 : decode cL_nears 180 = .ok (.if_icmp .ge 49, 3) := by decide +kernel
theorem dL_nears_183 : decode cL_nears 183 = .ok (.lload 5, 2) := by decide +kernel
theorem dL_nears_185 : decode cL_nears 185 = .ok (.iload 8, 2) := by decide +kernel
theorem dL_nears_187 : decode cL_nears 187 = .ok (.invokestatic 25, 3) := by decide +kernel
theorem dL_nears_190 : decode cL_nears 190 = .ok (.ifCond .ne 33, 3) := by decide +kernel
theorem dL_nears_193 : decode cL_nears 193 = .ok (.aload 4, 2) := by decide +kernel
theorem dL_nears_195 : decode cL_nears 195 = .ok (.iload 8, 2) := by decide +kernel
theorem dL_nears_197 : decode cL_nears 197 = .ok (.iaload, 1) := by decide +kernel
theorem dL_nears_198 : decode cL_nears 198 = .ok (.ifCond .lt 25, 3) := by decide +kernel
theorem dL_nears_201 : decode cL_nears 201 = .ok (.iload 7, 2) := by decide +kernel
theorem dL_nears_203 : decode cL_nears 203 = .ok (.ifCond .lt 16, 3) := by decide +kernel
theorem dL_nears_206 : decode cL_nears 206 = .ok (.aload 4, 2) := by decide +kernel
theorem dL_nears_208 : decode cL_nears 208 = .ok (.iload 8, 2) := by decide +kernel
theorem dL_nears_210 : decode cL_nears 210 = .ok (.iaload, 1) := by decide +kernel
theorem dL_nears_211 : decode cL_nears 211 = .ok (.aload 4, 2) := by decide +kernel
theorem dL_nears_213 : decode cL_nears 213 = .ok (.iload 7, 2) := by decide +kernel
theorem dL_nears_215 : decode cL_nears 215 = .ok (.iaload, 1) := by decide +kernel
theorem dL_nears_216 : decode cL_nears 216 = .ok (.if_icmp .ge 7, 3) := by decide +kernel
theorem dL_nears_219 : decode cL_nears 219 = .ok (.iload 8, 2) := by decide +kernel
theorem dL_nears_221 : decode cL_nears 221 = .ok (.istore 7, 2) := by decide +kernel
theorem dL_nears_223 : decode cL_nears 223 = .ok (.iinc 8 1, 3) := by decide +kernel
theorem dL_nears_226 : decode cL_nears 226 = .ok (.goto (-50), 3) := by decide +kernel
theorem dL_nears_229 : decode cL_nears 229 = .ok (.goto (-187), 3) := by decide +kernel
theorem dL_nears_232 : decode cL_nears 232 = .ok (.return_, 1) := by decide +kernel
