theorem dc_R_write_4 : decode bc_R_write 4 = .ok (.ifCond .eq 17, 3) := by decide +kernel
theorem dc_R_write_21 : decode bc_R_write 21 = .ok (.iconst (-1), 1) := by decide +kernel
theorem dc_R_write_22 : decode bc_R_write 22 = .ok (.ireturn, 1) := by decide +kernel
theorem dc_R_write_7 : decode bc_R_write 7 = .ok (.iload_n 2, 1) := by decide +kernel
theorem dc_R_write_8 : decode bc_R_write 8 = .ok (.invokestatic 28, 3) := by decide +kernel
theorem dc_R_write_11 : decode bc_R_write 11 = .ok (.ifCond .eq 10, 3) := by decide +kernel
theorem dc_R_write_14 : decode bc_R_write 14 = .ok (.iload_n 3, 1) := by decide +kernel
theorem dc_R_write_15 : decode bc_R_write 15 = .ok (.invokestatic 31, 3) := by decide +kernel
theorem dc_R_write_18 : decode bc_R_write 18 = .ok (.ifCond .ne 5, 3) := by decide +kernel
theorem dc_R_write_23 : decode bc_R_write 23 = .ok (.sipush 4096, 3) := by decide +kernel
theorem dc_R_write_26 : decode bc_R_write 26 = .ok (.iload_n 1, 1) := by decide +kernel
theorem dc_R_write_27 : decode bc_R_write 27 = .ok (.imul, 1) := by decide +kernel
theorem dc_R_write_28 : decode bc_R_write 28 = .ok (.iload_n 2, 1) := by decide +kernel
theorem dc_R_write_29 : decode bc_R_write 29 = .ok (.iadd, 1) := by decide +kernel
theorem dc_R_write_30 : decode bc_R_write 30 = .ok (.istore 4, 2) := by decide +kernel
theorem dc_R_write_32 : decode bc_R_write 32 = .ok (.aload_n 0, 1) := by decide +kernel
theorem dc_R_write_33 : decode bc_R_write 33 = .ok (.getfield 8, 3) := by decide +kernel
theorem dc_R_write_36 : decode bc_R_write 36 = .ok (.iload 4, 2) := by decide +kernel
theorem dc_R_write_38 : decode bc_R_write 38 = .ok (.iaload, 1) := by decide +kernel
theorem dc_R_write_39 : decode bc_R_write 39 = .ok (.ifCond .ne 26, 3) := by decide +kernel
theorem dc_R_write_65 : decode bc_R_write 65 = .ok (.aload_n 0, 1) := by decide +kernel
theorem dc_R_write_66 : decode bc_R_write 66 = .ok (.getfield 8, 3) := by decide +kernel
theorem dc_R_write_69 : decode bc_R_write 69 = .ok (.iload 4, 2) := by decide +kernel
theorem dc_R_write_71 : decode bc_R_write 71 = .ok (.iload_n 3, 1) := by decide +kernel
theorem dc_R_write_72 : decode bc_R_write 72 = .ok (.iconst 1, 1) := by decide +kernel
theorem dc_R_write_73 : decode bc_R_write 73 = .ok (.iadd, 1) := by decide +kernel
theorem dc_R_write_74 : decode bc_R_write 74 = .ok (.iastore, 1) := by decide +kernel
theorem dc_R_write_75 : decode bc_R_write 75 = .ok (.aload_n 0, 1) := by decide +kernel
theorem dc_R_write_76 : decode bc_R_write 76 = .ok (.getfield 17, 3) := by decide +kernel
theorem dc_R_write_79 : decode bc_R_write 79 = .ok (.iload_n 1, 1) := by decide +kernel
theorem dc_R_write_80 : decode bc_R_write 80 = .ok (.iaload, 1) := by decide +kernel
theorem dc_R_write_81 : decode bc_R_write 81 = .ok (.ireturn, 1) := by decide +kernel
theorem dc_R_write_42 : decode bc_R_write 42 = .ok (.aload_n 0, 1) := by decide +kernel
theorem dc_R_write_43 : decode bc_R_write 43 = .ok (.invokevirtual 34, 3) := by decide +kernel
theorem dc_R_write_46 : decode bc_R_write 46 = .ok (.sipush 600, 3) := by decide +kernel
theorem dc_R_write_49 : decode bc_R_write 49 = .ok (.if_icmp .ne 6, 3) := by decide +kernel
theorem dc_R_write_55 : decode bc_R_write 55 = .ok (.aload_n 0, 1) := by decide +kernel
theorem dc_R_write_56 : decode bc_R_write 56 = .ok (.getfield 17, 3) := by decide +kernel
theorem dc_R_write_59 : decode bc_R_write 59 = .ok (.iload_n 1, 1) := by decide +kernel
theorem dc_R_write_60 : decode bc_R_write 60 = .ok (.dup2, 1) := by decide +kernel
theorem dc_R_write_61 : decode bc_R_write 61 = .ok (.iaload, 1) := by decide +kernel
theorem dc_R_write_62 : decode bc_R_write 62 = .ok (.iconst 1, 1) := by decide +kernel
theorem dc_R_write_63 : decode bc_R_write 63 = .ok (.iadd, 1) := by decide +kernel
theorem dc_R_write_64 : decode bc_R_write 64 = .ok (.iastore, 1) := by decide +kernel
theorem dc_R_write_52 : decode bc_R_write 52 = .ok (.bipush (-3), 2) := by decide +kernel
theorem dc_R_write_54 : decode bc_R_write 54 = .ok (.ireturn, 1) := by decide +kernel
theorem dc_R_isMap_0 : decode bc_R_isMap 0 = .ok (.iload_n 0, 1) := by decide +kernel
theorem dc_R_isMap_1 : decode bc_R_isMap 1 = .ok (.ifCond .lt 13, 3) := by decide +kernel
theorem dc_R_isMap_14 : decode bc_R_isMap 14 = .ok (.iconst 0, 1) := by decide +kernel
theorem dc_R_isMap_15 : decode bc_R_isMap 15 = .ok (.ireturn, 1) := by decide +kernel
theorem dc_R_isMap_4 : decode bc_R_isMap 4 = .ok (.iload_n 0, 1) := by decide +kernel
theorem dc_R_isMap_5 : decode bc_R_isMap 5 = .ok (.bipush 8, 2) := by decide +kernel
theorem dc_R_isMap_7 : decode bc_R_isMap 7 = .ok (.if_icmp .ge 7, 3) := by decide +kernel
theorem dc_R_isMap_10 : decode bc_R_isMap 10 = .ok (.iconst 1, 1) := by decide +kernel
theorem dc_R_isMap_11 : decode bc_R_isMap 11 = .ok (.goto 4, 3) := by decide +kernel
theorem dc_R_isKey_0 : decode bc_R_isKey 0 = .ok (.iload_n 0, 1) := by decide +kernel
theorem dc_R_isKey_1 : decode bc_R_isKey 1 = .ok (.ifCond .lt 14, 3) := by decide +kernel
theorem dc_R_isKey_15 : decode bc_R_isKey 15 = .ok (.iconst 0, 1) := by decide +kernel
theorem dc_R_isKey_16 : decode bc_R_isKey 16 = .ok (.ireturn, 1) := by decide +kernel
theorem dc_R_isKey_4 : decode bc_R_isKey 4 = .ok (.iload_n 0, 1) := by decide +kernel
theorem dc_R_isKey_5 : decode bc_R_isKey 5 = .ok (.sipush 4096, 3) := by decide +kernel
theorem dc_R_isKey_8 : decode bc_R_isKey 8 = .ok (.if_icmp .ge 7, 3) := by decide +kernel
theorem dc_R_isKey_11 : decode bc_R_isKey 11 = .ok (.iconst 1, 1) := by decide +kernel
theorem dc_R_isKey_12 : decode bc_R_isKey 12 = .ok (.goto 4, 3) := by decide +kernel
theorem dc_R_isStamp_0 : decode bc_R_isStamp 0 = .ok (.iload_n 0, 1) := by decide +kernel
theorem dc_R_isStamp_1 : decode bc_R_isStamp 1 = .ok (.ifCond .lt 13, 3) := by decide +kernel
theorem dc_R_isStamp_14 : decode bc_R_isStamp 14 = .ok (.iconst 0, 1) := by decide +kernel
theorem dc_R_isStamp_15 : decode bc_R_isStamp 15 = .ok (.ireturn, 1) := by decide +kernel
theorem dc_R_isStamp_4 : decode bc_R_isStamp 4 = .ok (.iload_n 0, 1) := by decide +kernel
theorem dc_R_isStamp_5 : decode bc_R_isStamp 5 = .ok (.ldc 23, 2) := by decide +kernel
theorem dc_R_isStamp_7 : decode bc_R_isStamp 7 = .ok (.if_icmp .gt 7, 3) := by decide +kernel
theorem dc_R_isStamp_10 : decode bc_R_isStamp 10 = .ok (.iconst 1, 1) := by decide +kernel
theorem dc_R_isStamp_11 : decode bc_R_isStamp 11 = .ok (.goto 4, 3) := by decide +kernel
theorem dc_R_all_0 : decode bc_R_all 0 = .ok (.iconst 0, 1) := by decide +kernel
theorem dc_R_all_1 : decode bc_R_all 1 = .ok (.istore_n 1, 1) := by decide +kernel
theorem dc_R_all_2 : decode bc_R_all 2 = .ok (.iconst 0, 1) := by decide +kernel
theorem dc_R_all_3 : decode bc_R_all 3 = .ok (.istore_n 2, 1) := by decide +kernel
theorem dc_R_all_4 : decode bc_R_all 4 = .ok (.iload_n 2, 1) := by decide +kernel
theorem dc_R_all_5 : decode bc_R_all 5 = .ok (.bipush 8, 2) := by decide +kernel
theorem dc_R_all_7 : decode bc_R_all 7 = .ok (.if_icmp .ge 18, 3) := by decide +kernel
theorem dc_R_all_25 : decode bc_R_all 25 = .ok (.iload_n 1, 1) := by decide +kernel
theorem dc_R_all_26 : decode bc_R_all 26 = .ok (.ireturn, 1) := by decide +kernel
theorem dc_R_all_10 : decode bc_R_all 10 = .ok (.iload_n 1, 1) := by decide +kernel
theorem dc_R_all_11 : decode bc_R_all 11 = .ok (.aload_n 0, 1) := by decide +kernel
theorem dc_R_all_12 : decode bc_R_all 12 = .ok (.getfield 17, 3) := by decide +kernel
theorem dc_R_all_15 : decode bc_R_all 15 = .ok (.iload_n 2, 1) := by decide +kernel
theorem dc_R_all_16 : decode bc_R_all 16 = .ok (.iaload, 1) := by decide +kernel
theorem dc_R_all_17 : decode bc_R_all 17 = .ok (.iadd, 1) := by decide +kernel
theorem dc_R_all_18 : decode bc_R_all 18 = .ok (.istore_n 1, 1) := by decide +kernel
theorem dc_R_all_19 : decode bc_R_all 19 = .ok (.iinc 2 1, 3) := by decide +kernel
theorem dc_R_all_22 : decode bc_R_all 22 = .ok (.goto (-18), 3) := by decide +kernel
theorem dc_S_spread_0 : decode bc_S_spread 0 = .ok (.iload_n 1, 1) := by decide +kernel
theorem dc_S_spread_1 : decode bc_S_spread 1 = .ok (.invokestatic 53, 3) := by decide +kernel
theorem dc_S_spread_4 : decode bc_S_spread 4 = .ok (.ifCond .eq 18, 3) := by decide +kernel
theorem dc_S_spread_22 : decode bc_S_spread 22 = .ok (.iconst (-1), 1) := by decide +kernel
theorem dc_S_spread_23 : decode bc_S_spread 23 = .ok (.ireturn, 1) := by decide +kernel
theorem dc_S_spread_7 : decode bc_S_spread 7 = .ok (.iload_n 2, 1) := by decide +kernel
theorem dc_S_spread_8 : decode bc_S_spread 8 = .ok (.invokestatic 57, 3) := by decide +kernel
theorem dc_S_spread_11 : decode bc_S_spread 11 = .ok (.ifCond .eq 11, 3) := by decide +kernel
theorem dc_S_spread_14 : decode bc_S_spread 14 = .ok (.iload 5, 2) := by decide +kernel
theorem dc_S_spread_16 : decode bc_S_spread 16 = .ok (.invokestatic 60, 3) := by decide +kernel
theorem dc_S_spread_19 : decode bc_S_spread 19 = .ok (.ifCond .ne 5, 3) := by decide +kernel
theorem dc_S_spread_24 : decode bc_S_spread 24 = .ok (.iload_n 3, 1) := by decide +kernel
theorem dc_S_spread_25 : decode bc_S_spread 25 = .ok (.iconst 1, 1) := by decide +kernel
theorem dc_S_spread_26 : decode bc_S_spread 26 = .ok (.if_icmp .lt 23, 3) := by decide +kernel
theorem dc_S_spread_49 : decode bc_S_spread 49 = .ok (.iconst (-1), 1) := by decide +kernel
theorem dc_S_spread_50 : decode bc_S_spread 50 = .ok (.ireturn, 1) := by decide +kernel
theorem dc_S_spread_29 : decode bc_S_spread 29 = .ok (.iload_n 3, 1) := by decide +kernel
theorem dc_S_spread_30 : decode bc_S_spread 30 = .ok (.sipush 4095, 3) := by decide +kernel
theorem dc_S_spread_33 : decode bc_S_spread 33 = .ok (.if_icmp .gt 16, 3) := by decide +kernel
theorem dc_S_spread_36 : decode bc_S_spread 36 = .ok (.iload 4, 2) := by decide +kernel
theorem dc_S_spread_38 : decode bc_S_spread 38 = .ok (.ifCond .lt 11, 3) := by decide +kernel
theorem dc_S_spread_41 : decode bc_S_spread 41 = .ok (.iload 4, 2) := by decide +kernel
theorem dc_S_spread_43 : decode bc_S_spread 43 = .ok (.sipush 600, 3) := by decide +kernel
theorem dc_S_spread_46 : decode bc_S_spread 46 = .ok (.if_icmp .le 5, 3) := by decide +kernel
theorem dc_S_spread_51 : decode bc_S_spread 51 = .ok (.iconst 0, 1) := by decide +kernel
theorem dc_S_spread_52 : decode bc_S_spread 52 = .ok (.istore 6, 2) := by decide +kernel
theorem dc_S_spread_54 : decode bc_S_spread 54 = .ok (.iload 6, 2) := by decide +kernel
theorem dc_S_spread_56 : decode bc_S_spread 56 = .ok (.iload 4, 2) := by decide +kernel
theorem dc_S_spread_58 : decode bc_S_spread 58 = .ok (.if_icmp .ge 28, 3) := by decide +kernel
theorem dc_S_spread_86 : decode bc_S_spread 86 = .ok (.iload 6, 2) := by decide +kernel
theorem dc_S_spread_88 : decode bc_S_spread 88 = .ok (.ireturn, 1) := by decide +kernel
theorem dc_S_spread_61 : decode bc_S_spread 61 = .ok (.aload_n 0, 1) := by decide +kernel
theorem dc_S_spread_62 : decode bc_S_spread 62 = .ok (.iload_n 1, 1) := by decide +kernel
theorem dc_S_spread_63 : decode bc_S_spread 63 = .ok (.iload_n 2, 1) := by decide +kernel
theorem dc_S_spread_64 : decode bc_S_spread 64 = .ok (.iload 6, 2) := by decide +kernel
theorem dc_S_spread_66 : decode bc_S_spread 66 = .ok (.iload_n 3, 1) := by decide +kernel
theorem dc_S_spread_67 : decode bc_S_spread 67 = .ok (.imul, 1) := by decide +kernel
theorem dc_S_spread_68 : decode bc_S_spread 68 = .ok (.iadd, 1) := by decide +kernel
theorem dc_S_spread_69 : decode bc_S_spread 69 = .ok (.iload 5, 2) := by decide +kernel
theorem dc_S_spread_71 : decode bc_S_spread 71 = .ok (.iload 6, 2) := by decide +kernel
theorem dc_S_spread_73 : decode bc_S_spread 73 = .ok (.iadd, 1) := by decide +kernel
theorem dc_S_spread_74 : decode bc_S_spread 74 = .ok (.invokevirtual 85, 3) := by decide +kernel
theorem dc_S_spread_77 : decode bc_S_spread 77 = .ok (.ifCond .lt 9, 3) := by decide +kernel
theorem dc_S_spread_80 : decode bc_S_spread 80 = .ok (.iinc 6 1, 3) := by decide +kernel
theorem dc_S_spread_83 : decode bc_S_spread 83 = .ok (.goto (-29), 3) := by decide +kernel
theorem dc_R_spread_0 : decode bc_R_spread 0 = .ok (.iload_n 1, 1) := by decide +kernel
theorem dc_R_spread_1 : decode bc_R_spread 1 = .ok (.invokestatic 24, 3) := by decide +kernel
theorem dc_R_spread_4 : decode bc_R_spread 4 = .ok (.ifCond .eq 43, 3) := by decide +kernel
theorem dc_R_spread_47 : decode bc_R_spread 47 = .ok (.iconst (-1), 1) := by decide +kernel
theorem dc_R_spread_48 : decode bc_R_spread 48 = .ok (.ireturn, 1) := by decide +kernel
theorem dc_R_spread_7 : decode bc_R_spread 7 = .ok (.iload_n 2, 1) := by decide +kernel
theorem dc_R_spread_8 : decode bc_R_spread 8 = .ok (.invokestatic 28, 3) := by decide +kernel
theorem dc_R_spread_11 : decode bc_R_spread 11 = .ok (.ifCond .eq 36, 3) := by decide +kernel
theorem dc_R_spread_14 : decode bc_R_spread 14 = .ok (.iload_n 3, 1) := by decide +kernel
theorem dc_R_spread_15 : decode bc_R_spread 15 = .ok (.iconst 1, 1) := by decide +kernel
theorem dc_R_spread_16 : decode bc_R_spread 16 = .ok (.if_icmp .lt 31, 3) := by decide +kernel
theorem dc_R_spread_19 : decode bc_R_spread 19 = .ok (.iload_n 3, 1) := by decide +kernel
theorem dc_R_spread_20 : decode bc_R_spread 20 = .ok (.sipush 4095, 3) := by decide +kernel
theorem dc_R_spread_23 : decode bc_R_spread 23 = .ok (.if_icmp .gt 24, 3) := by decide +kernel
theorem dc_R_spread_26 : decode bc_R_spread 26 = .ok (.iload 4, 2) := by decide +kernel
theorem dc_R_spread_28 : decode bc_R_spread 28 = .ok (.ifCond .lt 19, 3) := by decide +kernel
theorem dc_R_spread_31 : decode bc_R_spread 31 = .ok (.iload 4, 2) := by decide +kernel
theorem dc_R_spread_33 : decode bc_R_spread 33 = .ok (.sipush 600, 3) := by decide +kernel
theorem dc_R_spread_36 : decode bc_R_spread 36 = .ok (.if_icmp .gt 11, 3) := by decide +kernel
theorem dc_R_spread_39 : decode bc_R_spread 39 = .ok (.iload 5, 2) := by decide +kernel
theorem dc_R_spread_41 : decode bc_R_spread 41 = .ok (.invokestatic 31, 3) := by decide +kernel
theorem dc_R_spread_44 : decode bc_R_spread 44 = .ok (.ifCond .ne 5, 3) := by decide +kernel
theorem dc_R_spread_49 : decode bc_R_spread 49 = .ok (.iconst 0, 1) := by decide +kernel
theorem dc_R_spread_50 : decode bc_R_spread 50 = .ok (.istore 6, 2) := by decide +kernel
theorem dc_R_spread_52 : decode bc_R_spread 52 = .ok (.iload 6, 2) := by decide +kernel
theorem dc_R_spread_54 : decode bc_R_spread 54 = .ok (.iload 4, 2) := by decide +kernel
theorem dc_R_spread_56 : decode bc_R_spread 56 = .ok (.if_icmp .ge 28, 3) := by decide +kernel
theorem dc_R_spread_84 : decode bc_R_spread 84 = .ok (.iload 6, 2) := by decide +kernel
theorem dc_R_spread_86 : decode bc_R_spread 86 = .ok (.ireturn, 1) := by decide +kernel
theorem dc_R_spread_59 : decode bc_R_spread 59 = .ok (.aload_n 0, 1) := by decide +kernel
theorem dc_R_spread_60 : decode bc_R_spread 60 = .ok (.iload_n 1, 1) := by decide +kernel
theorem dc_R_spread_61 : decode bc_R_spread 61 = .ok (.iload_n 2, 1) := by decide +kernel
theorem dc_R_spread_62 : decode bc_R_spread 62 = .ok (.iload 6, 2) := by decide +kernel
theorem dc_R_spread_64 : decode bc_R_spread 64 = .ok (.iload_n 3, 1) := by decide +kernel
theorem dc_R_spread_65 : decode bc_R_spread 65 = .ok (.imul, 1) := by decide +kernel
theorem dc_R_spread_66 : decode bc_R_spread 66 = .ok (.iadd, 1) := by decide +kernel
theorem dc_R_spread_67 : decode bc_R_spread 67 = .ok (.iload 5, 2) := by decide +kernel
theorem dc_R_spread_69 : decode bc_R_spread 69 = .ok (.iload 6, 2) := by decide +kernel
theorem dc_R_spread_71 : decode bc_R_spread 71 = .ok (.iadd, 1) := by decide +kernel
theorem dc_R_spread_72 : decode bc_R_spread 72 = .ok (.invokevirtual 38, 3) := by decide +kernel
theorem dc_R_spread_75 : decode bc_R_spread 75 = .ok (.ifCond .lt 9, 3) := by decide +kernel
theorem dc_R_spread_78 : decode bc_R_spread 78 = .ok (.iinc 6 1, 3) := by decide +kernel
theorem dc_R_spread_81 : decode bc_R_spread 81 = .ok (.goto (-29), 3) := by decide +kernel
theorem dc_S_read_0 : decode bc_S_read 0 = .ok (.iload_n 1, 1) := by decide +kernel
theorem dc_S_read_1 : decode bc_S_read 1 = .ok (.invokestatic 53, 3) := by decide +kernel
theorem dc_S_read_4 : decode bc_S_read 4 = .ok (.ifCond .eq 10, 3) := by decide +kernel
theorem dc_S_read_14 : decode bc_S_read 14 = .ok (.iconst (-1), 1) := by decide +kernel
theorem dc_S_read_15 : decode bc_S_read 15 = .ok (.ireturn, 1) := by decide +kernel
theorem dc_S_read_7 : decode bc_S_read 7 = .ok (.iload_n 2, 1) := by decide +kernel
theorem dc_S_read_8 : decode bc_S_read 8 = .ok (.invokestatic 57, 3) := by decide +kernel
theorem dc_S_read_11 : decode bc_S_read 11 = .ok (.ifCond .ne 5, 3) := by decide +kernel
theorem dc_S_read_16 : decode bc_S_read 16 = .ok (.aload_n 0, 1) := by decide +kernel
theorem dc_S_read_17 : decode bc_S_read 17 = .ok (.getfield 32, 3) := by decide +kernel
theorem dc_S_read_20 : decode bc_S_read 20 = .ok (.aload_n 0, 1) := by decide +kernel
theorem dc_S_read_21 : decode bc_S_read 21 = .ok (.getfield 46, 3) := by decide +kernel
theorem dc_S_read_24 : decode bc_S_read 24 = .ok (.getfield 63, 3) := by decide +kernel
theorem dc_S_read_27 : decode bc_S_read 27 = .ok (.iload_n 1, 1) := by decide +kernel
theorem dc_S_read_28 : decode bc_S_read 28 = .ok (.iaload, 1) := by decide +kernel
theorem dc_S_read_29 : decode bc_S_read 29 = .ok (.iload_n 2, 1) := by decide +kernel
theorem dc_S_read_30 : decode bc_S_read 30 = .ok (.invokevirtual 67, 3) := by decide +kernel
theorem dc_S_read_33 : decode bc_S_read 33 = .ok (.ireturn, 1) := by decide +kernel
theorem dc_R_read_0 : decode bc_R_read 0 = .ok (.iload_n 1, 1) := by decide +kernel
theorem dc_R_read_1 : decode bc_R_read 1 = .ok (.invokestatic 24, 3) := by decide +kernel
theorem dc_R_read_4 : decode bc_R_read 4 = .ok (.ifCond .eq 10, 3) := by decide +kernel
theorem dc_R_read_14 : decode bc_R_read 14 = .ok (.iconst (-1), 1) := by decide +kernel
theorem dc_R_read_15 : decode bc_R_read 15 = .ok (.ireturn, 1) := by decide +kernel
theorem dc_R_read_7 : decode bc_R_read 7 = .ok (.iload_n 2, 1) := by decide +kernel
theorem dc_R_read_8 : decode bc_R_read 8 = .ok (.invokestatic 28, 3) := by decide +kernel
theorem dc_R_read_11 : decode bc_R_read 11 = .ok (.ifCond .ne 5, 3) := by decide +kernel
theorem dc_R_read_16 : decode bc_R_read 16 = .ok (.aload_n 0, 1) := by decide +kernel
theorem dc_R_read_17 : decode bc_R_read 17 = .ok (.getfield 8, 3) := by decide +kernel
theorem dc_R_read_20 : decode bc_R_read 20 = .ok (.sipush 4096, 3) := by decide +kernel
theorem dc_R_read_23 : decode bc_R_read 23 = .ok (.iload_n 1, 1) := by decide +kernel
theorem dc_R_read_24 : decode bc_R_read 24 = .ok (.imul, 1) := by decide +kernel
theorem dc_R_read_25 : decode bc_R_read 25 = .ok (.iload_n 2, 1) := by decide +kernel
theorem dc_R_read_26 : decode bc_R_read 26 = .ok (.iadd, 1) := by decide +kernel
theorem dc_R_read_27 : decode bc_R_read 27 = .ok (.iaload, 1) := by decide +kernel
theorem dc_R_read_28 : decode bc_R_read 28 = .ok (.istore_n 3, 1) := by decide +kernel
theorem dc_R_read_29 : decode bc_R_read 29 = .ok (.iload_n 3, 1) := by decide +kernel
theorem dc_R_read_30 : decode bc_R_read 30 = .ok (.ifCond .ne 8, 3) := by decide +kernel
theorem dc_R_read_38 : decode bc_R_read 38 = .ok (.iload_n 3, 1) := by decide +kernel
theorem dc_R_read_39 : decode bc_R_read 39 = .ok (.iconst 1, 1) := by decide +kernel
theorem dc_R_read_40 : decode bc_R_read 40 = .ok (.isub, 1) := by decide +kernel
theorem dc_R_read_41 : decode bc_R_read 41 = .ok (.ireturn, 1) := by decide +kernel
theorem dc_R_read_33 : decode bc_R_read 33 = .ok (.bipush (-2), 2) := by decide +kernel
theorem dc_R_read_35 : decode bc_R_read 35 = .ok (.goto 6, 3) := by decide +kernel
theorem dc_S_erase_0 : decode bc_S_erase 0 = .ok (.iload_n 1, 1) := by decide +kernel
theorem dc_S_erase_1 : decode bc_S_erase 1 = .ok (.invokestatic 53, 3) := by decide +kernel
theorem dc_S_erase_4 : decode bc_S_erase 4 = .ok (.ifCond .eq 10, 3) := by decide +kernel
theorem dc_S_erase_14 : decode bc_S_erase 14 = .ok (.iconst (-1), 1) := by decide +kernel
theorem dc_S_erase_15 : decode bc_S_erase 15 = .ok (.ireturn, 1) := by decide +kernel
theorem dc_S_erase_7 : decode bc_S_erase 7 = .ok (.iload_n 2, 1) := by decide +kernel
theorem dc_S_erase_8 : decode bc_S_erase 8 = .ok (.invokestatic 57, 3) := by decide +kernel
theorem dc_S_erase_11 : decode bc_S_erase 11 = .ok (.ifCond .ne 5, 3) := by decide +kernel
theorem dc_S_erase_16 : decode bc_S_erase 16 = .ok (.aload_n 0, 1) := by decide +kernel
theorem dc_S_erase_17 : decode bc_S_erase 17 = .ok (.getfield 32, 3) := by decide +kernel
theorem dc_S_erase_20 : decode bc_S_erase 20 = .ok (.aload_n 0, 1) := by decide +kernel
theorem dc_S_erase_21 : decode bc_S_erase 21 = .ok (.getfield 46, 3) := by decide +kernel
theorem dc_S_erase_24 : decode bc_S_erase 24 = .ok (.getfield 63, 3) := by decide +kernel
theorem dc_S_erase_27 : decode bc_S_erase 27 = .ok (.iload_n 1, 1) := by decide +kernel
theorem dc_S_erase_28 : decode bc_S_erase 28 = .ok (.iaload, 1) := by decide +kernel
theorem dc_S_erase_29 : decode bc_S_erase 29 = .ok (.iload_n 2, 1) := by decide +kernel
theorem dc_S_erase_30 : decode bc_S_erase 30 = .ok (.invokevirtual 67, 3) := by decide +kernel
theorem dc_S_erase_33 : decode bc_S_erase 33 = .ok (.istore_n 3, 1) := by decide +kernel
theorem dc_S_erase_34 : decode bc_S_erase 34 = .ok (.iload_n 3, 1) := by decide +kernel
theorem dc_S_erase_35 : decode bc_S_erase 35 = .ok (.bipush (-2), 2) := by decide +kernel
theorem dc_S_erase_37 : decode bc_S_erase 37 = .ok (.if_icmp .eq 38, 3) := by decide +kernel
theorem dc_S_erase_75 : decode bc_S_erase 75 = .ok (.iload_n 3, 1) := by decide +kernel
theorem dc_S_erase_76 : decode bc_S_erase 76 = .ok (.ireturn, 1) := by decide +kernel
theorem dc_S_erase_40 : decode bc_S_erase 40 = .ok (.aload_n 0, 1) := by decide +kernel
theorem dc_S_erase_41 : decode bc_S_erase 41 = .ok (.getfield 46, 3) := by decide +kernel
theorem dc_S_erase_44 : decode bc_S_erase 44 = .ok (.getfield 63, 3) := by decide +kernel
theorem dc_S_erase_47 : decode bc_S_erase 47 = .ok (.iload_n 1, 1) := by decide +kernel
theorem dc_S_erase_48 : decode bc_S_erase 48 = .ok (.aload_n 0, 1) := by decide +kernel
theorem dc_S_erase_49 : decode bc_S_erase 49 = .ok (.getfield 32, 3) := by decide +kernel
theorem dc_S_erase_52 : decode bc_S_erase 52 = .ok (.aload_n 0, 1) := by decide +kernel
theorem dc_S_erase_53 : decode bc_S_erase 53 = .ok (.getfield 46, 3) := by decide +kernel
theorem dc_S_erase_56 : decode bc_S_erase 56 = .ok (.getfield 63, 3) := by decide +kernel
theorem dc_S_erase_59 : decode bc_S_erase 59 = .ok (.iload_n 1, 1) := by decide +kernel
theorem dc_S_erase_60 : decode bc_S_erase 60 = .ok (.iaload, 1) := by decide +kernel
theorem dc_S_erase_61 : decode bc_S_erase 61 = .ok (.iload_n 2, 1) := by decide +kernel
theorem dc_S_erase_62 : decode bc_S_erase 62 = .ok (.invokevirtual 88, 3) := by decide +kernel
theorem dc_S_erase_65 : decode bc_S_erase 65 = .ok (.iastore, 1) := by decide +kernel
theorem dc_S_erase_66 : decode bc_S_erase 66 = .ok (.aload_n 0, 1) := by decide +kernel
theorem dc_S_erase_67 : decode bc_S_erase 67 = .ok (.getfield 46, 3) := by decide +kernel
theorem dc_S_erase_70 : decode bc_S_erase 70 = .ok (.iload_n 1, 1) := by decide +kernel
theorem dc_S_erase_71 : decode bc_S_erase 71 = .ok (.iconst (-1), 1) := by decide +kernel
theorem dc_S_erase_72 : decode bc_S_erase 72 = .ok (.invokestatic 78, 3) := by decide +kernel
theorem dc_T_without_0 : decode bc_T_without 0 = .ok (.aload_n 0, 1) := by decide +kernel
theorem dc_T_without_1 : decode bc_T_without 1 = .ok (.getfield 9, 3) := by decide +kernel
theorem dc_T_without_4 : decode bc_T_without 4 = .ok (.iload_n 1, 1) := by decide +kernel
theorem dc_T_without_5 : decode bc_T_without 5 = .ok (.invokevirtual 59, 3) := by decide +kernel
theorem dc_T_without_8 : decode bc_T_without 8 = .ok (.istore_n 3, 1) := by decide +kernel
theorem dc_T_without_9 : decode bc_T_without 9 = .ok (.aload_n 0, 1) := by decide +kernel
theorem dc_T_without_10 : decode bc_T_without 10 = .ok (.iload_n 3, 1) := by decide +kernel
theorem dc_T_without_11 : decode bc_T_without 11 = .ok (.aload_n 0, 1) := by decide +kernel
theorem dc_T_without_12 : decode bc_T_without 12 = .ok (.getfield 9, 3) := by decide +kernel
theorem dc_T_without_15 : decode bc_T_without 15 = .ok (.iload_n 3, 1) := by decide +kernel
theorem dc_T_without_16 : decode bc_T_without 16 = .ok (.invokevirtual 26, 3) := by decide +kernel
theorem dc_T_without_19 : decode bc_T_without 19 = .ok (.iload_n 2, 1) := by decide +kernel
theorem dc_T_without_20 : decode bc_T_without 20 = .ok (.invokevirtual 92, 3) := by decide +kernel
theorem dc_T_without_23 : decode bc_T_without 23 = .ok (.aload_n 0, 1) := by decide +kernel
theorem dc_T_without_24 : decode bc_T_without 24 = .ok (.iload_n 3, 1) := by decide +kernel
theorem dc_T_without_25 : decode bc_T_without 25 = .ok (.invokevirtual 95, 3) := by decide +kernel
theorem dc_T_without_28 : decode bc_T_without 28 = .ok (.ireturn, 1) := by decide +kernel
theorem dc_T_removeBelow_0 : decode bc_T_removeBelow 0 = .ok (.iload_n 2, 1) := by decide +kernel
theorem dc_T_removeBelow_1 : decode bc_T_removeBelow 1 = .ok (.bipush 16, 2) := by decide +kernel
theorem dc_T_removeBelow_3 : decode bc_T_removeBelow 3 = .ok (.if_icmp .le 4, 3) := by decide +kernel
theorem dc_T_removeBelow_7 : decode bc_T_removeBelow 7 = .ok (.iload_n 2, 1) := by decide +kernel
theorem dc_T_removeBelow_8 : decode bc_T_removeBelow 8 = .ok (.ifCond .gt 21, 3) := by decide +kernel
theorem dc_T_removeBelow_29 : decode bc_T_removeBelow 29 = .ok (.aload_n 0, 1) := by decide +kernel
theorem dc_T_removeBelow_30 : decode bc_T_removeBelow 30 = .ok (.iload_n 1, 1) := by decide +kernel
theorem dc_T_removeBelow_31 : decode bc_T_removeBelow 31 = .ok (.iload_n 3, 1) := by decide +kernel
theorem dc_T_removeBelow_32 : decode bc_T_removeBelow 32 = .ok (.invokevirtual 31, 3) := by decide +kernel
theorem dc_T_removeBelow_35 : decode bc_T_removeBelow 35 = .ok (.istore 4, 2) := by decide +kernel
theorem dc_T_removeBelow_37 : decode bc_T_removeBelow 37 = .ok (.aload_n 0, 1) := by decide +kernel
theorem dc_T_removeBelow_38 : decode bc_T_removeBelow 38 = .ok (.iload_n 1, 1) := by decide +kernel
theorem dc_T_removeBelow_39 : decode bc_T_removeBelow 39 = .ok (.iload 4, 2) := by decide +kernel
theorem dc_T_removeBelow_41 : decode bc_T_removeBelow 41 = .ok (.invokevirtual 73, 3) := by decide +kernel
theorem dc_T_removeBelow_44 : decode bc_T_removeBelow 44 = .ok (.istore 5, 2) := by decide +kernel
theorem dc_T_removeBelow_46 : decode bc_T_removeBelow 46 = .ok (.aload_n 0, 1) := by decide +kernel
theorem dc_T_removeBelow_47 : decode bc_T_removeBelow 47 = .ok (.iload 5, 2) := by decide +kernel
theorem dc_T_removeBelow_49 : decode bc_T_removeBelow 49 = .ok (.iload_n 2, 1) := by decide +kernel
theorem dc_T_removeBelow_50 : decode bc_T_removeBelow 50 = .ok (.iconst 1, 1) := by decide +kernel
theorem dc_T_removeBelow_51 : decode bc_T_removeBelow 51 = .ok (.isub, 1) := by decide +kernel
theorem dc_T_removeBelow_52 : decode bc_T_removeBelow 52 = .ok (.iload_n 3, 1) := by decide +kernel
theorem dc_T_removeBelow_53 : decode bc_T_removeBelow 53 = .ok (.invokevirtual 92, 3) := by decide +kernel
theorem dc_T_removeBelow_56 : decode bc_T_removeBelow 56 = .ok (.aload_n 0, 1) := by decide +kernel
theorem dc_T_removeBelow_57 : decode bc_T_removeBelow 57 = .ok (.getfield 9, 3) := by decide +kernel
theorem dc_T_removeBelow_60 : decode bc_T_removeBelow 60 = .ok (.iload_n 1, 1) := by decide +kernel
theorem dc_T_removeBelow_61 : decode bc_T_removeBelow 61 = .ok (.iload 4, 2) := by decide +kernel
theorem dc_T_removeBelow_63 : decode bc_T_removeBelow 63 = .ok (.aload_n 0, 1) := by decide +kernel
theorem dc_T_removeBelow_64 : decode bc_T_removeBelow 64 = .ok (.getfield 9, 3) := by decide +kernel
theorem dc_T_removeBelow_67 : decode bc_T_removeBelow 67 = .ok (.iload 5, 2) := by decide +kernel
theorem dc_T_removeBelow_69 : decode bc_T_removeBelow 69 = .ok (.iconst 0, 1) := by decide +kernel
theorem dc_T_removeBelow_70 : decode bc_T_removeBelow 70 = .ok (.invokevirtual 41, 3) := by decide +kernel
theorem dc_T_removeBelow_73 : decode bc_T_removeBelow 73 = .ok (.invokevirtual 76, 3) := by decide +kernel
theorem dc_T_removeBelow_76 : decode bc_T_removeBelow 76 = .ok (.aload_n 0, 1) := by decide +kernel
theorem dc_T_removeBelow_77 : decode bc_T_removeBelow 77 = .ok (.getfield 9, 3) := by decide +kernel
theorem dc_T_removeBelow_80 : decode bc_T_removeBelow 80 = .ok (.iload 5, 2) := by decide +kernel
theorem dc_T_removeBelow_82 : decode bc_T_removeBelow 82 = .ok (.invokevirtual 48, 3) := by decide +kernel
theorem dc_T_removeBelow_85 : decode bc_T_removeBelow 85 = .ok (.aload_n 0, 1) := by decide +kernel
theorem dc_T_removeBelow_86 : decode bc_T_removeBelow 86 = .ok (.getfield 23, 3) := by decide +kernel
theorem dc_T_removeBelow_89 : decode bc_T_removeBelow 89 = .ok (.if_icmp .ge 16, 3) := by decide +kernel
theorem dc_T_removeBelow_105 : decode bc_T_removeBelow 105 = .ok (.return_, 1) := by decide +kernel
theorem dc_T_removeBelow_92 : decode bc_T_removeBelow 92 = .ok (.aload_n 0, 1) := by decide +kernel
theorem dc_T_removeBelow_93 : decode bc_T_removeBelow 93 = .ok (.iload_n 1, 1) := by decide +kernel
theorem dc_T_removeBelow_94 : decode bc_T_removeBelow 94 = .ok (.iconst 0, 1) := by decide +kernel
theorem dc_T_removeBelow_95 : decode bc_T_removeBelow 95 = .ok (.iload 4, 2) := by decide +kernel
theorem dc_T_removeBelow_97 : decode bc_T_removeBelow 97 = .ok (.iconst 1, 1) := by decide +kernel
theorem dc_T_removeBelow_98 : decode bc_T_removeBelow 98 = .ok (.isub, 1) := by decide +kernel
theorem dc_T_removeBelow_99 : decode bc_T_removeBelow 99 = .ok (.invokestatic 51, 3) := by decide +kernel
theorem dc_T_removeBelow_102 : decode bc_T_removeBelow 102 = .ok (.invokevirtual 101, 3) := by decide +kernel
theorem dc_T_removeBelow_11 : decode bc_T_removeBelow 11 = .ok (.aload_n 0, 1) := by decide +kernel
theorem dc_T_removeBelow_12 : decode bc_T_removeBelow 12 = .ok (.getfield 9, 3) := by decide +kernel
theorem dc_T_removeBelow_15 : decode bc_T_removeBelow 15 = .ok (.iload_n 1, 1) := by decide +kernel
theorem dc_T_removeBelow_16 : decode bc_T_removeBelow 16 = .ok (.aload_n 0, 1) := by decide +kernel
theorem dc_T_removeBelow_17 : decode bc_T_removeBelow 17 = .ok (.getfield 9, 3) := by decide +kernel
theorem dc_T_removeBelow_20 : decode bc_T_removeBelow 20 = .ok (.iload_n 1, 1) := by decide +kernel
theorem dc_T_removeBelow_21 : decode bc_T_removeBelow 21 = .ok (.iload_n 3, 1) := by decide +kernel
theorem dc_T_removeBelow_22 : decode bc_T_removeBelow 22 = .ok (.invokevirtual 38, 3) := by decide +kernel
theorem dc_T_removeBelow_25 : decode bc_T_removeBelow 25 = .ok (.invokevirtual 98, 3) := by decide +kernel
theorem dc_T_removeBelow_28 : decode bc_T_removeBelow 28 = .ok (.return_, 1) := by decide +kernel
theorem dc_T_removeBelow_6 : decode bc_T_removeBelow 6 = .ok (.return_, 1) := by decide +kernel
theorem dc_T_fill_0 : decode bc_T_fill 0 = .ok (.aload_n 0, 1) := by decide +kernel
theorem dc_T_fill_1 : decode bc_T_fill 1 = .ok (.iload_n 1, 1) := by decide +kernel
theorem dc_T_fill_2 : decode bc_T_fill 2 = .ok (.iload_n 2, 1) := by decide +kernel
theorem dc_T_fill_3 : decode bc_T_fill 3 = .ok (.invokevirtual 73, 3) := by decide +kernel
theorem dc_T_fill_6 : decode bc_T_fill 6 = .ok (.istore_n 3, 1) := by decide +kernel
theorem dc_T_fill_7 : decode bc_T_fill 7 = .ok (.aload_n 0, 1) := by decide +kernel
theorem dc_T_fill_8 : decode bc_T_fill 8 = .ok (.iload_n 1, 1) := by decide +kernel
theorem dc_T_fill_9 : decode bc_T_fill 9 = .ok (.iload_n 2, 1) := by decide +kernel
theorem dc_T_fill_10 : decode bc_T_fill 10 = .ok (.iconst 1, 1) := by decide +kernel
theorem dc_T_fill_11 : decode bc_T_fill 11 = .ok (.iadd, 1) := by decide +kernel
theorem dc_T_fill_12 : decode bc_T_fill 12 = .ok (.invokevirtual 73, 3) := by decide +kernel
theorem dc_T_fill_15 : decode bc_T_fill 15 = .ok (.istore 4, 2) := by decide +kernel
theorem dc_T_fill_17 : decode bc_T_fill 17 = .ok (.aload_n 0, 1) := by decide +kernel
theorem dc_T_fill_18 : decode bc_T_fill 18 = .ok (.getfield 9, 3) := by decide +kernel
theorem dc_T_fill_21 : decode bc_T_fill 21 = .ok (.iload_n 3, 1) := by decide +kernel
theorem dc_T_fill_22 : decode bc_T_fill 22 = .ok (.invokevirtual 48, 3) := by decide +kernel
theorem dc_T_fill_25 : decode bc_T_fill 25 = .ok (.aload_n 0, 1) := by decide +kernel
theorem dc_T_fill_26 : decode bc_T_fill 26 = .ok (.getfield 9, 3) := by decide +kernel
theorem dc_T_fill_29 : decode bc_T_fill 29 = .ok (.iload 4, 2) := by decide +kernel
theorem dc_T_fill_31 : decode bc_T_fill 31 = .ok (.invokevirtual 48, 3) := by decide +kernel
theorem dc_T_fill_34 : decode bc_T_fill 34 = .ok (.iadd, 1) := by decide +kernel
theorem dc_T_fill_35 : decode bc_T_fill 35 = .ok (.aload_n 0, 1) := by decide +kernel
theorem dc_T_fill_36 : decode bc_T_fill 36 = .ok (.getfield 15, 3) := by decide +kernel
theorem dc_T_fill_39 : decode bc_T_fill 39 = .ok (.if_icmp .gt 35, 3) := by decide +kernel
theorem dc_T_fill_74 : decode bc_T_fill 74 = .ok (.aload_n 0, 1) := by decide +kernel
theorem dc_T_fill_75 : decode bc_T_fill 75 = .ok (.getfield 9, 3) := by decide +kernel
theorem dc_T_fill_78 : decode bc_T_fill 78 = .ok (.iload_n 3, 1) := by decide +kernel
theorem dc_T_fill_79 : decode bc_T_fill 79 = .ok (.invokevirtual 48, 3) := by decide +kernel
theorem dc_T_fill_82 : decode bc_T_fill 82 = .ok (.aload_n 0, 1) := by decide +kernel
theorem dc_T_fill_83 : decode bc_T_fill 83 = .ok (.getfield 9, 3) := by decide +kernel
theorem dc_T_fill_86 : decode bc_T_fill 86 = .ok (.iload 4, 2) := by decide +kernel
theorem dc_T_fill_88 : decode bc_T_fill 88 = .ok (.invokevirtual 48, 3) := by decide +kernel
theorem dc_T_fill_91 : decode bc_T_fill 91 = .ok (.if_icmp .ge 22, 3) := by decide +kernel
theorem dc_T_fill_113 : decode bc_T_fill 113 = .ok (.aload_n 0, 1) := by decide +kernel
theorem dc_T_fill_114 : decode bc_T_fill 114 = .ok (.iload_n 3, 1) := by decide +kernel
theorem dc_T_fill_115 : decode bc_T_fill 115 = .ok (.aload_n 0, 1) := by decide +kernel
theorem dc_T_fill_116 : decode bc_T_fill 116 = .ok (.getfield 9, 3) := by decide +kernel
theorem dc_T_fill_119 : decode bc_T_fill 119 = .ok (.iload_n 3, 1) := by decide +kernel
theorem dc_T_fill_120 : decode bc_T_fill 120 = .ok (.invokevirtual 48, 3) := by decide +kernel
theorem dc_T_fill_123 : decode bc_T_fill 123 = .ok (.iconst 1, 1) := by decide +kernel
theorem dc_T_fill_124 : decode bc_T_fill 124 = .ok (.isub, 1) := by decide +kernel
theorem dc_T_fill_125 : decode bc_T_fill 125 = .ok (.iload 4, 2) := by decide +kernel
theorem dc_T_fill_127 : decode bc_T_fill 127 = .ok (.iconst 0, 1) := by decide +kernel
theorem dc_T_fill_128 : decode bc_T_fill 128 = .ok (.invokevirtual 108, 3) := by decide +kernel
theorem dc_T_fill_131 : decode bc_T_fill 131 = .ok (.aload_n 0, 1) := by decide +kernel
theorem dc_T_fill_132 : decode bc_T_fill 132 = .ok (.getfield 9, 3) := by decide +kernel
theorem dc_T_fill_135 : decode bc_T_fill 135 = .ok (.iload_n 1, 1) := by decide +kernel
theorem dc_T_fill_136 : decode bc_T_fill 136 = .ok (.iload_n 2, 1) := by decide +kernel
theorem dc_T_fill_137 : decode bc_T_fill 137 = .ok (.iconst 1, 1) := by decide +kernel
theorem dc_T_fill_138 : decode bc_T_fill 138 = .ok (.iadd, 1) := by decide +kernel
theorem dc_T_fill_139 : decode bc_T_fill 139 = .ok (.aload_n 0, 1) := by decide +kernel
theorem dc_T_fill_140 : decode bc_T_fill 140 = .ok (.getfield 9, 3) := by decide +kernel
theorem dc_T_fill_143 : decode bc_T_fill 143 = .ok (.iload 4, 2) := by decide +kernel
theorem dc_T_fill_145 : decode bc_T_fill 145 = .ok (.iconst 0, 1) := by decide +kernel
theorem dc_T_fill_146 : decode bc_T_fill 146 = .ok (.invokevirtual 41, 3) := by decide +kernel
theorem dc_T_fill_149 : decode bc_T_fill 149 = .ok (.invokevirtual 76, 3) := by decide +kernel
theorem dc_T_fill_152 : decode bc_T_fill 152 = .ok (.return_, 1) := by decide +kernel
theorem dc_T_fill_94 : decode bc_T_fill 94 = .ok (.aload_n 0, 1) := by decide +kernel
theorem dc_T_fill_95 : decode bc_T_fill 95 = .ok (.iload 4, 2) := by decide +kernel
theorem dc_T_fill_97 : decode bc_T_fill 97 = .ok (.iconst 0, 1) := by decide +kernel
