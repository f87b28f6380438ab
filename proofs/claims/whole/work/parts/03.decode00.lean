theorem dc_S_write_0 : decode bc_S_write 0 = .ok (.iload_n 1, 1) := by decide +kernel
theorem dc_S_write_1 : decode bc_S_write 1 = .ok (.invokestatic 53, 3) := by decide +kernel
theorem dc_S_write_4 : decode bc_S_write 4 = .ok (.ifCond .eq 17, 3) := by decide +kernel
theorem dc_S_write_21 : decode bc_S_write 21 = .ok (.iconst (-1), 1) := by decide +kernel
theorem dc_S_write_22 : decode bc_S_write 22 = .ok (.ireturn, 1) := by decide +kernel
theorem dc_S_write_7 : decode bc_S_write 7 = .ok (.iload_n 2, 1) := by decide +kernel
theorem dc_S_write_8 : decode bc_S_write 8 = .ok (.invokestatic 57, 3) := by decide +kernel
theorem dc_S_write_11 : decode bc_S_write 11 = .ok (.ifCond .eq 10, 3) := by decide +kernel
theorem dc_S_write_14 : decode bc_S_write 14 = .ok (.iload_n 3, 1) := by decide +kernel
theorem dc_S_write_15 : decode bc_S_write 15 = .ok (.invokestatic 60, 3) := by decide +kernel
theorem dc_S_write_18 : decode bc_S_write 18 = .ok (.ifCond .ne 5, 3) := by decide +kernel
theorem dc_S_write_23 : decode bc_S_write 23 = .ok (.aload_n 0, 1) := by decide +kernel
theorem dc_S_write_24 : decode bc_S_write 24 = .ok (.getfield 32, 3) := by decide +kernel
theorem dc_S_write_27 : decode bc_S_write 27 = .ok (.aload_n 0, 1) := by decide +kernel
theorem dc_S_write_28 : decode bc_S_write 28 = .ok (.getfield 46, 3) := by decide +kernel
theorem dc_S_write_31 : decode bc_S_write 31 = .ok (.getfield 63, 3) := by decide +kernel
theorem dc_S_write_34 : decode bc_S_write 34 = .ok (.iload_n 1, 1) := by decide +kernel
theorem dc_S_write_35 : decode bc_S_write 35 = .ok (.iaload, 1) := by decide +kernel
theorem dc_S_write_36 : decode bc_S_write 36 = .ok (.iload_n 2, 1) := by decide +kernel
theorem dc_S_write_37 : decode bc_S_write 37 = .ok (.invokevirtual 67, 3) := by decide +kernel
theorem dc_S_write_40 : decode bc_S_write 40 = .ok (.bipush (-2), 2) := by decide +kernel
theorem dc_S_write_42 : decode bc_S_write 42 = .ok (.if_icmp .ne 7, 3) := by decide +kernel
theorem dc_S_write_49 : decode bc_S_write 49 = .ok (.iconst 0, 1) := by decide +kernel
theorem dc_S_write_50 : decode bc_S_write 50 = .ok (.istore 4, 2) := by decide +kernel
theorem dc_S_write_52 : decode bc_S_write 52 = .ok (.iload 4, 2) := by decide +kernel
theorem dc_S_write_54 : decode bc_S_write 54 = .ok (.ifCond .eq 19, 3) := by decide +kernel
theorem dc_S_write_73 : decode bc_S_write 73 = .ok (.aload_n 0, 1) := by decide +kernel
theorem dc_S_write_74 : decode bc_S_write 74 = .ok (.getfield 46, 3) := by decide +kernel
theorem dc_S_write_77 : decode bc_S_write 77 = .ok (.getfield 63, 3) := by decide +kernel
theorem dc_S_write_80 : decode bc_S_write 80 = .ok (.iload_n 1, 1) := by decide +kernel
theorem dc_S_write_81 : decode bc_S_write 81 = .ok (.aload_n 0, 1) := by decide +kernel
theorem dc_S_write_82 : decode bc_S_write 82 = .ok (.getfield 32, 3) := by decide +kernel
theorem dc_S_write_85 : decode bc_S_write 85 = .ok (.aload_n 0, 1) := by decide +kernel
theorem dc_S_write_86 : decode bc_S_write 86 = .ok (.getfield 46, 3) := by decide +kernel
theorem dc_S_write_89 : decode bc_S_write 89 = .ok (.getfield 63, 3) := by decide +kernel
theorem dc_S_write_92 : decode bc_S_write 92 = .ok (.iload_n 1, 1) := by decide +kernel
theorem dc_S_write_93 : decode bc_S_write 93 = .ok (.iaload, 1) := by decide +kernel
theorem dc_S_write_94 : decode bc_S_write 94 = .ok (.iload_n 2, 1) := by decide +kernel
theorem dc_S_write_95 : decode bc_S_write 95 = .ok (.iload_n 3, 1) := by decide +kernel
theorem dc_S_write_96 : decode bc_S_write 96 = .ok (.invokevirtual 74, 3) := by decide +kernel
theorem dc_S_write_99 : decode bc_S_write 99 = .ok (.iastore, 1) := by decide +kernel
theorem dc_S_write_100 : decode bc_S_write 100 = .ok (.iload 4, 2) := by decide +kernel
theorem dc_S_write_102 : decode bc_S_write 102 = .ok (.ifCond .eq 12, 3) := by decide +kernel
theorem dc_S_write_114 : decode bc_S_write 114 = .ok (.aload_n 0, 1) := by decide +kernel
theorem dc_S_write_115 : decode bc_S_write 115 = .ok (.getfield 46, 3) := by decide +kernel
theorem dc_S_write_118 : decode bc_S_write 118 = .ok (.getfield 82, 3) := by decide +kernel
theorem dc_S_write_121 : decode bc_S_write 121 = .ok (.iload_n 1, 1) := by decide +kernel
theorem dc_S_write_122 : decode bc_S_write 122 = .ok (.iaload, 1) := by decide +kernel
theorem dc_S_write_123 : decode bc_S_write 123 = .ok (.ireturn, 1) := by decide +kernel
theorem dc_S_write_45 : decode bc_S_write 45 = .ok (.iconst 1, 1) := by decide +kernel
theorem dc_S_write_46 : decode bc_S_write 46 = .ok (.goto 4, 3) := by decide +kernel
theorem dc_S_write_57 : decode bc_S_write 57 = .ok (.aload_n 0, 1) := by decide +kernel
theorem dc_S_write_58 : decode bc_S_write 58 = .ok (.getfield 46, 3) := by decide +kernel
theorem dc_S_write_61 : decode bc_S_write 61 = .ok (.getfield 70, 3) := by decide +kernel
theorem dc_S_write_64 : decode bc_S_write 64 = .ok (.sipush 600, 3) := by decide +kernel
theorem dc_S_write_67 : decode bc_S_write 67 = .ok (.if_icmp .lt 6, 3) := by decide +kernel
theorem dc_S_write_105 : decode bc_S_write 105 = .ok (.aload_n 0, 1) := by decide +kernel
theorem dc_S_write_106 : decode bc_S_write 106 = .ok (.getfield 46, 3) := by decide +kernel
theorem dc_S_write_109 : decode bc_S_write 109 = .ok (.iload_n 1, 1) := by decide +kernel
theorem dc_S_write_110 : decode bc_S_write 110 = .ok (.iconst 1, 1) := by decide +kernel
theorem dc_S_write_111 : decode bc_S_write 111 = .ok (.invokestatic 78, 3) := by decide +kernel
theorem dc_S_write_70 : decode bc_S_write 70 = .ok (.bipush (-3), 2) := by decide +kernel
theorem dc_S_write_72 : decode bc_S_write 72 = .ok (.ireturn, 1) := by decide +kernel
theorem dc_S_isMap_0 : decode bc_S_isMap 0 = .ok (.iload_n 0, 1) := by decide +kernel
theorem dc_S_isMap_1 : decode bc_S_isMap 1 = .ok (.ifCond .lt 13, 3) := by decide +kernel
theorem dc_S_isMap_14 : decode bc_S_isMap 14 = .ok (.iconst 0, 1) := by decide +kernel
theorem dc_S_isMap_15 : decode bc_S_isMap 15 = .ok (.ireturn, 1) := by decide +kernel
theorem dc_S_isMap_4 : decode bc_S_isMap 4 = .ok (.iload_n 0, 1) := by decide +kernel
theorem dc_S_isMap_5 : decode bc_S_isMap 5 = .ok (.bipush 8, 2) := by decide +kernel
theorem dc_S_isMap_7 : decode bc_S_isMap 7 = .ok (.if_icmp .ge 7, 3) := by decide +kernel
theorem dc_S_isMap_10 : decode bc_S_isMap 10 = .ok (.iconst 1, 1) := by decide +kernel
theorem dc_S_isMap_11 : decode bc_S_isMap 11 = .ok (.goto 4, 3) := by decide +kernel
theorem dc_S_isKey_0 : decode bc_S_isKey 0 = .ok (.iload_n 0, 1) := by decide +kernel
theorem dc_S_isKey_1 : decode bc_S_isKey 1 = .ok (.ifCond .lt 14, 3) := by decide +kernel
theorem dc_S_isKey_15 : decode bc_S_isKey 15 = .ok (.iconst 0, 1) := by decide +kernel
theorem dc_S_isKey_16 : decode bc_S_isKey 16 = .ok (.ireturn, 1) := by decide +kernel
theorem dc_S_isKey_4 : decode bc_S_isKey 4 = .ok (.iload_n 0, 1) := by decide +kernel
theorem dc_S_isKey_5 : decode bc_S_isKey 5 = .ok (.sipush 4095, 3) := by decide +kernel
theorem dc_S_isKey_8 : decode bc_S_isKey 8 = .ok (.if_icmp .gt 7, 3) := by decide +kernel
theorem dc_S_isKey_11 : decode bc_S_isKey 11 = .ok (.iconst 1, 1) := by decide +kernel
theorem dc_S_isKey_12 : decode bc_S_isKey 12 = .ok (.goto 4, 3) := by decide +kernel
theorem dc_S_isStamp_0 : decode bc_S_isStamp 0 = .ok (.iload_n 0, 1) := by decide +kernel
theorem dc_S_isStamp_1 : decode bc_S_isStamp 1 = .ok (.ifCond .lt 13, 3) := by decide +kernel
theorem dc_S_isStamp_14 : decode bc_S_isStamp 14 = .ok (.iconst 0, 1) := by decide +kernel
theorem dc_S_isStamp_15 : decode bc_S_isStamp 15 = .ok (.ireturn, 1) := by decide +kernel
theorem dc_S_isStamp_4 : decode bc_S_isStamp 4 = .ok (.iload_n 0, 1) := by decide +kernel
theorem dc_S_isStamp_5 : decode bc_S_isStamp 5 = .ok (.ldc 106, 2) := by decide +kernel
theorem dc_S_isStamp_7 : decode bc_S_isStamp 7 = .ok (.if_icmp .gt 7, 3) := by decide +kernel
theorem dc_S_isStamp_10 : decode bc_S_isStamp 10 = .ok (.iconst 1, 1) := by decide +kernel
theorem dc_S_isStamp_11 : decode bc_S_isStamp 11 = .ok (.goto 4, 3) := by decide +kernel
theorem dc_T_stampOf_0 : decode bc_T_stampOf 0 = .ok (.iload_n 1, 1) := by decide +kernel
theorem dc_T_stampOf_1 : decode bc_T_stampOf 1 = .ok (.istore_n 3, 1) := by decide +kernel
theorem dc_T_stampOf_2 : decode bc_T_stampOf 2 = .ok (.aload_n 0, 1) := by decide +kernel
theorem dc_T_stampOf_3 : decode bc_T_stampOf 3 = .ok (.getfield 9, 3) := by decide +kernel
theorem dc_T_stampOf_6 : decode bc_T_stampOf 6 = .ok (.iload_n 1, 1) := by decide +kernel
theorem dc_T_stampOf_7 : decode bc_T_stampOf 7 = .ok (.invokevirtual 26, 3) := by decide +kernel
theorem dc_T_stampOf_10 : decode bc_T_stampOf 10 = .ok (.istore 4, 2) := by decide +kernel
theorem dc_T_stampOf_12 : decode bc_T_stampOf 12 = .ok (.iload 4, 2) := by decide +kernel
theorem dc_T_stampOf_14 : decode bc_T_stampOf 14 = .ok (.ifCond .le 24, 3) := by decide +kernel
theorem dc_T_stampOf_38 : decode bc_T_stampOf 38 = .ok (.aload_n 0, 1) := by decide +kernel
theorem dc_T_stampOf_39 : decode bc_T_stampOf 39 = .ok (.getfield 9, 3) := by decide +kernel
theorem dc_T_stampOf_42 : decode bc_T_stampOf 42 = .ok (.iload_n 3, 1) := by decide +kernel
theorem dc_T_stampOf_43 : decode bc_T_stampOf 43 = .ok (.iload_n 2, 1) := by decide +kernel
theorem dc_T_stampOf_44 : decode bc_T_stampOf 44 = .ok (.invokevirtual 38, 3) := by decide +kernel
theorem dc_T_stampOf_47 : decode bc_T_stampOf 47 = .ok (.istore 4, 2) := by decide +kernel
theorem dc_T_stampOf_49 : decode bc_T_stampOf 49 = .ok (.aload_n 0, 1) := by decide +kernel
theorem dc_T_stampOf_50 : decode bc_T_stampOf 50 = .ok (.getfield 9, 3) := by decide +kernel
theorem dc_T_stampOf_53 : decode bc_T_stampOf 53 = .ok (.iload_n 3, 1) := by decide +kernel
theorem dc_T_stampOf_54 : decode bc_T_stampOf 54 = .ok (.iload 4, 2) := by decide +kernel
theorem dc_T_stampOf_56 : decode bc_T_stampOf 56 = .ok (.invokevirtual 41, 3) := by decide +kernel
theorem dc_T_stampOf_59 : decode bc_T_stampOf 59 = .ok (.iload_n 2, 1) := by decide +kernel
theorem dc_T_stampOf_60 : decode bc_T_stampOf 60 = .ok (.if_icmp .ne 16, 3) := by decide +kernel
theorem dc_T_stampOf_76 : decode bc_T_stampOf 76 = .ok (.bipush (-2), 2) := by decide +kernel
theorem dc_T_stampOf_78 : decode bc_T_stampOf 78 = .ok (.ireturn, 1) := by decide +kernel
theorem dc_T_stampOf_63 : decode bc_T_stampOf 63 = .ok (.aload_n 0, 1) := by decide +kernel
theorem dc_T_stampOf_64 : decode bc_T_stampOf 64 = .ok (.getfield 9, 3) := by decide +kernel
theorem dc_T_stampOf_67 : decode bc_T_stampOf 67 = .ok (.iload_n 3, 1) := by decide +kernel
theorem dc_T_stampOf_68 : decode bc_T_stampOf 68 = .ok (.iload 4, 2) := by decide +kernel
theorem dc_T_stampOf_70 : decode bc_T_stampOf 70 = .ok (.invokevirtual 35, 3) := by decide +kernel
theorem dc_T_stampOf_73 : decode bc_T_stampOf 73 = .ok (.goto 5, 3) := by decide +kernel
theorem dc_T_stampOf_17 : decode bc_T_stampOf 17 = .ok (.aload_n 0, 1) := by decide +kernel
theorem dc_T_stampOf_18 : decode bc_T_stampOf 18 = .ok (.getfield 9, 3) := by decide +kernel
theorem dc_T_stampOf_21 : decode bc_T_stampOf 21 = .ok (.iload_n 3, 1) := by decide +kernel
theorem dc_T_stampOf_22 : decode bc_T_stampOf 22 = .ok (.aload_n 0, 1) := by decide +kernel
theorem dc_T_stampOf_23 : decode bc_T_stampOf 23 = .ok (.iload_n 3, 1) := by decide +kernel
theorem dc_T_stampOf_24 : decode bc_T_stampOf 24 = .ok (.iload_n 2, 1) := by decide +kernel
theorem dc_T_stampOf_25 : decode bc_T_stampOf 25 = .ok (.invokevirtual 31, 3) := by decide +kernel
theorem dc_T_stampOf_28 : decode bc_T_stampOf 28 = .ok (.invokevirtual 35, 3) := by decide +kernel
theorem dc_T_stampOf_31 : decode bc_T_stampOf 31 = .ok (.istore_n 3, 1) := by decide +kernel
theorem dc_T_stampOf_32 : decode bc_T_stampOf 32 = .ok (.iinc 4 (-1), 3) := by decide +kernel
theorem dc_T_stampOf_35 : decode bc_T_stampOf 35 = .ok (.goto (-23), 3) := by decide +kernel
theorem dc_B_level_0 : decode bc_B_level 0 = .ok (.aload_n 0, 1) := by decide +kernel
theorem dc_B_level_1 : decode bc_B_level 1 = .ok (.iload_n 1, 1) := by decide +kernel
theorem dc_B_level_2 : decode bc_B_level 2 = .ok (.invokevirtual 37, 3) := by decide +kernel
theorem dc_B_level_5 : decode bc_B_level 5 = .ok (.ifCond .eq 12, 3) := by decide +kernel
theorem dc_B_level_17 : decode bc_B_level 17 = .ok (.iconst 0, 1) := by decide +kernel
theorem dc_B_level_18 : decode bc_B_level 18 = .ok (.ireturn, 1) := by decide +kernel
theorem dc_B_level_8 : decode bc_B_level 8 = .ok (.aload_n 0, 1) := by decide +kernel
theorem dc_B_level_9 : decode bc_B_level 9 = .ok (.getfield 15, 3) := by decide +kernel
theorem dc_B_level_12 : decode bc_B_level 12 = .ok (.iload_n 1, 1) := by decide +kernel
theorem dc_B_level_13 : decode bc_B_level 13 = .ok (.iaload, 1) := by decide +kernel
theorem dc_B_level_14 : decode bc_B_level 14 = .ok (.goto 4, 3) := by decide +kernel
theorem dc_B_isBlock_0 : decode bc_B_isBlock 0 = .ok (.iload_n 1, 1) := by decide +kernel
theorem dc_B_isBlock_1 : decode bc_B_isBlock 1 = .ok (.ifCond .le 14, 3) := by decide +kernel
theorem dc_B_isBlock_15 : decode bc_B_isBlock 15 = .ok (.iconst 0, 1) := by decide +kernel
theorem dc_B_isBlock_16 : decode bc_B_isBlock 16 = .ok (.ireturn, 1) := by decide +kernel
theorem dc_B_isBlock_4 : decode bc_B_isBlock 4 = .ok (.iload_n 1, 1) := by decide +kernel
theorem dc_B_isBlock_5 : decode bc_B_isBlock 5 = .ok (.sipush 1200, 3) := by decide +kernel
theorem dc_B_isBlock_8 : decode bc_B_isBlock 8 = .ok (.if_icmp .gt 7, 3) := by decide +kernel
theorem dc_B_isBlock_11 : decode bc_B_isBlock 11 = .ok (.iconst 1, 1) := by decide +kernel
theorem dc_B_isBlock_12 : decode bc_B_isBlock 12 = .ok (.goto 4, 3) := by decide +kernel
theorem dc_B_slotOf_0 : decode bc_B_slotOf 0 = .ok (.iconst (-1), 1) := by decide +kernel
theorem dc_B_slotOf_1 : decode bc_B_slotOf 1 = .ok (.istore_n 3, 1) := by decide +kernel
theorem dc_B_slotOf_2 : decode bc_B_slotOf 2 = .ok (.iload_n 1, 1) := by decide +kernel
theorem dc_B_slotOf_3 : decode bc_B_slotOf 3 = .ok (.aload_n 0, 1) := by decide +kernel
theorem dc_B_slotOf_4 : decode bc_B_slotOf 4 = .ok (.getfield 28, 3) := by decide +kernel
theorem dc_B_slotOf_7 : decode bc_B_slotOf 7 = .ok (.imul, 1) := by decide +kernel
theorem dc_B_slotOf_8 : decode bc_B_slotOf 8 = .ok (.istore 4, 2) := by decide +kernel
theorem dc_B_slotOf_10 : decode bc_B_slotOf 10 = .ok (.aload_n 0, 1) := by decide +kernel
theorem dc_B_slotOf_11 : decode bc_B_slotOf 11 = .ok (.iload_n 1, 1) := by decide +kernel
theorem dc_B_slotOf_12 : decode bc_B_slotOf 12 = .ok (.invokevirtual 45, 3) := by decide +kernel
theorem dc_B_slotOf_15 : decode bc_B_slotOf 15 = .ok (.aload_n 0, 1) := by decide +kernel
theorem dc_B_slotOf_16 : decode bc_B_slotOf 16 = .ok (.getfield 28, 3) := by decide +kernel
theorem dc_B_slotOf_19 : decode bc_B_slotOf 19 = .ok (.invokestatic 49, 3) := by decide +kernel
theorem dc_B_slotOf_22 : decode bc_B_slotOf 22 = .ok (.istore 5, 2) := by decide +kernel
theorem dc_B_slotOf_24 : decode bc_B_slotOf 24 = .ok (.iload_n 3, 1) := by decide +kernel
theorem dc_B_slotOf_25 : decode bc_B_slotOf 25 = .ok (.iconst 1, 1) := by decide +kernel
theorem dc_B_slotOf_26 : decode bc_B_slotOf 26 = .ok (.iadd, 1) := by decide +kernel
theorem dc_B_slotOf_27 : decode bc_B_slotOf 27 = .ok (.iload 5, 2) := by decide +kernel
theorem dc_B_slotOf_29 : decode bc_B_slotOf 29 = .ok (.if_icmp .ge 24, 3) := by decide +kernel
theorem dc_B_slotOf_53 : decode bc_B_slotOf 53 = .ok (.iload_n 3, 1) := by decide +kernel
theorem dc_B_slotOf_54 : decode bc_B_slotOf 54 = .ok (.ireturn, 1) := by decide +kernel
theorem dc_B_slotOf_32 : decode bc_B_slotOf 32 = .ok (.aload_n 0, 1) := by decide +kernel
theorem dc_B_slotOf_33 : decode bc_B_slotOf 33 = .ok (.getfield 31, 3) := by decide +kernel
theorem dc_B_slotOf_36 : decode bc_B_slotOf 36 = .ok (.iload 4, 2) := by decide +kernel
theorem dc_B_slotOf_38 : decode bc_B_slotOf 38 = .ok (.iload_n 3, 1) := by decide +kernel
theorem dc_B_slotOf_39 : decode bc_B_slotOf 39 = .ok (.iadd, 1) := by decide +kernel
theorem dc_B_slotOf_40 : decode bc_B_slotOf 40 = .ok (.iconst 1, 1) := by decide +kernel
theorem dc_B_slotOf_41 : decode bc_B_slotOf 41 = .ok (.iadd, 1) := by decide +kernel
theorem dc_B_slotOf_42 : decode bc_B_slotOf 42 = .ok (.iaload, 1) := by decide +kernel
theorem dc_B_slotOf_43 : decode bc_B_slotOf 43 = .ok (.iload_n 2, 1) := by decide +kernel
theorem dc_B_slotOf_44 : decode bc_B_slotOf 44 = .ok (.if_icmp .gt 9, 3) := by decide +kernel
theorem dc_B_slotOf_47 : decode bc_B_slotOf 47 = .ok (.iinc 3 1, 3) := by decide +kernel
theorem dc_B_slotOf_50 : decode bc_B_slotOf 50 = .ok (.goto (-26), 3) := by decide +kernel
theorem dc_B_size_0 : decode bc_B_size 0 = .ok (.aload_n 0, 1) := by decide +kernel
theorem dc_B_size_1 : decode bc_B_size 1 = .ok (.iload_n 1, 1) := by decide +kernel
theorem dc_B_size_2 : decode bc_B_size 2 = .ok (.invokevirtual 37, 3) := by decide +kernel
theorem dc_B_size_5 : decode bc_B_size 5 = .ok (.ifCond .eq 12, 3) := by decide +kernel
theorem dc_B_size_17 : decode bc_B_size 17 = .ok (.iconst 0, 1) := by decide +kernel
theorem dc_B_size_18 : decode bc_B_size 18 = .ok (.ireturn, 1) := by decide +kernel
theorem dc_B_size_8 : decode bc_B_size 8 = .ok (.aload_n 0, 1) := by decide +kernel
theorem dc_B_size_9 : decode bc_B_size 9 = .ok (.getfield 18, 3) := by decide +kernel
theorem dc_B_size_12 : decode bc_B_size 12 = .ok (.iload_n 1, 1) := by decide +kernel
theorem dc_B_size_13 : decode bc_B_size 13 = .ok (.iaload, 1) := by decide +kernel
theorem dc_B_size_14 : decode bc_B_size 14 = .ok (.goto 4, 3) := by decide +kernel
theorem dc_B_key_0 : decode bc_B_key 0 = .ok (.aload_n 0, 1) := by decide +kernel
theorem dc_B_key_1 : decode bc_B_key 1 = .ok (.iload_n 1, 1) := by decide +kernel
theorem dc_B_key_2 : decode bc_B_key 2 = .ok (.iload_n 2, 1) := by decide +kernel
theorem dc_B_key_3 : decode bc_B_key 3 = .ok (.invokevirtual 41, 3) := by decide +kernel
theorem dc_B_key_6 : decode bc_B_key 6 = .ok (.ifCond .eq 19, 3) := by decide +kernel
theorem dc_B_key_25 : decode bc_B_key 25 = .ok (.bipush (-2), 2) := by decide +kernel
theorem dc_B_key_27 : decode bc_B_key 27 = .ok (.ireturn, 1) := by decide +kernel
theorem dc_B_key_9 : decode bc_B_key 9 = .ok (.aload_n 0, 1) := by decide +kernel
theorem dc_B_key_10 : decode bc_B_key 10 = .ok (.getfield 31, 3) := by decide +kernel
theorem dc_B_key_13 : decode bc_B_key 13 = .ok (.iload_n 1, 1) := by decide +kernel
theorem dc_B_key_14 : decode bc_B_key 14 = .ok (.aload_n 0, 1) := by decide +kernel
theorem dc_B_key_15 : decode bc_B_key 15 = .ok (.getfield 28, 3) := by decide +kernel
theorem dc_B_key_18 : decode bc_B_key 18 = .ok (.imul, 1) := by decide +kernel
theorem dc_B_key_19 : decode bc_B_key 19 = .ok (.iload_n 2, 1) := by decide +kernel
theorem dc_B_key_20 : decode bc_B_key 20 = .ok (.iadd, 1) := by decide +kernel
theorem dc_B_key_21 : decode bc_B_key 21 = .ok (.iaload, 1) := by decide +kernel
theorem dc_B_key_22 : decode bc_B_key 22 = .ok (.goto 5, 3) := by decide +kernel
theorem dc_B_isEntry_0 : decode bc_B_isEntry 0 = .ok (.iload_n 1, 1) := by decide +kernel
theorem dc_B_isEntry_1 : decode bc_B_isEntry 1 = .ok (.ifCond .lt 36, 3) := by decide +kernel
theorem dc_B_isEntry_37 : decode bc_B_isEntry 37 = .ok (.iconst 0, 1) := by decide +kernel
theorem dc_B_isEntry_38 : decode bc_B_isEntry 38 = .ok (.ireturn, 1) := by decide +kernel
theorem dc_B_isEntry_4 : decode bc_B_isEntry 4 = .ok (.iload_n 1, 1) := by decide +kernel
theorem dc_B_isEntry_5 : decode bc_B_isEntry 5 = .ok (.sipush 1200, 3) := by decide +kernel
theorem dc_B_isEntry_8 : decode bc_B_isEntry 8 = .ok (.if_icmp .gt 29, 3) := by decide +kernel
theorem dc_B_isEntry_11 : decode bc_B_isEntry 11 = .ok (.iload_n 2, 1) := by decide +kernel
theorem dc_B_isEntry_12 : decode bc_B_isEntry 12 = .ok (.ifCond .lt 25, 3) := by decide +kernel
theorem dc_B_isEntry_15 : decode bc_B_isEntry 15 = .ok (.iload_n 2, 1) := by decide +kernel
theorem dc_B_isEntry_16 : decode bc_B_isEntry 16 = .ok (.aload_n 0, 1) := by decide +kernel
theorem dc_B_isEntry_17 : decode bc_B_isEntry 17 = .ok (.getfield 28, 3) := by decide +kernel
theorem dc_B_isEntry_20 : decode bc_B_isEntry 20 = .ok (.if_icmp .ge 17, 3) := by decide +kernel
theorem dc_B_isEntry_23 : decode bc_B_isEntry 23 = .ok (.iload_n 2, 1) := by decide +kernel
theorem dc_B_isEntry_24 : decode bc_B_isEntry 24 = .ok (.aload_n 0, 1) := by decide +kernel
theorem dc_B_isEntry_25 : decode bc_B_isEntry 25 = .ok (.getfield 18, 3) := by decide +kernel
theorem dc_B_isEntry_28 : decode bc_B_isEntry 28 = .ok (.iload_n 1, 1) := by decide +kernel
theorem dc_B_isEntry_29 : decode bc_B_isEntry 29 = .ok (.iaload, 1) := by decide +kernel
theorem dc_B_isEntry_30 : decode bc_B_isEntry 30 = .ok (.if_icmp .ge 7, 3) := by decide +kernel
theorem dc_B_isEntry_33 : decode bc_B_isEntry 33 = .ok (.iconst 1, 1) := by decide +kernel
theorem dc_B_isEntry_34 : decode bc_B_isEntry 34 = .ok (.goto 4, 3) := by decide +kernel
theorem dc_B_goal_0 : decode bc_B_goal 0 = .ok (.aload_n 0, 1) := by decide +kernel
theorem dc_B_goal_1 : decode bc_B_goal 1 = .ok (.iload_n 1, 1) := by decide +kernel
theorem dc_B_goal_2 : decode bc_B_goal 2 = .ok (.iload_n 2, 1) := by decide +kernel
theorem dc_B_goal_3 : decode bc_B_goal 3 = .ok (.invokevirtual 41, 3) := by decide +kernel
theorem dc_B_goal_6 : decode bc_B_goal 6 = .ok (.ifCond .eq 19, 3) := by decide +kernel
theorem dc_B_goal_25 : decode bc_B_goal 25 = .ok (.iconst 0, 1) := by decide +kernel
theorem dc_B_goal_26 : decode bc_B_goal 26 = .ok (.ireturn, 1) := by decide +kernel
theorem dc_B_goal_9 : decode bc_B_goal 9 = .ok (.aload_n 0, 1) := by decide +kernel
theorem dc_B_goal_10 : decode bc_B_goal 10 = .ok (.getfield 34, 3) := by decide +kernel
theorem dc_B_goal_13 : decode bc_B_goal 13 = .ok (.iload_n 1, 1) := by decide +kernel
theorem dc_B_goal_14 : decode bc_B_goal 14 = .ok (.aload_n 0, 1) := by decide +kernel
theorem dc_B_goal_15 : decode bc_B_goal 15 = .ok (.getfield 28, 3) := by decide +kernel
theorem dc_B_goal_18 : decode bc_B_goal 18 = .ok (.imul, 1) := by decide +kernel
theorem dc_B_goal_19 : decode bc_B_goal 19 = .ok (.iload_n 2, 1) := by decide +kernel
theorem dc_B_goal_20 : decode bc_B_goal 20 = .ok (.iadd, 1) := by decide +kernel
theorem dc_B_goal_21 : decode bc_B_goal 21 = .ok (.iaload, 1) := by decide +kernel
theorem dc_B_goal_22 : decode bc_B_goal 22 = .ok (.goto 4, 3) := by decide +kernel
theorem dc_T_slotToward_0 : decode bc_T_slotToward 0 = .ok (.iconst 0, 1) := by decide +kernel
theorem dc_T_slotToward_1 : decode bc_T_slotToward 1 = .ok (.aload_n 0, 1) := by decide +kernel
theorem dc_T_slotToward_2 : decode bc_T_slotToward 2 = .ok (.getfield 9, 3) := by decide +kernel
theorem dc_T_slotToward_5 : decode bc_T_slotToward 5 = .ok (.iload_n 1, 1) := by decide +kernel
theorem dc_T_slotToward_6 : decode bc_T_slotToward 6 = .ok (.iload_n 2, 1) := by decide +kernel
theorem dc_T_slotToward_7 : decode bc_T_slotToward 7 = .ok (.invokevirtual 38, 3) := by decide +kernel
theorem dc_T_slotToward_10 : decode bc_T_slotToward 10 = .ok (.invokestatic 51, 3) := by decide +kernel
theorem dc_T_slotToward_13 : decode bc_T_slotToward 13 = .ok (.ireturn, 1) := by decide +kernel
theorem dc_T_with_0 : decode bc_T_with 0 = .ok (.iload_n 1, 1) := by decide +kernel
theorem dc_T_with_1 : decode bc_T_with 1 = .ok (.ifCond .ne 14, 3) := by decide +kernel
theorem dc_T_with_15 : decode bc_T_with 15 = .ok (.aload_n 0, 1) := by decide +kernel
theorem dc_T_with_16 : decode bc_T_with 16 = .ok (.getfield 9, 3) := by decide +kernel
theorem dc_T_with_19 : decode bc_T_with 19 = .ok (.iload_n 1, 1) := by decide +kernel
theorem dc_T_with_20 : decode bc_T_with 20 = .ok (.invokevirtual 59, 3) := by decide +kernel
theorem dc_T_with_23 : decode bc_T_with 23 = .ok (.istore 4, 2) := by decide +kernel
theorem dc_T_with_25 : decode bc_T_with 25 = .ok (.aload_n 0, 1) := by decide +kernel
theorem dc_T_with_26 : decode bc_T_with 26 = .ok (.iload 4, 2) := by decide +kernel
theorem dc_T_with_28 : decode bc_T_with 28 = .ok (.aload_n 0, 1) := by decide +kernel
theorem dc_T_with_29 : decode bc_T_with 29 = .ok (.getfield 9, 3) := by decide +kernel
theorem dc_T_with_32 : decode bc_T_with 32 = .ok (.iload 4, 2) := by decide +kernel
theorem dc_T_with_34 : decode bc_T_with 34 = .ok (.invokevirtual 26, 3) := by decide +kernel
theorem dc_T_with_37 : decode bc_T_with 37 = .ok (.iload_n 2, 1) := by decide +kernel
theorem dc_T_with_38 : decode bc_T_with 38 = .ok (.iload_n 3, 1) := by decide +kernel
theorem dc_T_with_39 : decode bc_T_with 39 = .ok (.invokevirtual 62, 3) := by decide +kernel
theorem dc_T_with_42 : decode bc_T_with 42 = .ok (.aload_n 0, 1) := by decide +kernel
theorem dc_T_with_43 : decode bc_T_with 43 = .ok (.getfield 9, 3) := by decide +kernel
theorem dc_T_with_46 : decode bc_T_with 46 = .ok (.iload 4, 2) := by decide +kernel
theorem dc_T_with_48 : decode bc_T_with 48 = .ok (.invokevirtual 48, 3) := by decide +kernel
theorem dc_T_with_51 : decode bc_T_with 51 = .ok (.aload_n 0, 1) := by decide +kernel
theorem dc_T_with_52 : decode bc_T_with 52 = .ok (.getfield 15, 3) := by decide +kernel
theorem dc_T_with_55 : decode bc_T_with 55 = .ok (.if_icmp .le 12, 3) := by decide +kernel
theorem dc_T_with_67 : decode bc_T_with 67 = .ok (.iload 4, 2) := by decide +kernel
theorem dc_T_with_69 : decode bc_T_with 69 = .ok (.ireturn, 1) := by decide +kernel
theorem dc_T_with_58 : decode bc_T_with 58 = .ok (.aload_n 0, 1) := by decide +kernel
theorem dc_T_with_59 : decode bc_T_with 59 = .ok (.iload 4, 2) := by decide +kernel
theorem dc_T_with_61 : decode bc_T_with 61 = .ok (.invokevirtual 66, 3) := by decide +kernel
theorem dc_T_with_64 : decode bc_T_with 64 = .ok (.goto 5, 3) := by decide +kernel
theorem dc_T_with_4 : decode bc_T_with 4 = .ok (.aload_n 0, 1) := by decide +kernel
theorem dc_T_with_5 : decode bc_T_with 5 = .ok (.getfield 9, 3) := by decide +kernel
theorem dc_T_with_8 : decode bc_T_with 8 = .ok (.iconst 0, 1) := by decide +kernel
theorem dc_T_with_9 : decode bc_T_with 9 = .ok (.invokevirtual 56, 3) := by decide +kernel
theorem dc_T_with_12 : decode bc_T_with 12 = .ok (.goto 11, 3) := by decide +kernel
theorem dc_B_owned_0 : decode bc_B_owned 0 = .ok (.aload_n 0, 1) := by decide +kernel
theorem dc_B_owned_1 : decode bc_B_owned 1 = .ok (.iload_n 1, 1) := by decide +kernel
theorem dc_B_owned_2 : decode bc_B_owned 2 = .ok (.invokevirtual 55, 3) := by decide +kernel
theorem dc_B_owned_5 : decode bc_B_owned 5 = .ok (.iconst 1, 1) := by decide +kernel
theorem dc_B_owned_6 : decode bc_B_owned 6 = .ok (.if_icmp .gt 5, 3) := by decide +kernel
theorem dc_B_owned_11 : decode bc_B_owned 11 = .ok (.aload_n 0, 1) := by decide +kernel
theorem dc_B_owned_12 : decode bc_B_owned 12 = .ok (.aload_n 0, 1) := by decide +kernel
theorem dc_B_owned_13 : decode bc_B_owned 13 = .ok (.iload_n 1, 1) := by decide +kernel
theorem dc_B_owned_14 : decode bc_B_owned 14 = .ok (.invokevirtual 57, 3) := by decide +kernel
theorem dc_B_owned_17 : decode bc_B_owned 17 = .ok (.invokevirtual 60, 3) := by decide +kernel
theorem dc_B_owned_20 : decode bc_B_owned 20 = .ok (.istore_n 2, 1) := by decide +kernel
theorem dc_B_owned_21 : decode bc_B_owned 21 = .ok (.aload_n 0, 1) := by decide +kernel
theorem dc_B_owned_22 : decode bc_B_owned 22 = .ok (.iload_n 1, 1) := by decide +kernel
theorem dc_B_owned_23 : decode bc_B_owned 23 = .ok (.iload_n 2, 1) := by decide +kernel
theorem dc_B_owned_24 : decode bc_B_owned 24 = .ok (.invokevirtual 63, 3) := by decide +kernel
theorem dc_B_owned_27 : decode bc_B_owned 27 = .ok (.aload_n 0, 1) := by decide +kernel
theorem dc_B_owned_28 : decode bc_B_owned 28 = .ok (.iload_n 1, 1) := by decide +kernel
theorem dc_B_owned_29 : decode bc_B_owned 29 = .ok (.invokevirtual 57, 3) := by decide +kernel
theorem dc_B_owned_32 : decode bc_B_owned 32 = .ok (.ifCond .le 30, 3) := by decide +kernel
theorem dc_B_owned_62 : decode bc_B_owned 62 = .ok (.aload_n 0, 1) := by decide +kernel
theorem dc_B_owned_63 : decode bc_B_owned 63 = .ok (.iload_n 1, 1) := by decide +kernel
theorem dc_B_owned_64 : decode bc_B_owned 64 = .ok (.invokevirtual 74, 3) := by decide +kernel
theorem dc_B_owned_67 : decode bc_B_owned 67 = .ok (.pop, 1) := by decide +kernel
theorem dc_B_owned_68 : decode bc_B_owned 68 = .ok (.iload_n 2, 1) := by decide +kernel
theorem dc_B_owned_69 : decode bc_B_owned 69 = .ok (.ireturn, 1) := by decide +kernel
theorem dc_B_owned_35 : decode bc_B_owned 35 = .ok (.iconst 0, 1) := by decide +kernel
theorem dc_B_owned_36 : decode bc_B_owned 36 = .ok (.istore_n 3, 1) := by decide +kernel
theorem dc_B_owned_37 : decode bc_B_owned 37 = .ok (.iload_n 3, 1) := by decide +kernel
theorem dc_B_owned_38 : decode bc_B_owned 38 = .ok (.aload_n 0, 1) := by decide +kernel
theorem dc_B_owned_39 : decode bc_B_owned 39 = .ok (.iload_n 1, 1) := by decide +kernel
theorem dc_B_owned_40 : decode bc_B_owned 40 = .ok (.invokevirtual 45, 3) := by decide +kernel
theorem dc_B_owned_43 : decode bc_B_owned 43 = .ok (.if_icmp .ge 19, 3) := by decide +kernel
theorem dc_B_owned_46 : decode bc_B_owned 46 = .ok (.aload_n 0, 1) := by decide +kernel
theorem dc_B_owned_47 : decode bc_B_owned 47 = .ok (.aload_n 0, 1) := by decide +kernel
theorem dc_B_owned_48 : decode bc_B_owned 48 = .ok (.iload_n 1, 1) := by decide +kernel
theorem dc_B_owned_49 : decode bc_B_owned 49 = .ok (.iload_n 3, 1) := by decide +kernel
theorem dc_B_owned_50 : decode bc_B_owned 50 = .ok (.invokevirtual 67, 3) := by decide +kernel
theorem dc_B_owned_53 : decode bc_B_owned 53 = .ok (.invokevirtual 70, 3) := by decide +kernel
theorem dc_B_owned_56 : decode bc_B_owned 56 = .ok (.iinc 3 1, 3) := by decide +kernel
theorem dc_B_owned_59 : decode bc_B_owned 59 = .ok (.goto (-22), 3) := by decide +kernel
theorem dc_B_owned_9 : decode bc_B_owned 9 = .ok (.iload_n 1, 1) := by decide +kernel
theorem dc_B_owned_10 : decode bc_B_owned 10 = .ok (.ireturn, 1) := by decide +kernel
theorem dc_B_ways_0 : decode bc_B_ways 0 = .ok (.aload_n 0, 1) := by decide +kernel
theorem dc_B_ways_1 : decode bc_B_ways 1 = .ok (.iload_n 1, 1) := by decide +kernel
theorem dc_B_ways_2 : decode bc_B_ways 2 = .ok (.invokevirtual 37, 3) := by decide +kernel
theorem dc_B_ways_5 : decode bc_B_ways 5 = .ok (.ifCond .eq 12, 3) := by decide +kernel
theorem dc_B_ways_17 : decode bc_B_ways 17 = .ok (.iconst 0, 1) := by decide +kernel
theorem dc_B_ways_18 : decode bc_B_ways 18 = .ok (.ireturn, 1) := by decide +kernel
theorem dc_B_ways_8 : decode bc_B_ways 8 = .ok (.aload_n 0, 1) := by decide +kernel
theorem dc_B_ways_9 : decode bc_B_ways 9 = .ok (.getfield 9, 3) := by decide +kernel
theorem dc_B_ways_12 : decode bc_B_ways 12 = .ok (.iload_n 1, 1) := by decide +kernel
theorem dc_B_ways_13 : decode bc_B_ways 13 = .ok (.iaload, 1) := by decide +kernel
theorem dc_B_ways_14 : decode bc_B_ways 14 = .ok (.goto 4, 3) := by decide +kernel
theorem dc_B_take_0 : decode bc_B_take 0 = .ok (.aload_n 0, 1) := by decide +kernel
theorem dc_B_take_1 : decode bc_B_take 1 = .ok (.getfield 24, 3) := by decide +kernel
theorem dc_B_take_4 : decode bc_B_take 4 = .ok (.ifCond .le 13, 3) := by decide +kernel
theorem dc_B_take_17 : decode bc_B_take 17 = .ok (.iconst 0, 1) := by decide +kernel
theorem dc_B_take_18 : decode bc_B_take 18 = .ok (.ireturn, 1) := by decide +kernel
theorem dc_B_take_7 : decode bc_B_take 7 = .ok (.aload_n 0, 1) := by decide +kernel
theorem dc_B_take_8 : decode bc_B_take 8 = .ok (.getfield 24, 3) := by decide +kernel
theorem dc_B_take_11 : decode bc_B_take 11 = .ok (.sipush 1200, 3) := by decide +kernel
theorem dc_B_take_14 : decode bc_B_take 14 = .ok (.if_icmp .le 5, 3) := by decide +kernel
theorem dc_B_take_19 : decode bc_B_take 19 = .ok (.aload_n 0, 1) := by decide +kernel
theorem dc_B_take_20 : decode bc_B_take 20 = .ok (.dup, 1) := by decide +kernel
theorem dc_B_take_21 : decode bc_B_take 21 = .ok (.getfield 24, 3) := by decide +kernel
theorem dc_B_take_24 : decode bc_B_take 24 = .ok (.iconst 1, 1) := by decide +kernel
theorem dc_B_take_25 : decode bc_B_take 25 = .ok (.isub, 1) := by decide +kernel
theorem dc_B_take_26 : decode bc_B_take 26 = .ok (.putfield 24, 3) := by decide +kernel
theorem dc_B_take_29 : decode bc_B_take 29 = .ok (.aload_n 0, 1) := by decide +kernel
theorem dc_B_take_30 : decode bc_B_take 30 = .ok (.getfield 21, 3) := by decide +kernel
theorem dc_B_take_33 : decode bc_B_take 33 = .ok (.aload_n 0, 1) := by decide +kernel
theorem dc_B_take_34 : decode bc_B_take 34 = .ok (.getfield 24, 3) := by decide +kernel
theorem dc_B_take_37 : decode bc_B_take 37 = .ok (.iaload, 1) := by decide +kernel
theorem dc_B_take_38 : decode bc_B_take 38 = .ok (.istore_n 2, 1) := by decide +kernel
theorem dc_B_take_39 : decode bc_B_take 39 = .ok (.aload_n 0, 1) := by decide +kernel
theorem dc_B_take_40 : decode bc_B_take 40 = .ok (.iload_n 2, 1) := by decide +kernel
theorem dc_B_take_41 : decode bc_B_take 41 = .ok (.invokevirtual 37, 3) := by decide +kernel
theorem dc_B_take_44 : decode bc_B_take 44 = .ok (.ifCond .eq 24, 3) := by decide +kernel
theorem dc_B_take_68 : decode bc_B_take 68 = .ok (.iload_n 2, 1) := by decide +kernel
theorem dc_B_take_69 : decode bc_B_take 69 = .ok (.ireturn, 1) := by decide +kernel
theorem dc_B_take_47 : decode bc_B_take 47 = .ok (.aload_n 0, 1) := by decide +kernel
theorem dc_B_take_48 : decode bc_B_take 48 = .ok (.getfield 9, 3) := by decide +kernel
theorem dc_B_take_51 : decode bc_B_take 51 = .ok (.iload_n 2, 1) := by decide +kernel
theorem dc_B_take_52 : decode bc_B_take 52 = .ok (.iconst 1, 1) := by decide +kernel
theorem dc_B_take_53 : decode bc_B_take 53 = .ok (.iastore, 1) := by decide +kernel
theorem dc_B_take_54 : decode bc_B_take 54 = .ok (.aload_n 0, 1) := by decide +kernel
theorem dc_B_take_55 : decode bc_B_take 55 = .ok (.getfield 15, 3) := by decide +kernel
theorem dc_B_take_58 : decode bc_B_take 58 = .ok (.iload_n 2, 1) := by decide +kernel
theorem dc_B_take_59 : decode bc_B_take 59 = .ok (.iload_n 1, 1) := by decide +kernel
theorem dc_B_take_60 : decode bc_B_take 60 = .ok (.iastore, 1) := by decide +kernel
theorem dc_B_take_61 : decode bc_B_take 61 = .ok (.aload_n 0, 1) := by decide +kernel
theorem dc_B_take_62 : decode bc_B_take 62 = .ok (.getfield 18, 3) := by decide +kernel
theorem dc_B_take_65 : decode bc_B_take 65 = .ok (.iload_n 2, 1) := by decide +kernel
theorem dc_B_take_66 : decode bc_B_take 66 = .ok (.iconst 0, 1) := by decide +kernel
theorem dc_B_take_67 : decode bc_B_take 67 = .ok (.iastore, 1) := by decide +kernel
theorem dc_B_copyEntries_0 : decode bc_B_copyEntries 0 = .ok (.aload_n 0, 1) := by decide +kernel
theorem dc_B_copyEntries_1 : decode bc_B_copyEntries 1 = .ok (.iload_n 1, 1) := by decide +kernel
theorem dc_B_copyEntries_2 : decode bc_B_copyEntries 2 = .ok (.invokevirtual 37, 3) := by decide +kernel
theorem dc_B_copyEntries_5 : decode bc_B_copyEntries 5 = .ok (.ifCond .eq 77, 3) := by decide +kernel
theorem dc_B_copyEntries_82 : decode bc_B_copyEntries 82 = .ok (.return_, 1) := by decide +kernel
theorem dc_B_copyEntries_8 : decode bc_B_copyEntries 8 = .ok (.aload_n 0, 1) := by decide +kernel
theorem dc_B_copyEntries_9 : decode bc_B_copyEntries 9 = .ok (.iload_n 2, 1) := by decide +kernel
theorem dc_B_copyEntries_10 : decode bc_B_copyEntries 10 = .ok (.invokevirtual 37, 3) := by decide +kernel
theorem dc_B_copyEntries_13 : decode bc_B_copyEntries 13 = .ok (.ifCond .eq 69, 3) := by decide +kernel
theorem dc_B_copyEntries_16 : decode bc_B_copyEntries 16 = .ok (.aload_n 0, 1) := by decide +kernel
theorem dc_B_copyEntries_17 : decode bc_B_copyEntries 17 = .ok (.getfield 31, 3) := by decide +kernel
theorem dc_B_copyEntries_20 : decode bc_B_copyEntries 20 = .ok (.iload_n 1, 1) := by decide +kernel
theorem dc_B_copyEntries_21 : decode bc_B_copyEntries 21 = .ok (.aload_n 0, 1) := by decide +kernel
