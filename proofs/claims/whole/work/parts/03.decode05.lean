theorem dc_I_firstFault_1 : decode bc_I_firstFault 1 = .ok (.istore_n 3, 1) := by decide +kernel
theorem dc_I_firstFault_2 : decode bc_I_firstFault 2 = .ok (.iload_n 3, 1) := by decide +kernel
theorem dc_I_firstFault_3 : decode bc_I_firstFault 3 = .ok (.sipush 1200, 3) := by decide +kernel
theorem dc_I_firstFault_6 : decode bc_I_firstFault 6 = .ok (.if_icmp .gt 23, 3) := by decide +kernel
theorem dc_I_firstFault_29 : decode bc_I_firstFault 29 = .ok (.aload_n 0, 1) := by decide +kernel
theorem dc_I_firstFault_30 : decode bc_I_firstFault 30 = .ok (.aload_n 1, 1) := by decide +kernel
theorem dc_I_firstFault_31 : decode bc_I_firstFault 31 = .ok (.sipush 1201, 3) := by decide +kernel
theorem dc_I_firstFault_34 : decode bc_I_firstFault 34 = .ok (.invokevirtual 40, 3) := by decide +kernel
theorem dc_I_firstFault_37 : decode bc_I_firstFault 37 = .ok (.istore_n 3, 1) := by decide +kernel
theorem dc_I_firstFault_38 : decode bc_I_firstFault 38 = .ok (.iload_n 3, 1) := by decide +kernel
theorem dc_I_firstFault_39 : decode bc_I_firstFault 39 = .ok (.ifCond .ne 12, 3) := by decide +kernel
theorem dc_I_firstFault_51 : decode bc_I_firstFault 51 = .ok (.iload_n 3, 1) := by decide +kernel
theorem dc_I_firstFault_52 : decode bc_I_firstFault 52 = .ok (.ifCond .ne 8, 3) := by decide +kernel
theorem dc_I_firstFault_60 : decode bc_I_firstFault 60 = .ok (.iload_n 3, 1) := by decide +kernel
theorem dc_I_firstFault_61 : decode bc_I_firstFault 61 = .ok (.ifCond .eq 7, 3) := by decide +kernel
theorem dc_I_firstFault_68 : decode bc_I_firstFault 68 = .ok (.aload_n 0, 1) := by decide +kernel
theorem dc_I_firstFault_69 : decode bc_I_firstFault 69 = .ok (.invokevirtual 48, 3) := by decide +kernel
theorem dc_I_firstFault_72 : decode bc_I_firstFault 72 = .ok (.ireturn, 1) := by decide +kernel
theorem dc_I_firstFault_64 : decode bc_I_firstFault 64 = .ok (.iload_n 3, 1) := by decide +kernel
theorem dc_I_firstFault_65 : decode bc_I_firstFault 65 = .ok (.goto 7, 3) := by decide +kernel
theorem dc_I_firstFault_55 : decode bc_I_firstFault 55 = .ok (.aload_n 0, 1) := by decide +kernel
theorem dc_I_firstFault_56 : decode bc_I_firstFault 56 = .ok (.invokevirtual 44, 3) := by decide +kernel
theorem dc_I_firstFault_59 : decode bc_I_firstFault 59 = .ok (.istore_n 3, 1) := by decide +kernel
theorem dc_I_firstFault_42 : decode bc_I_firstFault 42 = .ok (.aload_n 0, 1) := by decide +kernel
theorem dc_I_firstFault_43 : decode bc_I_firstFault 43 = .ok (.aload_n 2, 1) := by decide +kernel
theorem dc_I_firstFault_44 : decode bc_I_firstFault 44 = .ok (.sipush 1209, 3) := by decide +kernel
theorem dc_I_firstFault_47 : decode bc_I_firstFault 47 = .ok (.invokevirtual 40, 3) := by decide +kernel
theorem dc_I_firstFault_50 : decode bc_I_firstFault 50 = .ok (.istore_n 3, 1) := by decide +kernel
theorem dc_I_firstFault_9 : decode bc_I_firstFault 9 = .ok (.aload_n 0, 1) := by decide +kernel
theorem dc_I_firstFault_10 : decode bc_I_firstFault 10 = .ok (.getfield 9, 3) := by decide +kernel
theorem dc_I_firstFault_13 : decode bc_I_firstFault 13 = .ok (.iload_n 3, 1) := by decide +kernel
theorem dc_I_firstFault_14 : decode bc_I_firstFault 14 = .ok (.iconst 0, 1) := by decide +kernel
theorem dc_I_firstFault_15 : decode bc_I_firstFault 15 = .ok (.iastore, 1) := by decide +kernel
theorem dc_I_firstFault_16 : decode bc_I_firstFault 16 = .ok (.aload_n 0, 1) := by decide +kernel
theorem dc_I_firstFault_17 : decode bc_I_firstFault 17 = .ok (.getfield 21, 3) := by decide +kernel
theorem dc_I_firstFault_20 : decode bc_I_firstFault 20 = .ok (.iload_n 3, 1) := by decide +kernel
theorem dc_I_firstFault_21 : decode bc_I_firstFault 21 = .ok (.iconst 0, 1) := by decide +kernel
theorem dc_I_firstFault_22 : decode bc_I_firstFault 22 = .ok (.bastore, 1) := by decide +kernel
theorem dc_I_firstFault_23 : decode bc_I_firstFault 23 = .ok (.iinc 3 1, 3) := by decide +kernel
theorem dc_I_firstFault_26 : decode bc_I_firstFault 26 = .ok (.goto (-24), 3) := by decide +kernel
theorem dc_I_faultOfMaps_0 : decode bc_I_faultOfMaps 0 = .ok (.iconst 0, 1) := by decide +kernel
theorem dc_I_faultOfMaps_1 : decode bc_I_faultOfMaps 1 = .ok (.istore_n 3, 1) := by decide +kernel
theorem dc_I_faultOfMaps_2 : decode bc_I_faultOfMaps 2 = .ok (.iconst 0, 1) := by decide +kernel
theorem dc_I_faultOfMaps_3 : decode bc_I_faultOfMaps 3 = .ok (.istore 4, 2) := by decide +kernel
theorem dc_I_faultOfMaps_5 : decode bc_I_faultOfMaps 5 = .ok (.iload 4, 2) := by decide +kernel
theorem dc_I_faultOfMaps_7 : decode bc_I_faultOfMaps 7 = .ok (.bipush 8, 2) := by decide +kernel
theorem dc_I_faultOfMaps_9 : decode bc_I_faultOfMaps 9 = .ok (.if_icmp .ge 51, 3) := by decide +kernel
theorem dc_I_faultOfMaps_60 : decode bc_I_faultOfMaps 60 = .ok (.iload_n 3, 1) := by decide +kernel
theorem dc_I_faultOfMaps_61 : decode bc_I_faultOfMaps 61 = .ok (.aload_n 1, 1) := by decide +kernel
theorem dc_I_faultOfMaps_62 : decode bc_I_faultOfMaps 62 = .ok (.getfield 63, 3) := by decide +kernel
theorem dc_I_faultOfMaps_65 : decode bc_I_faultOfMaps 65 = .ok (.if_icmp .ne 14, 3) := by decide +kernel
theorem dc_I_faultOfMaps_79 : decode bc_I_faultOfMaps 79 = .ok (.sipush 1217, 3) := by decide +kernel
theorem dc_I_faultOfMaps_82 : decode bc_I_faultOfMaps 82 = .ok (.ireturn, 1) := by decide +kernel
theorem dc_I_faultOfMaps_68 : decode bc_I_faultOfMaps 68 = .ok (.iload_n 3, 1) := by decide +kernel
theorem dc_I_faultOfMaps_69 : decode bc_I_faultOfMaps 69 = .ok (.sipush 600, 3) := by decide +kernel
theorem dc_I_faultOfMaps_72 : decode bc_I_faultOfMaps 72 = .ok (.if_icmp .gt 7, 3) := by decide +kernel
theorem dc_I_faultOfMaps_75 : decode bc_I_faultOfMaps 75 = .ok (.iconst 0, 1) := by decide +kernel
theorem dc_I_faultOfMaps_76 : decode bc_I_faultOfMaps 76 = .ok (.goto 6, 3) := by decide +kernel
theorem dc_I_faultOfMaps_12 : decode bc_I_faultOfMaps 12 = .ok (.aload_n 0, 1) := by decide +kernel
theorem dc_I_faultOfMaps_13 : decode bc_I_faultOfMaps 13 = .ok (.aload_n 1, 1) := by decide +kernel
theorem dc_I_faultOfMaps_14 : decode bc_I_faultOfMaps 14 = .ok (.getfield 51, 3) := by decide +kernel
theorem dc_I_faultOfMaps_17 : decode bc_I_faultOfMaps 17 = .ok (.iload 4, 2) := by decide +kernel
theorem dc_I_faultOfMaps_19 : decode bc_I_faultOfMaps 19 = .ok (.iaload, 1) := by decide +kernel
theorem dc_I_faultOfMaps_20 : decode bc_I_faultOfMaps 20 = .ok (.aload_n 1, 1) := by decide +kernel
theorem dc_I_faultOfMaps_21 : decode bc_I_faultOfMaps 21 = .ok (.getfield 56, 3) := by decide +kernel
theorem dc_I_faultOfMaps_24 : decode bc_I_faultOfMaps 24 = .ok (.iload 4, 2) := by decide +kernel
theorem dc_I_faultOfMaps_26 : decode bc_I_faultOfMaps 26 = .ok (.iaload, 1) := by decide +kernel
theorem dc_I_faultOfMaps_27 : decode bc_I_faultOfMaps 27 = .ok (.iload_n 2, 1) := by decide +kernel
theorem dc_I_faultOfMaps_28 : decode bc_I_faultOfMaps 28 = .ok (.iload 4, 2) := by decide +kernel
theorem dc_I_faultOfMaps_30 : decode bc_I_faultOfMaps 30 = .ok (.iadd, 1) := by decide +kernel
theorem dc_I_faultOfMaps_31 : decode bc_I_faultOfMaps 31 = .ok (.invokevirtual 59, 3) := by decide +kernel
theorem dc_I_faultOfMaps_34 : decode bc_I_faultOfMaps 34 = .ok (.istore 5, 2) := by decide +kernel
theorem dc_I_faultOfMaps_36 : decode bc_I_faultOfMaps 36 = .ok (.iload 5, 2) := by decide +kernel
theorem dc_I_faultOfMaps_38 : decode bc_I_faultOfMaps 38 = .ok (.ifCond .eq 6, 3) := by decide +kernel
theorem dc_I_faultOfMaps_44 : decode bc_I_faultOfMaps 44 = .ok (.iload_n 3, 1) := by decide +kernel
theorem dc_I_faultOfMaps_45 : decode bc_I_faultOfMaps 45 = .ok (.aload_n 1, 1) := by decide +kernel
theorem dc_I_faultOfMaps_46 : decode bc_I_faultOfMaps 46 = .ok (.getfield 56, 3) := by decide +kernel
theorem dc_I_faultOfMaps_49 : decode bc_I_faultOfMaps 49 = .ok (.iload 4, 2) := by decide +kernel
theorem dc_I_faultOfMaps_51 : decode bc_I_faultOfMaps 51 = .ok (.iaload, 1) := by decide +kernel
theorem dc_I_faultOfMaps_52 : decode bc_I_faultOfMaps 52 = .ok (.iadd, 1) := by decide +kernel
theorem dc_I_faultOfMaps_53 : decode bc_I_faultOfMaps 53 = .ok (.istore_n 3, 1) := by decide +kernel
theorem dc_I_faultOfMaps_54 : decode bc_I_faultOfMaps 54 = .ok (.iinc 4 1, 3) := by decide +kernel
theorem dc_I_faultOfMaps_57 : decode bc_I_faultOfMaps 57 = .ok (.goto (-52), 3) := by decide +kernel
theorem dc_I_faultOfMaps_41 : decode bc_I_faultOfMaps 41 = .ok (.iload 5, 2) := by decide +kernel
theorem dc_I_faultOfMaps_43 : decode bc_I_faultOfMaps 43 = .ok (.ireturn, 1) := by decide +kernel
theorem dc_I_faultOfTree_0 : decode bc_I_faultOfTree 0 = .ok (.iload_n 1, 1) := by decide +kernel
theorem dc_I_faultOfTree_1 : decode bc_I_faultOfTree 1 = .ok (.ifCond .ne 13, 3) := by decide +kernel
theorem dc_I_faultOfTree_14 : decode bc_I_faultOfTree 14 = .ok (.aload_n 0, 1) := by decide +kernel
theorem dc_I_faultOfTree_15 : decode bc_I_faultOfTree 15 = .ok (.getfield 25, 3) := by decide +kernel
theorem dc_I_faultOfTree_18 : decode bc_I_faultOfTree 18 = .ok (.iload_n 1, 1) := by decide +kernel
theorem dc_I_faultOfTree_19 : decode bc_I_faultOfTree 19 = .ok (.invokevirtual 66, 3) := by decide +kernel
theorem dc_I_faultOfTree_22 : decode bc_I_faultOfTree 22 = .ok (.ifCond .ne 5, 3) := by decide +kernel
theorem dc_I_faultOfTree_27 : decode bc_I_faultOfTree 27 = .ok (.aload_n 0, 1) := by decide +kernel
theorem dc_I_faultOfTree_28 : decode bc_I_faultOfTree 28 = .ok (.getfield 25, 3) := by decide +kernel
theorem dc_I_faultOfTree_31 : decode bc_I_faultOfTree 31 = .ok (.iload_n 1, 1) := by decide +kernel
theorem dc_I_faultOfTree_32 : decode bc_I_faultOfTree 32 = .ok (.invokevirtual 72, 3) := by decide +kernel
theorem dc_I_faultOfTree_35 : decode bc_I_faultOfTree 35 = .ok (.istore 4, 2) := by decide +kernel
theorem dc_I_faultOfTree_37 : decode bc_I_faultOfTree 37 = .ok (.aload_n 0, 1) := by decide +kernel
theorem dc_I_faultOfTree_38 : decode bc_I_faultOfTree 38 = .ok (.getfield 25, 3) := by decide +kernel
theorem dc_I_faultOfTree_41 : decode bc_I_faultOfTree 41 = .ok (.iload_n 1, 1) := by decide +kernel
theorem dc_I_faultOfTree_42 : decode bc_I_faultOfTree 42 = .ok (.invokevirtual 75, 3) := by decide +kernel
theorem dc_I_faultOfTree_45 : decode bc_I_faultOfTree 45 = .ok (.iload 4, 2) := by decide +kernel
theorem dc_I_faultOfTree_47 : decode bc_I_faultOfTree 47 = .ok (.ifCond .ne 7, 3) := by decide +kernel
theorem dc_I_faultOfTree_54 : decode bc_I_faultOfTree 54 = .ok (.iconst 2, 1) := by decide +kernel
theorem dc_I_faultOfTree_55 : decode bc_I_faultOfTree 55 = .ok (.if_icmp .ge 5, 3) := by decide +kernel
theorem dc_I_faultOfTree_60 : decode bc_I_faultOfTree 60 = .ok (.aload_n 0, 1) := by decide +kernel
theorem dc_I_faultOfTree_61 : decode bc_I_faultOfTree 61 = .ok (.iload_n 1, 1) := by decide +kernel
theorem dc_I_faultOfTree_62 : decode bc_I_faultOfTree 62 = .ok (.iload 4, 2) := by decide +kernel
theorem dc_I_faultOfTree_64 : decode bc_I_faultOfTree 64 = .ok (.invokevirtual 78, 3) := by decide +kernel
theorem dc_I_faultOfTree_67 : decode bc_I_faultOfTree 67 = .ok (.istore 5, 2) := by decide +kernel
theorem dc_I_faultOfTree_69 : decode bc_I_faultOfTree 69 = .ok (.iload 5, 2) := by decide +kernel
theorem dc_I_faultOfTree_71 : decode bc_I_faultOfTree 71 = .ok (.ifCond .eq 6, 3) := by decide +kernel
theorem dc_I_faultOfTree_77 : decode bc_I_faultOfTree 77 = .ok (.aload_n 0, 1) := by decide +kernel
theorem dc_I_faultOfTree_78 : decode bc_I_faultOfTree 78 = .ok (.getfield 15, 3) := by decide +kernel
theorem dc_I_faultOfTree_81 : decode bc_I_faultOfTree 81 = .ok (.iload_n 1, 1) := by decide +kernel
theorem dc_I_faultOfTree_82 : decode bc_I_faultOfTree 82 = .ok (.iaload, 1) := by decide +kernel
theorem dc_I_faultOfTree_83 : decode bc_I_faultOfTree 83 = .ok (.iload_n 2, 1) := by decide +kernel
theorem dc_I_faultOfTree_84 : decode bc_I_faultOfTree 84 = .ok (.if_icmp .ne 7, 3) := by decide +kernel
theorem dc_I_faultOfTree_91 : decode bc_I_faultOfTree 91 = .ok (.iload_n 3, 1) := by decide +kernel
theorem dc_I_faultOfTree_92 : decode bc_I_faultOfTree 92 = .ok (.ireturn, 1) := by decide +kernel
theorem dc_I_faultOfTree_87 : decode bc_I_faultOfTree 87 = .ok (.iconst 0, 1) := by decide +kernel
theorem dc_I_faultOfTree_88 : decode bc_I_faultOfTree 88 = .ok (.goto 4, 3) := by decide +kernel
theorem dc_I_faultOfTree_74 : decode bc_I_faultOfTree 74 = .ok (.iload 5, 2) := by decide +kernel
theorem dc_I_faultOfTree_76 : decode bc_I_faultOfTree 76 = .ok (.ireturn, 1) := by decide +kernel
theorem dc_I_faultOfTree_58 : decode bc_I_faultOfTree 58 = .ok (.iload_n 1, 1) := by decide +kernel
theorem dc_I_faultOfTree_59 : decode bc_I_faultOfTree 59 = .ok (.ireturn, 1) := by decide +kernel
theorem dc_I_faultOfTree_50 : decode bc_I_faultOfTree 50 = .ok (.iconst 1, 1) := by decide +kernel
theorem dc_I_faultOfTree_51 : decode bc_I_faultOfTree 51 = .ok (.goto 4, 3) := by decide +kernel
theorem dc_I_faultOfTree_25 : decode bc_I_faultOfTree 25 = .ok (.iload_n 3, 1) := by decide +kernel
theorem dc_I_faultOfTree_26 : decode bc_I_faultOfTree 26 = .ok (.ireturn, 1) := by decide +kernel
theorem dc_I_faultOfTree_4 : decode bc_I_faultOfTree 4 = .ok (.iload_n 2, 1) := by decide +kernel
theorem dc_I_faultOfTree_5 : decode bc_I_faultOfTree 5 = .ok (.ifCond .ne 7, 3) := by decide +kernel
theorem dc_I_faultOfTree_12 : decode bc_I_faultOfTree 12 = .ok (.iload_n 3, 1) := by decide +kernel
theorem dc_I_faultOfTree_13 : decode bc_I_faultOfTree 13 = .ok (.ireturn, 1) := by decide +kernel
theorem dc_I_faultOfTree_8 : decode bc_I_faultOfTree 8 = .ok (.iconst 0, 1) := by decide +kernel
theorem dc_I_faultOfTree_9 : decode bc_I_faultOfTree 9 = .ok (.goto 4, 3) := by decide +kernel
theorem dc_I_faultBelow_0 : decode bc_I_faultBelow 0 = .ok (.iload_n 2, 1) := by decide +kernel
theorem dc_I_faultBelow_1 : decode bc_I_faultBelow 1 = .ok (.ifCond .lt 20, 3) := by decide +kernel
theorem dc_I_faultBelow_21 : decode bc_I_faultBelow 21 = .ok (.sipush 1219, 3) := by decide +kernel
theorem dc_I_faultBelow_24 : decode bc_I_faultBelow 24 = .ok (.ireturn, 1) := by decide +kernel
theorem dc_I_faultBelow_4 : decode bc_I_faultBelow 4 = .ok (.iload_n 2, 1) := by decide +kernel
theorem dc_I_faultBelow_5 : decode bc_I_faultBelow 5 = .ok (.bipush 16, 2) := by decide +kernel
theorem dc_I_faultBelow_7 : decode bc_I_faultBelow 7 = .ok (.if_icmp .gt 14, 3) := by decide +kernel
theorem dc_I_faultBelow_10 : decode bc_I_faultBelow 10 = .ok (.aload_n 0, 1) := by decide +kernel
theorem dc_I_faultBelow_11 : decode bc_I_faultBelow 11 = .ok (.getfield 25, 3) := by decide +kernel
theorem dc_I_faultBelow_14 : decode bc_I_faultBelow 14 = .ok (.iload_n 1, 1) := by decide +kernel
theorem dc_I_faultBelow_15 : decode bc_I_faultBelow 15 = .ok (.invokevirtual 66, 3) := by decide +kernel
theorem dc_I_faultBelow_18 : decode bc_I_faultBelow 18 = .ok (.ifCond .ne 7, 3) := by decide +kernel
theorem dc_I_faultBelow_25 : decode bc_I_faultBelow 25 = .ok (.aload_n 0, 1) := by decide +kernel
theorem dc_I_faultBelow_26 : decode bc_I_faultBelow 26 = .ok (.getfield 9, 3) := by decide +kernel
theorem dc_I_faultBelow_29 : decode bc_I_faultBelow 29 = .ok (.iload_n 1, 1) := by decide +kernel
theorem dc_I_faultBelow_30 : decode bc_I_faultBelow 30 = .ok (.dup2, 1) := by decide +kernel
theorem dc_I_faultBelow_31 : decode bc_I_faultBelow 31 = .ok (.iaload, 1) := by decide +kernel
theorem dc_I_faultBelow_32 : decode bc_I_faultBelow 32 = .ok (.iconst 1, 1) := by decide +kernel
theorem dc_I_faultBelow_33 : decode bc_I_faultBelow 33 = .ok (.iadd, 1) := by decide +kernel
theorem dc_I_faultBelow_34 : decode bc_I_faultBelow 34 = .ok (.iastore, 1) := by decide +kernel
theorem dc_I_faultBelow_35 : decode bc_I_faultBelow 35 = .ok (.aload_n 0, 1) := by decide +kernel
theorem dc_I_faultBelow_36 : decode bc_I_faultBelow 36 = .ok (.getfield 9, 3) := by decide +kernel
theorem dc_I_faultBelow_39 : decode bc_I_faultBelow 39 = .ok (.iload_n 1, 1) := by decide +kernel
theorem dc_I_faultBelow_40 : decode bc_I_faultBelow 40 = .ok (.iaload, 1) := by decide +kernel
theorem dc_I_faultBelow_41 : decode bc_I_faultBelow 41 = .ok (.iconst 1, 1) := by decide +kernel
theorem dc_I_faultBelow_42 : decode bc_I_faultBelow 42 = .ok (.if_icmp .le 5, 3) := by decide +kernel
theorem dc_I_faultBelow_47 : decode bc_I_faultBelow 47 = .ok (.aload_n 0, 1) := by decide +kernel
theorem dc_I_faultBelow_48 : decode bc_I_faultBelow 48 = .ok (.iload_n 1, 1) := by decide +kernel
theorem dc_I_faultBelow_49 : decode bc_I_faultBelow 49 = .ok (.invokevirtual 82, 3) := by decide +kernel
theorem dc_I_faultBelow_52 : decode bc_I_faultBelow 52 = .ok (.ifCond .ne 5, 3) := by decide +kernel
theorem dc_I_faultBelow_57 : decode bc_I_faultBelow 57 = .ok (.iload_n 2, 1) := by decide +kernel
theorem dc_I_faultBelow_58 : decode bc_I_faultBelow 58 = .ok (.ifCond .ne 11, 3) := by decide +kernel
theorem dc_I_faultBelow_69 : decode bc_I_faultBelow 69 = .ok (.aload_n 0, 1) := by decide +kernel
theorem dc_I_faultBelow_70 : decode bc_I_faultBelow 70 = .ok (.iload_n 1, 1) := by decide +kernel
theorem dc_I_faultBelow_71 : decode bc_I_faultBelow 71 = .ok (.iload_n 2, 1) := by decide +kernel
theorem dc_I_faultBelow_72 : decode bc_I_faultBelow 72 = .ok (.invokevirtual 88, 3) := by decide +kernel
theorem dc_I_faultBelow_75 : decode bc_I_faultBelow 75 = .ok (.ireturn, 1) := by decide +kernel
theorem dc_I_faultBelow_61 : decode bc_I_faultBelow 61 = .ok (.aload_n 0, 1) := by decide +kernel
theorem dc_I_faultBelow_62 : decode bc_I_faultBelow 62 = .ok (.iload_n 1, 1) := by decide +kernel
theorem dc_I_faultBelow_63 : decode bc_I_faultBelow 63 = .ok (.invokevirtual 85, 3) := by decide +kernel
theorem dc_I_faultBelow_66 : decode bc_I_faultBelow 66 = .ok (.goto 9, 3) := by decide +kernel
theorem dc_I_faultBelow_55 : decode bc_I_faultBelow 55 = .ok (.iload_n 1, 1) := by decide +kernel
theorem dc_I_faultBelow_56 : decode bc_I_faultBelow 56 = .ok (.ireturn, 1) := by decide +kernel
theorem dc_I_faultBelow_45 : decode bc_I_faultBelow 45 = .ok (.iconst 0, 1) := by decide +kernel
theorem dc_I_faultBelow_46 : decode bc_I_faultBelow 46 = .ok (.ireturn, 1) := by decide +kernel
theorem dc_I_hasOrder_0 : decode bc_I_hasOrder 0 = .ok (.aload_n 0, 1) := by decide +kernel
theorem dc_I_hasOrder_1 : decode bc_I_hasOrder 1 = .ok (.getfield 25, 3) := by decide +kernel
theorem dc_I_hasOrder_4 : decode bc_I_hasOrder 4 = .ok (.iload_n 1, 1) := by decide +kernel
theorem dc_I_hasOrder_5 : decode bc_I_hasOrder 5 = .ok (.invokevirtual 75, 3) := by decide +kernel
theorem dc_I_hasOrder_8 : decode bc_I_hasOrder 8 = .ok (.istore_n 2, 1) := by decide +kernel
theorem dc_I_hasOrder_9 : decode bc_I_hasOrder 9 = .ok (.iload_n 2, 1) := by decide +kernel
theorem dc_I_hasOrder_10 : decode bc_I_hasOrder 10 = .ok (.iconst 1, 1) := by decide +kernel
theorem dc_I_hasOrder_11 : decode bc_I_hasOrder 11 = .ok (.if_icmp .lt 11, 3) := by decide +kernel
theorem dc_I_hasOrder_22 : decode bc_I_hasOrder 22 = .ok (.iconst 0, 1) := by decide +kernel
theorem dc_I_hasOrder_23 : decode bc_I_hasOrder 23 = .ok (.ireturn, 1) := by decide +kernel
theorem dc_I_hasOrder_14 : decode bc_I_hasOrder 14 = .ok (.iload_n 2, 1) := by decide +kernel
theorem dc_I_hasOrder_15 : decode bc_I_hasOrder 15 = .ok (.aload_n 0, 1) := by decide +kernel
theorem dc_I_hasOrder_16 : decode bc_I_hasOrder 16 = .ok (.getfield 29, 3) := by decide +kernel
theorem dc_I_hasOrder_19 : decode bc_I_hasOrder 19 = .ok (.if_icmp .le 5, 3) := by decide +kernel
theorem dc_I_hasOrder_24 : decode bc_I_hasOrder 24 = .ok (.iconst 1, 1) := by decide +kernel
theorem dc_I_hasOrder_25 : decode bc_I_hasOrder 25 = .ok (.istore_n 3, 1) := by decide +kernel
theorem dc_I_hasOrder_26 : decode bc_I_hasOrder 26 = .ok (.iload_n 3, 1) := by decide +kernel
theorem dc_I_hasOrder_27 : decode bc_I_hasOrder 27 = .ok (.iload_n 2, 1) := by decide +kernel
theorem dc_I_hasOrder_28 : decode bc_I_hasOrder 28 = .ok (.if_icmp .ge 34, 3) := by decide +kernel
theorem dc_I_hasOrder_62 : decode bc_I_hasOrder 62 = .ok (.aload_n 0, 1) := by decide +kernel
theorem dc_I_hasOrder_63 : decode bc_I_hasOrder 63 = .ok (.getfield 25, 3) := by decide +kernel
theorem dc_I_hasOrder_66 : decode bc_I_hasOrder 66 = .ok (.iload_n 1, 1) := by decide +kernel
theorem dc_I_hasOrder_67 : decode bc_I_hasOrder 67 = .ok (.iconst 0, 1) := by decide +kernel
theorem dc_I_hasOrder_68 : decode bc_I_hasOrder 68 = .ok (.invokevirtual 91, 3) := by decide +kernel
theorem dc_I_hasOrder_71 : decode bc_I_hasOrder 71 = .ok (.invokestatic 94, 3) := by decide +kernel
theorem dc_I_hasOrder_74 : decode bc_I_hasOrder 74 = .ok (.ifCond .eq 24, 3) := by decide +kernel
theorem dc_I_hasOrder_98 : decode bc_I_hasOrder 98 = .ok (.iconst 0, 1) := by decide +kernel
theorem dc_I_hasOrder_99 : decode bc_I_hasOrder 99 = .ok (.ireturn, 1) := by decide +kernel
theorem dc_I_hasOrder_77 : decode bc_I_hasOrder 77 = .ok (.aload_n 0, 1) := by decide +kernel
theorem dc_I_hasOrder_78 : decode bc_I_hasOrder 78 = .ok (.getfield 25, 3) := by decide +kernel
theorem dc_I_hasOrder_81 : decode bc_I_hasOrder 81 = .ok (.iload_n 1, 1) := by decide +kernel
theorem dc_I_hasOrder_82 : decode bc_I_hasOrder 82 = .ok (.iload_n 2, 1) := by decide +kernel
theorem dc_I_hasOrder_83 : decode bc_I_hasOrder 83 = .ok (.iconst 1, 1) := by decide +kernel
theorem dc_I_hasOrder_84 : decode bc_I_hasOrder 84 = .ok (.isub, 1) := by decide +kernel
theorem dc_I_hasOrder_85 : decode bc_I_hasOrder 85 = .ok (.invokevirtual 91, 3) := by decide +kernel
theorem dc_I_hasOrder_88 : decode bc_I_hasOrder 88 = .ok (.invokestatic 94, 3) := by decide +kernel
theorem dc_I_hasOrder_91 : decode bc_I_hasOrder 91 = .ok (.ifCond .eq 7, 3) := by decide +kernel
theorem dc_I_hasOrder_94 : decode bc_I_hasOrder 94 = .ok (.iconst 1, 1) := by decide +kernel
theorem dc_I_hasOrder_95 : decode bc_I_hasOrder 95 = .ok (.goto 4, 3) := by decide +kernel
theorem dc_I_hasOrder_31 : decode bc_I_hasOrder 31 = .ok (.aload_n 0, 1) := by decide +kernel
theorem dc_I_hasOrder_32 : decode bc_I_hasOrder 32 = .ok (.getfield 25, 3) := by decide +kernel
theorem dc_I_hasOrder_35 : decode bc_I_hasOrder 35 = .ok (.iload_n 1, 1) := by decide +kernel
theorem dc_I_hasOrder_36 : decode bc_I_hasOrder 36 = .ok (.iload_n 3, 1) := by decide +kernel
theorem dc_I_hasOrder_37 : decode bc_I_hasOrder 37 = .ok (.iconst 1, 1) := by decide +kernel
theorem dc_I_hasOrder_38 : decode bc_I_hasOrder 38 = .ok (.isub, 1) := by decide +kernel
theorem dc_I_hasOrder_39 : decode bc_I_hasOrder 39 = .ok (.invokevirtual 91, 3) := by decide +kernel
theorem dc_I_hasOrder_42 : decode bc_I_hasOrder 42 = .ok (.aload_n 0, 1) := by decide +kernel
theorem dc_I_hasOrder_43 : decode bc_I_hasOrder 43 = .ok (.getfield 25, 3) := by decide +kernel
theorem dc_I_hasOrder_46 : decode bc_I_hasOrder 46 = .ok (.iload_n 1, 1) := by decide +kernel
theorem dc_I_hasOrder_47 : decode bc_I_hasOrder 47 = .ok (.iload_n 3, 1) := by decide +kernel
theorem dc_I_hasOrder_48 : decode bc_I_hasOrder 48 = .ok (.invokevirtual 91, 3) := by decide +kernel
theorem dc_I_hasOrder_51 : decode bc_I_hasOrder 51 = .ok (.if_icmp .lt 5, 3) := by decide +kernel
theorem dc_I_hasOrder_56 : decode bc_I_hasOrder 56 = .ok (.iinc 3 1, 3) := by decide +kernel
theorem dc_I_hasOrder_59 : decode bc_I_hasOrder 59 = .ok (.goto (-33), 3) := by decide +kernel
theorem dc_I_hasOrder_54 : decode bc_I_hasOrder 54 = .ok (.iconst 0, 1) := by decide +kernel
theorem dc_I_hasOrder_55 : decode bc_I_hasOrder 55 = .ok (.ireturn, 1) := by decide +kernel
theorem dc_I_faultOfNode_0 : decode bc_I_faultOfNode 0 = .ok (.aload_n 0, 1) := by decide +kernel
theorem dc_I_faultOfNode_1 : decode bc_I_faultOfNode 1 = .ok (.getfield 25, 3) := by decide +kernel
theorem dc_I_faultOfNode_4 : decode bc_I_faultOfNode 4 = .ok (.iload_n 1, 1) := by decide +kernel
theorem dc_I_faultOfNode_5 : decode bc_I_faultOfNode 5 = .ok (.invokevirtual 75, 3) := by decide +kernel
theorem dc_I_faultOfNode_8 : decode bc_I_faultOfNode 8 = .ok (.istore_n 3, 1) := by decide +kernel
theorem dc_I_faultOfNode_9 : decode bc_I_faultOfNode 9 = .ok (.iconst 0, 1) := by decide +kernel
theorem dc_I_faultOfNode_10 : decode bc_I_faultOfNode 10 = .ok (.istore 4, 2) := by decide +kernel
theorem dc_I_faultOfNode_12 : decode bc_I_faultOfNode 12 = .ok (.bipush (-2), 2) := by decide +kernel
theorem dc_I_faultOfNode_14 : decode bc_I_faultOfNode 14 = .ok (.istore 5, 2) := by decide +kernel
theorem dc_I_faultOfNode_16 : decode bc_I_faultOfNode 16 = .ok (.iconst 0, 1) := by decide +kernel
theorem dc_I_faultOfNode_17 : decode bc_I_faultOfNode 17 = .ok (.istore 6, 2) := by decide +kernel
theorem dc_I_faultOfNode_19 : decode bc_I_faultOfNode 19 = .ok (.iload 6, 2) := by decide +kernel
theorem dc_I_faultOfNode_21 : decode bc_I_faultOfNode 21 = .ok (.iload_n 3, 1) := by decide +kernel
theorem dc_I_faultOfNode_22 : decode bc_I_faultOfNode 22 = .ok (.if_icmp .ge 145, 3) := by decide +kernel
theorem dc_I_faultOfNode_167 : decode bc_I_faultOfNode 167 = .ok (.aload_n 0, 1) := by decide +kernel
theorem dc_I_faultOfNode_168 : decode bc_I_faultOfNode 168 = .ok (.getfield 15, 3) := by decide +kernel
theorem dc_I_faultOfNode_171 : decode bc_I_faultOfNode 171 = .ok (.iload_n 1, 1) := by decide +kernel
theorem dc_I_faultOfNode_172 : decode bc_I_faultOfNode 172 = .ok (.iload 4, 2) := by decide +kernel
theorem dc_I_faultOfNode_174 : decode bc_I_faultOfNode 174 = .ok (.iastore, 1) := by decide +kernel
theorem dc_I_faultOfNode_175 : decode bc_I_faultOfNode 175 = .ok (.aload_n 0, 1) := by decide +kernel
theorem dc_I_faultOfNode_176 : decode bc_I_faultOfNode 176 = .ok (.getfield 18, 3) := by decide +kernel
theorem dc_I_faultOfNode_179 : decode bc_I_faultOfNode 179 = .ok (.iload_n 1, 1) := by decide +kernel
theorem dc_I_faultOfNode_180 : decode bc_I_faultOfNode 180 = .ok (.iload 5, 2) := by decide +kernel
theorem dc_I_faultOfNode_182 : decode bc_I_faultOfNode 182 = .ok (.iastore, 1) := by decide +kernel
theorem dc_I_faultOfNode_183 : decode bc_I_faultOfNode 183 = .ok (.iconst 0, 1) := by decide +kernel
theorem dc_I_faultOfNode_184 : decode bc_I_faultOfNode 184 = .ok (.ireturn, 1) := by decide +kernel
theorem dc_I_faultOfNode_25 : decode bc_I_faultOfNode 25 = .ok (.aload_n 0, 1) := by decide +kernel
theorem dc_I_faultOfNode_26 : decode bc_I_faultOfNode 26 = .ok (.getfield 25, 3) := by decide +kernel
theorem dc_I_faultOfNode_29 : decode bc_I_faultOfNode 29 = .ok (.iload_n 1, 1) := by decide +kernel
theorem dc_I_faultOfNode_30 : decode bc_I_faultOfNode 30 = .ok (.iload 6, 2) := by decide +kernel
theorem dc_I_faultOfNode_32 : decode bc_I_faultOfNode 32 = .ok (.invokevirtual 97, 3) := by decide +kernel
theorem dc_I_faultOfNode_35 : decode bc_I_faultOfNode 35 = .ok (.istore 7, 2) := by decide +kernel
theorem dc_I_faultOfNode_37 : decode bc_I_faultOfNode 37 = .ok (.aload_n 0, 1) := by decide +kernel
theorem dc_I_faultOfNode_38 : decode bc_I_faultOfNode 38 = .ok (.getfield 25, 3) := by decide +kernel
theorem dc_I_faultOfNode_41 : decode bc_I_faultOfNode 41 = .ok (.iload 7, 2) := by decide +kernel
theorem dc_I_faultOfNode_43 : decode bc_I_faultOfNode 43 = .ok (.invokevirtual 66, 3) := by decide +kernel
theorem dc_I_faultOfNode_46 : decode bc_I_faultOfNode 46 = .ok (.ifCond .eq 18, 3) := by decide +kernel
theorem dc_I_faultOfNode_64 : decode bc_I_faultOfNode 64 = .ok (.iload_n 1, 1) := by decide +kernel
theorem dc_I_faultOfNode_65 : decode bc_I_faultOfNode 65 = .ok (.ireturn, 1) := by decide +kernel
theorem dc_I_faultOfNode_49 : decode bc_I_faultOfNode 49 = .ok (.aload_n 0, 1) := by decide +kernel
theorem dc_I_faultOfNode_50 : decode bc_I_faultOfNode 50 = .ok (.getfield 25, 3) := by decide +kernel
theorem dc_I_faultOfNode_53 : decode bc_I_faultOfNode 53 = .ok (.iload 7, 2) := by decide +kernel
theorem dc_I_faultOfNode_55 : decode bc_I_faultOfNode 55 = .ok (.invokevirtual 72, 3) := by decide +kernel
theorem dc_I_faultOfNode_58 : decode bc_I_faultOfNode 58 = .ok (.iload_n 2, 1) := by decide +kernel
theorem dc_I_faultOfNode_59 : decode bc_I_faultOfNode 59 = .ok (.iconst 1, 1) := by decide +kernel
theorem dc_I_faultOfNode_60 : decode bc_I_faultOfNode 60 = .ok (.isub, 1) := by decide +kernel
theorem dc_I_faultOfNode_61 : decode bc_I_faultOfNode 61 = .ok (.if_icmp .eq 5, 3) := by decide +kernel
theorem dc_I_faultOfNode_66 : decode bc_I_faultOfNode 66 = .ok (.aload_n 0, 1) := by decide +kernel
theorem dc_I_faultOfNode_67 : decode bc_I_faultOfNode 67 = .ok (.getfield 25, 3) := by decide +kernel
theorem dc_I_faultOfNode_70 : decode bc_I_faultOfNode 70 = .ok (.iload 7, 2) := by decide +kernel
theorem dc_I_faultOfNode_72 : decode bc_I_faultOfNode 72 = .ok (.invokevirtual 75, 3) := by decide +kernel
theorem dc_I_faultOfNode_75 : decode bc_I_faultOfNode 75 = .ok (.aload_n 0, 1) := by decide +kernel
theorem dc_I_faultOfNode_76 : decode bc_I_faultOfNode 76 = .ok (.getfield 37, 3) := by decide +kernel
theorem dc_I_faultOfNode_79 : decode bc_I_faultOfNode 79 = .ok (.if_icmp .ge 6, 3) := by decide +kernel
theorem dc_I_faultOfNode_85 : decode bc_I_faultOfNode 85 = .ok (.aload_n 0, 1) := by decide +kernel
theorem dc_I_faultOfNode_86 : decode bc_I_faultOfNode 86 = .ok (.iload 7, 2) := by decide +kernel
theorem dc_I_faultOfNode_88 : decode bc_I_faultOfNode 88 = .ok (.iload_n 2, 1) := by decide +kernel
theorem dc_I_faultOfNode_89 : decode bc_I_faultOfNode 89 = .ok (.iconst 1, 1) := by decide +kernel
theorem dc_I_faultOfNode_90 : decode bc_I_faultOfNode 90 = .ok (.isub, 1) := by decide +kernel
theorem dc_I_faultOfNode_91 : decode bc_I_faultOfNode 91 = .ok (.invokevirtual 78, 3) := by decide +kernel
theorem dc_I_faultOfNode_94 : decode bc_I_faultOfNode 94 = .ok (.istore 8, 2) := by decide +kernel
theorem dc_I_faultOfNode_96 : decode bc_I_faultOfNode 96 = .ok (.iload 8, 2) := by decide +kernel
theorem dc_I_faultOfNode_98 : decode bc_I_faultOfNode 98 = .ok (.ifCond .eq 6, 3) := by decide +kernel
theorem dc_I_faultOfNode_104 : decode bc_I_faultOfNode 104 = .ok (.aload_n 0, 1) := by decide +kernel
theorem dc_I_faultOfNode_105 : decode bc_I_faultOfNode 105 = .ok (.getfield 25, 3) := by decide +kernel
theorem dc_I_faultOfNode_108 : decode bc_I_faultOfNode 108 = .ok (.iload_n 1, 1) := by decide +kernel
theorem dc_I_faultOfNode_109 : decode bc_I_faultOfNode 109 = .ok (.iload 6, 2) := by decide +kernel
theorem dc_I_faultOfNode_111 : decode bc_I_faultOfNode 111 = .ok (.invokevirtual 91, 3) := by decide +kernel
theorem dc_I_faultOfNode_114 : decode bc_I_faultOfNode 114 = .ok (.istore 9, 2) := by decide +kernel
theorem dc_I_faultOfNode_116 : decode bc_I_faultOfNode 116 = .ok (.iload 9, 2) := by decide +kernel
theorem dc_I_faultOfNode_118 : decode bc_I_faultOfNode 118 = .ok (.aload_n 0, 1) := by decide +kernel
theorem dc_I_faultOfNode_119 : decode bc_I_faultOfNode 119 = .ok (.getfield 25, 3) := by decide +kernel
theorem dc_I_faultOfNode_122 : decode bc_I_faultOfNode 122 = .ok (.iload 7, 2) := by decide +kernel
theorem dc_I_faultOfNode_124 : decode bc_I_faultOfNode 124 = .ok (.iconst 0, 1) := by decide +kernel
theorem dc_I_faultOfNode_125 : decode bc_I_faultOfNode 125 = .ok (.invokevirtual 91, 3) := by decide +kernel
theorem dc_I_faultOfNode_128 : decode bc_I_faultOfNode 128 = .ok (.if_icmp .ne 10, 3) := by decide +kernel
theorem dc_I_faultOfNode_138 : decode bc_I_faultOfNode 138 = .ok (.iload_n 1, 1) := by decide +kernel
theorem dc_I_faultOfNode_139 : decode bc_I_faultOfNode 139 = .ok (.ireturn, 1) := by decide +kernel
theorem dc_I_faultOfNode_131 : decode bc_I_faultOfNode 131 = .ok (.iload 9, 2) := by decide +kernel
theorem dc_I_faultOfNode_133 : decode bc_I_faultOfNode 133 = .ok (.iload 5, 2) := by decide +kernel
theorem dc_I_faultOfNode_135 : decode bc_I_faultOfNode 135 = .ok (.if_icmp .gt 5, 3) := by decide +kernel
theorem dc_I_faultOfNode_140 : decode bc_I_faultOfNode 140 = .ok (.aload_n 0, 1) := by decide +kernel
theorem dc_I_faultOfNode_141 : decode bc_I_faultOfNode 141 = .ok (.getfield 18, 3) := by decide +kernel
theorem dc_I_faultOfNode_144 : decode bc_I_faultOfNode 144 = .ok (.iload 7, 2) := by decide +kernel
theorem dc_I_faultOfNode_146 : decode bc_I_faultOfNode 146 = .ok (.iaload, 1) := by decide +kernel
theorem dc_I_faultOfNode_147 : decode bc_I_faultOfNode 147 = .ok (.istore 5, 2) := by decide +kernel
theorem dc_I_faultOfNode_149 : decode bc_I_faultOfNode 149 = .ok (.iload 4, 2) := by decide +kernel
theorem dc_I_faultOfNode_151 : decode bc_I_faultOfNode 151 = .ok (.aload_n 0, 1) := by decide +kernel
theorem dc_I_faultOfNode_152 : decode bc_I_faultOfNode 152 = .ok (.getfield 15, 3) := by decide +kernel
theorem dc_I_faultOfNode_155 : decode bc_I_faultOfNode 155 = .ok (.iload 7, 2) := by decide +kernel
theorem dc_I_faultOfNode_157 : decode bc_I_faultOfNode 157 = .ok (.iaload, 1) := by decide +kernel
theorem dc_I_faultOfNode_158 : decode bc_I_faultOfNode 158 = .ok (.iadd, 1) := by decide +kernel
theorem dc_I_faultOfNode_159 : decode bc_I_faultOfNode 159 = .ok (.istore 4, 2) := by decide +kernel
theorem dc_I_faultOfNode_161 : decode bc_I_faultOfNode 161 = .ok (.iinc 6 1, 3) := by decide +kernel
theorem dc_I_faultOfNode_164 : decode bc_I_faultOfNode 164 = .ok (.goto (-145), 3) := by decide +kernel
theorem dc_I_faultOfNode_101 : decode bc_I_faultOfNode 101 = .ok (.iload 8, 2) := by decide +kernel
theorem dc_I_faultOfNode_103 : decode bc_I_faultOfNode 103 = .ok (.ireturn, 1) := by decide +kernel
theorem dc_I_faultOfNode_82 : decode bc_I_faultOfNode 82 = .ok (.iload 7, 2) := by decide +kernel
theorem dc_I_faultOfNode_84 : decode bc_I_faultOfNode 84 = .ok (.ireturn, 1) := by decide +kernel
theorem dc_I_faultOfLeaf_0 : decode bc_I_faultOfLeaf 0 = .ok (.aload_n 0, 1) := by decide +kernel
theorem dc_I_faultOfLeaf_1 : decode bc_I_faultOfLeaf 1 = .ok (.getfield 25, 3) := by decide +kernel
theorem dc_I_faultOfLeaf_4 : decode bc_I_faultOfLeaf 4 = .ok (.iload_n 1, 1) := by decide +kernel
theorem dc_I_faultOfLeaf_5 : decode bc_I_faultOfLeaf 5 = .ok (.invokevirtual 75, 3) := by decide +kernel
theorem dc_I_faultOfLeaf_8 : decode bc_I_faultOfLeaf 8 = .ok (.istore_n 2, 1) := by decide +kernel
theorem dc_I_faultOfLeaf_9 : decode bc_I_faultOfLeaf 9 = .ok (.iconst 0, 1) := by decide +kernel
theorem dc_I_faultOfLeaf_10 : decode bc_I_faultOfLeaf 10 = .ok (.istore_n 3, 1) := by decide +kernel
theorem dc_I_faultOfLeaf_11 : decode bc_I_faultOfLeaf 11 = .ok (.iload_n 3, 1) := by decide +kernel
theorem dc_I_faultOfLeaf_12 : decode bc_I_faultOfLeaf 12 = .ok (.iload_n 2, 1) := by decide +kernel
theorem dc_I_faultOfLeaf_13 : decode bc_I_faultOfLeaf 13 = .ok (.if_icmp .ge 26, 3) := by decide +kernel
theorem dc_I_faultOfLeaf_39 : decode bc_I_faultOfLeaf 39 = .ok (.aload_n 0, 1) := by decide +kernel
theorem dc_I_faultOfLeaf_40 : decode bc_I_faultOfLeaf 40 = .ok (.getfield 15, 3) := by decide +kernel
theorem dc_I_faultOfLeaf_43 : decode bc_I_faultOfLeaf 43 = .ok (.iload_n 1, 1) := by decide +kernel
theorem dc_I_faultOfLeaf_44 : decode bc_I_faultOfLeaf 44 = .ok (.iload_n 2, 1) := by decide +kernel
theorem dc_I_faultOfLeaf_45 : decode bc_I_faultOfLeaf 45 = .ok (.iastore, 1) := by decide +kernel
theorem dc_I_faultOfLeaf_46 : decode bc_I_faultOfLeaf 46 = .ok (.aload_n 0, 1) := by decide +kernel
theorem dc_I_faultOfLeaf_47 : decode bc_I_faultOfLeaf 47 = .ok (.getfield 18, 3) := by decide +kernel
theorem dc_I_faultOfLeaf_50 : decode bc_I_faultOfLeaf 50 = .ok (.iload_n 1, 1) := by decide +kernel
theorem dc_I_faultOfLeaf_51 : decode bc_I_faultOfLeaf 51 = .ok (.aload_n 0, 1) := by decide +kernel
theorem dc_I_faultOfLeaf_52 : decode bc_I_faultOfLeaf 52 = .ok (.getfield 25, 3) := by decide +kernel
theorem dc_I_faultOfLeaf_55 : decode bc_I_faultOfLeaf 55 = .ok (.iload_n 1, 1) := by decide +kernel
theorem dc_I_faultOfLeaf_56 : decode bc_I_faultOfLeaf 56 = .ok (.iload_n 2, 1) := by decide +kernel
theorem dc_I_faultOfLeaf_57 : decode bc_I_faultOfLeaf 57 = .ok (.iconst 1, 1) := by decide +kernel
theorem dc_I_faultOfLeaf_58 : decode bc_I_faultOfLeaf 58 = .ok (.isub, 1) := by decide +kernel
theorem dc_I_faultOfLeaf_59 : decode bc_I_faultOfLeaf 59 = .ok (.invokevirtual 91, 3) := by decide +kernel
theorem dc_I_faultOfLeaf_62 : decode bc_I_faultOfLeaf 62 = .ok (.iastore, 1) := by decide +kernel
theorem dc_I_faultOfLeaf_63 : decode bc_I_faultOfLeaf 63 = .ok (.iconst 0, 1) := by decide +kernel
theorem dc_I_faultOfLeaf_64 : decode bc_I_faultOfLeaf 64 = .ok (.ireturn, 1) := by decide +kernel
theorem dc_I_faultOfLeaf_16 : decode bc_I_faultOfLeaf 16 = .ok (.aload_n 0, 1) := by decide +kernel
theorem dc_I_faultOfLeaf_17 : decode bc_I_faultOfLeaf 17 = .ok (.getfield 25, 3) := by decide +kernel
theorem dc_I_faultOfLeaf_20 : decode bc_I_faultOfLeaf 20 = .ok (.iload_n 1, 1) := by decide +kernel
theorem dc_I_faultOfLeaf_21 : decode bc_I_faultOfLeaf 21 = .ok (.iload_n 3, 1) := by decide +kernel
theorem dc_I_faultOfLeaf_22 : decode bc_I_faultOfLeaf 22 = .ok (.invokevirtual 97, 3) := by decide +kernel
theorem dc_I_faultOfLeaf_25 : decode bc_I_faultOfLeaf 25 = .ok (.invokestatic 100, 3) := by decide +kernel
theorem dc_I_faultOfLeaf_28 : decode bc_I_faultOfLeaf 28 = .ok (.ifCond .ne 5, 3) := by decide +kernel
theorem dc_I_faultOfLeaf_33 : decode bc_I_faultOfLeaf 33 = .ok (.iinc 3 1, 3) := by decide +kernel
theorem dc_I_faultOfLeaf_36 : decode bc_I_faultOfLeaf 36 = .ok (.goto (-25), 3) := by decide +kernel
theorem dc_I_faultOfLeaf_31 : decode bc_I_faultOfLeaf 31 = .ok (.iload_n 1, 1) := by decide +kernel
theorem dc_I_faultOfLeaf_32 : decode bc_I_faultOfLeaf 32 = .ok (.ireturn, 1) := by decide +kernel
theorem dc_I_faultOfWays_0 : decode bc_I_faultOfWays 0 = .ok (.iconst 1, 1) := by decide +kernel
theorem dc_I_faultOfWays_1 : decode bc_I_faultOfWays 1 = .ok (.istore_n 1, 1) := by decide +kernel
theorem dc_I_faultOfWays_2 : decode bc_I_faultOfWays 2 = .ok (.iload_n 1, 1) := by decide +kernel
theorem dc_I_faultOfWays_3 : decode bc_I_faultOfWays 3 = .ok (.sipush 1200, 3) := by decide +kernel
theorem dc_I_faultOfWays_6 : decode bc_I_faultOfWays 6 = .ok (.if_icmp .gt 53, 3) := by decide +kernel
theorem dc_I_faultOfWays_59 : decode bc_I_faultOfWays 59 = .ok (.iconst 0, 1) := by decide +kernel
theorem dc_I_faultOfWays_60 : decode bc_I_faultOfWays 60 = .ok (.ireturn, 1) := by decide +kernel
theorem dc_I_faultOfWays_9 : decode bc_I_faultOfWays 9 = .ok (.aload_n 0, 1) := by decide +kernel
theorem dc_I_faultOfWays_10 : decode bc_I_faultOfWays 10 = .ok (.getfield 9, 3) := by decide +kernel
theorem dc_I_faultOfWays_13 : decode bc_I_faultOfWays 13 = .ok (.iload_n 1, 1) := by decide +kernel
theorem dc_I_faultOfWays_14 : decode bc_I_faultOfWays 14 = .ok (.iaload, 1) := by decide +kernel
theorem dc_I_faultOfWays_15 : decode bc_I_faultOfWays 15 = .ok (.ifCond .ne 7, 3) := by decide +kernel
theorem dc_I_faultOfWays_22 : decode bc_I_faultOfWays 22 = .ok (.iconst 0, 1) := by decide +kernel
theorem dc_I_faultOfWays_23 : decode bc_I_faultOfWays 23 = .ok (.istore_n 2, 1) := by decide +kernel
theorem dc_I_faultOfWays_24 : decode bc_I_faultOfWays 24 = .ok (.aload_n 0, 1) := by decide +kernel
theorem dc_I_faultOfWays_25 : decode bc_I_faultOfWays 25 = .ok (.getfield 25, 3) := by decide +kernel
theorem dc_I_faultOfWays_28 : decode bc_I_faultOfWays 28 = .ok (.iload_n 1, 1) := by decide +kernel
theorem dc_I_faultOfWays_29 : decode bc_I_faultOfWays 29 = .ok (.invokevirtual 109, 3) := by decide +kernel
theorem dc_I_faultOfWays_32 : decode bc_I_faultOfWays 32 = .ok (.aload_n 0, 1) := by decide +kernel
theorem dc_I_faultOfWays_33 : decode bc_I_faultOfWays 33 = .ok (.getfield 9, 3) := by decide +kernel
theorem dc_I_faultOfWays_36 : decode bc_I_faultOfWays 36 = .ok (.iload_n 1, 1) := by decide +kernel
theorem dc_I_faultOfWays_37 : decode bc_I_faultOfWays 37 = .ok (.iaload, 1) := by decide +kernel
theorem dc_I_faultOfWays_38 : decode bc_I_faultOfWays 38 = .ok (.if_icmp .ne 13, 3) := by decide +kernel
theorem dc_I_faultOfWays_51 : decode bc_I_faultOfWays 51 = .ok (.iload_n 1, 1) := by decide +kernel
theorem dc_I_faultOfWays_52 : decode bc_I_faultOfWays 52 = .ok (.ireturn, 1) := by decide +kernel
