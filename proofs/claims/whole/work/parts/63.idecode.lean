-- decode rows of the constructors and of the law
theorem dc_S_init_0 : decode bc_S_init 0 = .ok (.aload_n 0, 1) := by decide +kernel
theorem dc_S_init_1 : decode bc_S_init 1 = .ok (.invokespecial 3, 3) := by decide +kernel
theorem dc_S_init_4 : decode bc_S_init 4 = .ok (.iconst 4, 1) := by decide +kernel
theorem dc_S_init_5 : decode bc_S_init 5 = .ok (.bipush 31, 2) := by decide +kernel
theorem dc_S_init_7 : decode bc_S_init 7 = .ok (.iload_n 1, 1) := by decide +kernel
theorem dc_S_init_8 : decode bc_S_init 8 = .ok (.invokestatic 9, 3) := by decide +kernel
theorem dc_S_init_11 : decode bc_S_init 11 = .ok (.invokestatic 15, 3) := by decide +kernel
theorem dc_S_init_14 : decode bc_S_init 14 = .ok (.istore_n 2, 1) := by decide +kernel
theorem dc_S_init_15 : decode bc_S_init 15 = .ok (.aload_n 0, 1) := by decide +kernel
theorem dc_S_init_16 : decode bc_S_init 16 = .ok (.new 18, 3) := by decide +kernel
theorem dc_S_init_19 : decode bc_S_init 19 = .ok (.dup, 1) := by decide +kernel
theorem dc_S_init_20 : decode bc_S_init 20 = .ok (.iload_n 2, 1) := by decide +kernel
theorem dc_S_init_21 : decode bc_S_init 21 = .ok (.invokespecial 20, 3) := by decide +kernel
theorem dc_S_init_24 : decode bc_S_init 24 = .ok (.putfield 23, 3) := by decide +kernel
theorem dc_S_init_27 : decode bc_S_init 27 = .ok (.aload_n 0, 1) := by decide +kernel
theorem dc_S_init_28 : decode bc_S_init 28 = .ok (.new 27, 3) := by decide +kernel
theorem dc_S_init_31 : decode bc_S_init 31 = .ok (.dup, 1) := by decide +kernel
theorem dc_S_init_32 : decode bc_S_init 32 = .ok (.aload_n 0, 1) := by decide +kernel
theorem dc_S_init_33 : decode bc_S_init 33 = .ok (.getfield 23, 3) := by decide +kernel
theorem dc_S_init_36 : decode bc_S_init 36 = .ok (.iload_n 2, 1) := by decide +kernel
theorem dc_S_init_37 : decode bc_S_init 37 = .ok (.invokespecial 29, 3) := by decide +kernel
theorem dc_S_init_40 : decode bc_S_init 40 = .ok (.putfield 32, 3) := by decide +kernel
theorem dc_S_init_43 : decode bc_S_init 43 = .ok (.aload_n 0, 1) := by decide +kernel
theorem dc_S_init_44 : decode bc_S_init 44 = .ok (.new 36, 3) := by decide +kernel
theorem dc_S_init_47 : decode bc_S_init 47 = .ok (.dup, 1) := by decide +kernel
theorem dc_S_init_48 : decode bc_S_init 48 = .ok (.aload_n 0, 1) := by decide +kernel
theorem dc_S_init_49 : decode bc_S_init 49 = .ok (.getfield 23, 3) := by decide +kernel
theorem dc_S_init_52 : decode bc_S_init 52 = .ok (.iload_n 2, 1) := by decide +kernel
theorem dc_S_init_53 : decode bc_S_init 53 = .ok (.invokespecial 38, 3) := by decide +kernel
theorem dc_S_init_56 : decode bc_S_init 56 = .ok (.putfield 39, 3) := by decide +kernel
theorem dc_S_init_59 : decode bc_S_init 59 = .ok (.aload_n 0, 1) := by decide +kernel
theorem dc_S_init_60 : decode bc_S_init 60 = .ok (.new 43, 3) := by decide +kernel
theorem dc_S_init_63 : decode bc_S_init 63 = .ok (.dup, 1) := by decide +kernel
theorem dc_S_init_64 : decode bc_S_init 64 = .ok (.invokespecial 45, 3) := by decide +kernel
theorem dc_S_init_67 : decode bc_S_init 67 = .ok (.putfield 46, 3) := by decide +kernel
theorem dc_S_init_70 : decode bc_S_init 70 = .ok (.aload_n 0, 1) := by decide +kernel
theorem dc_S_init_71 : decode bc_S_init 71 = .ok (.new 43, 3) := by decide +kernel
theorem dc_S_init_74 : decode bc_S_init 74 = .ok (.dup, 1) := by decide +kernel
theorem dc_S_init_75 : decode bc_S_init 75 = .ok (.invokespecial 45, 3) := by decide +kernel
theorem dc_S_init_78 : decode bc_S_init 78 = .ok (.putfield 50, 3) := by decide +kernel
theorem dc_S_init_81 : decode bc_S_init 81 = .ok (.return_, 1) := by decide +kernel
theorem dc_S_leastEntries_0 : decode bc_S_leastEntries 0 = .ok (.iload_n 0, 1) := by decide +kernel
theorem dc_S_leastEntries_1 : decode bc_S_leastEntries 1 = .ok (.iconst 1, 1) := by decide +kernel
theorem dc_S_leastEntries_2 : decode bc_S_leastEntries 2 = .ok (.iadd, 1) := by decide +kernel
theorem dc_S_leastEntries_3 : decode bc_S_leastEntries 3 = .ok (.iconst 2, 1) := by decide +kernel
theorem dc_S_leastEntries_4 : decode bc_S_leastEntries 4 = .ok (.idiv, 1) := by decide +kernel
theorem dc_S_leastEntries_5 : decode bc_S_leastEntries 5 = .ok (.ireturn, 1) := by decide +kernel
theorem dc_B_init_0 : decode bc_B_init 0 = .ok (.aload_n 0, 1) := by decide +kernel
theorem dc_B_init_1 : decode bc_B_init 1 = .ok (.invokespecial 3, 3) := by decide +kernel
theorem dc_B_init_4 : decode bc_B_init 4 = .ok (.aload_n 0, 1) := by decide +kernel
theorem dc_B_init_5 : decode bc_B_init 5 = .ok (.sipush 1201, 3) := by decide +kernel
theorem dc_B_init_8 : decode bc_B_init 8 = .ok (.newarray .int, 2) := by decide +kernel
theorem dc_B_init_10 : decode bc_B_init 10 = .ok (.putfield 9, 3) := by decide +kernel
theorem dc_B_init_13 : decode bc_B_init 13 = .ok (.aload_n 0, 1) := by decide +kernel
theorem dc_B_init_14 : decode bc_B_init 14 = .ok (.sipush 1201, 3) := by decide +kernel
theorem dc_B_init_17 : decode bc_B_init 17 = .ok (.newarray .int, 2) := by decide +kernel
theorem dc_B_init_19 : decode bc_B_init 19 = .ok (.putfield 15, 3) := by decide +kernel
theorem dc_B_init_22 : decode bc_B_init 22 = .ok (.aload_n 0, 1) := by decide +kernel
theorem dc_B_init_23 : decode bc_B_init 23 = .ok (.sipush 1201, 3) := by decide +kernel
theorem dc_B_init_26 : decode bc_B_init 26 = .ok (.newarray .int, 2) := by decide +kernel
theorem dc_B_init_28 : decode bc_B_init 28 = .ok (.putfield 18, 3) := by decide +kernel
theorem dc_B_init_31 : decode bc_B_init 31 = .ok (.aload_n 0, 1) := by decide +kernel
theorem dc_B_init_32 : decode bc_B_init 32 = .ok (.sipush 1200, 3) := by decide +kernel
theorem dc_B_init_35 : decode bc_B_init 35 = .ok (.newarray .int, 2) := by decide +kernel
theorem dc_B_init_37 : decode bc_B_init 37 = .ok (.putfield 21, 3) := by decide +kernel
theorem dc_B_init_40 : decode bc_B_init 40 = .ok (.aload_n 0, 1) := by decide +kernel
theorem dc_B_init_41 : decode bc_B_init 41 = .ok (.sipush 1200, 3) := by decide +kernel
theorem dc_B_init_44 : decode bc_B_init 44 = .ok (.putfield 24, 3) := by decide +kernel
theorem dc_B_init_47 : decode bc_B_init 47 = .ok (.aload_n 0, 1) := by decide +kernel
theorem dc_B_init_48 : decode bc_B_init 48 = .ok (.iload_n 1, 1) := by decide +kernel
theorem dc_B_init_49 : decode bc_B_init 49 = .ok (.iconst 1, 1) := by decide +kernel
theorem dc_B_init_50 : decode bc_B_init 50 = .ok (.iadd, 1) := by decide +kernel
theorem dc_B_init_51 : decode bc_B_init 51 = .ok (.putfield 28, 3) := by decide +kernel
theorem dc_B_init_54 : decode bc_B_init 54 = .ok (.aload_n 0, 1) := by decide +kernel
theorem dc_B_init_55 : decode bc_B_init 55 = .ok (.sipush 1201, 3) := by decide +kernel
theorem dc_B_init_58 : decode bc_B_init 58 = .ok (.aload_n 0, 1) := by decide +kernel
theorem dc_B_init_59 : decode bc_B_init 59 = .ok (.getfield 28, 3) := by decide +kernel
theorem dc_B_init_62 : decode bc_B_init 62 = .ok (.imul, 1) := by decide +kernel
theorem dc_B_init_63 : decode bc_B_init 63 = .ok (.newarray .int, 2) := by decide +kernel
theorem dc_B_init_65 : decode bc_B_init 65 = .ok (.putfield 31, 3) := by decide +kernel
theorem dc_B_init_68 : decode bc_B_init 68 = .ok (.aload_n 0, 1) := by decide +kernel
theorem dc_B_init_69 : decode bc_B_init 69 = .ok (.sipush 1201, 3) := by decide +kernel
theorem dc_B_init_72 : decode bc_B_init 72 = .ok (.aload_n 0, 1) := by decide +kernel
theorem dc_B_init_73 : decode bc_B_init 73 = .ok (.getfield 28, 3) := by decide +kernel
theorem dc_B_init_76 : decode bc_B_init 76 = .ok (.imul, 1) := by decide +kernel
theorem dc_B_init_77 : decode bc_B_init 77 = .ok (.newarray .int, 2) := by decide +kernel
theorem dc_B_init_79 : decode bc_B_init 79 = .ok (.putfield 34, 3) := by decide +kernel
theorem dc_B_init_82 : decode bc_B_init 82 = .ok (.iconst 0, 1) := by decide +kernel
theorem dc_B_init_83 : decode bc_B_init 83 = .ok (.istore_n 2, 1) := by decide +kernel
theorem dc_B_init_84 : decode bc_B_init 84 = .ok (.iload_n 2, 1) := by decide +kernel
theorem dc_B_init_85 : decode bc_B_init 85 = .ok (.sipush 1200, 3) := by decide +kernel
theorem dc_B_init_88 : decode bc_B_init 88 = .ok (.if_icmp .ge 20, 3) := by decide +kernel
theorem dc_B_init_91 : decode bc_B_init 91 = .ok (.aload_n 0, 1) := by decide +kernel
theorem dc_B_init_92 : decode bc_B_init 92 = .ok (.getfield 21, 3) := by decide +kernel
theorem dc_B_init_95 : decode bc_B_init 95 = .ok (.iload_n 2, 1) := by decide +kernel
theorem dc_B_init_96 : decode bc_B_init 96 = .ok (.sipush 1200, 3) := by decide +kernel
theorem dc_B_init_99 : decode bc_B_init 99 = .ok (.iload_n 2, 1) := by decide +kernel
theorem dc_B_init_100 : decode bc_B_init 100 = .ok (.isub, 1) := by decide +kernel
theorem dc_B_init_101 : decode bc_B_init 101 = .ok (.iastore, 1) := by decide +kernel
theorem dc_B_init_102 : decode bc_B_init 102 = .ok (.iinc 2 1, 3) := by decide +kernel
theorem dc_B_init_105 : decode bc_B_init 105 = .ok (.goto (-21), 3) := by decide +kernel
theorem dc_B_init_108 : decode bc_B_init 108 = .ok (.return_, 1) := by decide +kernel
theorem dc_T_init_0 : decode bc_T_init 0 = .ok (.aload_n 0, 1) := by decide +kernel
theorem dc_T_init_1 : decode bc_T_init 1 = .ok (.invokespecial 3, 3) := by decide +kernel
theorem dc_T_init_4 : decode bc_T_init 4 = .ok (.aload_n 0, 1) := by decide +kernel
theorem dc_T_init_5 : decode bc_T_init 5 = .ok (.aload_n 1, 1) := by decide +kernel
theorem dc_T_init_6 : decode bc_T_init 6 = .ok (.putfield 9, 3) := by decide +kernel
theorem dc_T_init_9 : decode bc_T_init 9 = .ok (.aload_n 0, 1) := by decide +kernel
theorem dc_T_init_10 : decode bc_T_init 10 = .ok (.iload_n 2, 1) := by decide +kernel
theorem dc_T_init_11 : decode bc_T_init 11 = .ok (.putfield 15, 3) := by decide +kernel
theorem dc_T_init_14 : decode bc_T_init 14 = .ok (.aload_n 0, 1) := by decide +kernel
theorem dc_T_init_15 : decode bc_T_init 15 = .ok (.iload_n 2, 1) := by decide +kernel
theorem dc_T_init_16 : decode bc_T_init 16 = .ok (.invokestatic 19, 3) := by decide +kernel
theorem dc_T_init_19 : decode bc_T_init 19 = .ok (.putfield 23, 3) := by decide +kernel
theorem dc_T_init_22 : decode bc_T_init 22 = .ok (.return_, 1) := by decide +kernel
theorem dc_I_init_0 : decode bc_I_init 0 = .ok (.aload_n 0, 1) := by decide +kernel
theorem dc_I_init_1 : decode bc_I_init 1 = .ok (.invokespecial 3, 3) := by decide +kernel
theorem dc_I_init_4 : decode bc_I_init 4 = .ok (.aload_n 0, 1) := by decide +kernel
theorem dc_I_init_5 : decode bc_I_init 5 = .ok (.sipush 1201, 3) := by decide +kernel
theorem dc_I_init_8 : decode bc_I_init 8 = .ok (.newarray .int, 2) := by decide +kernel
theorem dc_I_init_10 : decode bc_I_init 10 = .ok (.putfield 9, 3) := by decide +kernel
theorem dc_I_init_13 : decode bc_I_init 13 = .ok (.aload_n 0, 1) := by decide +kernel
theorem dc_I_init_14 : decode bc_I_init 14 = .ok (.sipush 1201, 3) := by decide +kernel
theorem dc_I_init_17 : decode bc_I_init 17 = .ok (.newarray .int, 2) := by decide +kernel
theorem dc_I_init_19 : decode bc_I_init 19 = .ok (.putfield 15, 3) := by decide +kernel
theorem dc_I_init_22 : decode bc_I_init 22 = .ok (.aload_n 0, 1) := by decide +kernel
theorem dc_I_init_23 : decode bc_I_init 23 = .ok (.sipush 1201, 3) := by decide +kernel
theorem dc_I_init_26 : decode bc_I_init 26 = .ok (.newarray .int, 2) := by decide +kernel
theorem dc_I_init_28 : decode bc_I_init 28 = .ok (.putfield 18, 3) := by decide +kernel
theorem dc_I_init_31 : decode bc_I_init 31 = .ok (.aload_n 0, 1) := by decide +kernel
theorem dc_I_init_32 : decode bc_I_init 32 = .ok (.sipush 1201, 3) := by decide +kernel
theorem dc_I_init_35 : decode bc_I_init 35 = .ok (.newarray .boolean, 2) := by decide +kernel
theorem dc_I_init_37 : decode bc_I_init 37 = .ok (.putfield 21, 3) := by decide +kernel
theorem dc_I_init_40 : decode bc_I_init 40 = .ok (.aload_n 0, 1) := by decide +kernel
theorem dc_I_init_41 : decode bc_I_init 41 = .ok (.aload_n 1, 1) := by decide +kernel
theorem dc_I_init_42 : decode bc_I_init 42 = .ok (.putfield 25, 3) := by decide +kernel
theorem dc_I_init_45 : decode bc_I_init 45 = .ok (.aload_n 0, 1) := by decide +kernel
theorem dc_I_init_46 : decode bc_I_init 46 = .ok (.iload_n 2, 1) := by decide +kernel
theorem dc_I_init_47 : decode bc_I_init 47 = .ok (.putfield 29, 3) := by decide +kernel
theorem dc_I_init_50 : decode bc_I_init 50 = .ok (.aload_n 0, 1) := by decide +kernel
theorem dc_I_init_51 : decode bc_I_init 51 = .ok (.iload_n 2, 1) := by decide +kernel
theorem dc_I_init_52 : decode bc_I_init 52 = .ok (.invokestatic 33, 3) := by decide +kernel
theorem dc_I_init_55 : decode bc_I_init 55 = .ok (.putfield 37, 3) := by decide +kernel
theorem dc_I_init_58 : decode bc_I_init 58 = .ok (.return_, 1) := by decide +kernel
theorem dc_P_init_0 : decode bc_P_init 0 = .ok (.aload_n 0, 1) := by decide +kernel
theorem dc_P_init_1 : decode bc_P_init 1 = .ok (.invokespecial 3, 3) := by decide +kernel
theorem dc_P_init_4 : decode bc_P_init 4 = .ok (.aload_n 0, 1) := by decide +kernel
theorem dc_P_init_5 : decode bc_P_init 5 = .ok (.bipush 8, 2) := by decide +kernel
theorem dc_P_init_7 : decode bc_P_init 7 = .ok (.newarray .int, 2) := by decide +kernel
theorem dc_P_init_9 : decode bc_P_init 9 = .ok (.putfield 9, 3) := by decide +kernel
theorem dc_P_init_12 : decode bc_P_init 12 = .ok (.aload_n 0, 1) := by decide +kernel
theorem dc_P_init_13 : decode bc_P_init 13 = .ok (.bipush 8, 2) := by decide +kernel
theorem dc_P_init_15 : decode bc_P_init 15 = .ok (.newarray .int, 2) := by decide +kernel
theorem dc_P_init_17 : decode bc_P_init 17 = .ok (.putfield 15, 3) := by decide +kernel
theorem dc_P_init_20 : decode bc_P_init 20 = .ok (.return_, 1) := by decide +kernel
theorem dc_R_init_0 : decode bc_R_init 0 = .ok (.aload_n 0, 1) := by decide +kernel
theorem dc_R_init_1 : decode bc_R_init 1 = .ok (.invokespecial 1, 3) := by decide +kernel
theorem dc_R_init_4 : decode bc_R_init 4 = .ok (.aload_n 0, 1) := by decide +kernel
theorem dc_R_init_5 : decode bc_R_init 5 = .ok (.ldc 7, 2) := by decide +kernel
theorem dc_R_init_7 : decode bc_R_init 7 = .ok (.newarray .int, 2) := by decide +kernel
theorem dc_R_init_9 : decode bc_R_init 9 = .ok (.putfield 8, 3) := by decide +kernel
theorem dc_R_init_12 : decode bc_R_init 12 = .ok (.aload_n 0, 1) := by decide +kernel
theorem dc_R_init_13 : decode bc_R_init 13 = .ok (.ldc 7, 2) := by decide +kernel
theorem dc_R_init_15 : decode bc_R_init 15 = .ok (.newarray .int, 2) := by decide +kernel
theorem dc_R_init_17 : decode bc_R_init 17 = .ok (.putfield 14, 3) := by decide +kernel
theorem dc_R_init_20 : decode bc_R_init 20 = .ok (.aload_n 0, 1) := by decide +kernel
theorem dc_R_init_21 : decode bc_R_init 21 = .ok (.bipush 8, 2) := by decide +kernel
theorem dc_R_init_23 : decode bc_R_init 23 = .ok (.newarray .int, 2) := by decide +kernel
theorem dc_R_init_25 : decode bc_R_init 25 = .ok (.putfield 17, 3) := by decide +kernel
theorem dc_R_init_28 : decode bc_R_init 28 = .ok (.aload_n 0, 1) := by decide +kernel
theorem dc_R_init_29 : decode bc_R_init 29 = .ok (.bipush 8, 2) := by decide +kernel
theorem dc_R_init_31 : decode bc_R_init 31 = .ok (.newarray .int, 2) := by decide +kernel
theorem dc_R_init_33 : decode bc_R_init 33 = .ok (.putfield 20, 3) := by decide +kernel
theorem dc_R_init_36 : decode bc_R_init 36 = .ok (.return_, 1) := by decide +kernel
theorem dc_L_cell_0 : decode bc_L_cell 0 = .ok (.iload_n 1, 1) := by decide +kernel
theorem dc_L_cell_1 : decode bc_L_cell 1 = .ok (.aload_n 0, 1) := by decide +kernel
theorem dc_L_cell_2 : decode bc_L_cell 2 = .ok (.arraylength, 1) := by decide +kernel
theorem dc_L_cell_3 : decode bc_L_cell 3 = .ok (.if_icmp .ge 9, 3) := by decide +kernel
theorem dc_L_cell_6 : decode bc_L_cell 6 = .ok (.aload_n 0, 1) := by decide +kernel
theorem dc_L_cell_7 : decode bc_L_cell 7 = .ok (.iload_n 1, 1) := by decide +kernel
theorem dc_L_cell_8 : decode bc_L_cell 8 = .ok (.iaload, 1) := by decide +kernel
theorem dc_L_cell_9 : decode bc_L_cell 9 = .ok (.goto 4, 3) := by decide +kernel
theorem dc_L_cell_12 : decode bc_L_cell 12 = .ok (.iconst 0, 1) := by decide +kernel
theorem dc_L_cell_13 : decode bc_L_cell 13 = .ok (.ireturn, 1) := by decide +kernel
theorem dc_L_law_0 : decode bc_L_law 0 = .ok (.new 7, 3) := by decide +kernel
theorem dc_L_law_3 : decode bc_L_law 3 = .ok (.dup, 1) := by decide +kernel
theorem dc_L_law_4 : decode bc_L_law 4 = .ok (.aload_n 0, 1) := by decide +kernel
theorem dc_L_law_5 : decode bc_L_law 5 = .ok (.iconst 0, 1) := by decide +kernel
theorem dc_L_law_6 : decode bc_L_law 6 = .ok (.invokestatic 9, 3) := by decide +kernel
theorem dc_L_law_9 : decode bc_L_law 9 = .ok (.invokespecial 15, 3) := by decide +kernel
theorem dc_L_law_12 : decode bc_L_law 12 = .ok (.astore_n 1, 1) := by decide +kernel
theorem dc_L_law_13 : decode bc_L_law 13 = .ok (.new 18, 3) := by decide +kernel
theorem dc_L_law_16 : decode bc_L_law 16 = .ok (.dup, 1) := by decide +kernel
theorem dc_L_law_17 : decode bc_L_law 17 = .ok (.aload_n 0, 1) := by decide +kernel
theorem dc_L_law_18 : decode bc_L_law 18 = .ok (.iconst 0, 1) := by decide +kernel
theorem dc_L_law_19 : decode bc_L_law 19 = .ok (.invokestatic 9, 3) := by decide +kernel
theorem dc_L_law_22 : decode bc_L_law 22 = .ok (.invokespecial 20, 3) := by decide +kernel
theorem dc_L_law_25 : decode bc_L_law 25 = .ok (.astore_n 2, 1) := by decide +kernel
theorem dc_L_law_26 : decode bc_L_law 26 = .ok (.iconst 1, 1) := by decide +kernel
theorem dc_L_law_27 : decode bc_L_law 27 = .ok (.istore_n 3, 1) := by decide +kernel
theorem dc_L_law_28 : decode bc_L_law 28 = .ok (.iload_n 3, 1) := by decide +kernel
theorem dc_L_law_29 : decode bc_L_law 29 = .ok (.aload_n 0, 1) := by decide +kernel
theorem dc_L_law_30 : decode bc_L_law 30 = .ok (.arraylength, 1) := by decide +kernel
theorem dc_L_law_31 : decode bc_L_law 31 = .ok (.bipush 6, 2) := by decide +kernel
theorem dc_L_law_33 : decode bc_L_law 33 = .ok (.isub, 1) := by decide +kernel
theorem dc_L_law_34 : decode bc_L_law 34 = .ok (.if_icmp .gt 442, 3) := by decide +kernel
theorem dc_L_law_37 : decode bc_L_law 37 = .ok (.aload_n 0, 1) := by decide +kernel
theorem dc_L_law_38 : decode bc_L_law 38 = .ok (.iload_n 3, 1) := by decide +kernel
theorem dc_L_law_39 : decode bc_L_law 39 = .ok (.iaload, 1) := by decide +kernel
theorem dc_L_law_40 : decode bc_L_law 40 = .ok (.bipush 15, 2) := by decide +kernel
theorem dc_L_law_42 : decode bc_L_law 42 = .ok (.iand, 1) := by decide +kernel
theorem dc_L_law_43 : decode bc_L_law 43 = .ok (.tableswitch 427 0 11 #[61, 104, 167, 200, 233, 276, 309, 342, 365, 378, 391, 414], 61) := by decide +kernel
theorem dc_L_law_104 : decode bc_L_law 104 = .ok (.aload_n 1, 1) := by decide +kernel
theorem dc_L_law_105 : decode bc_L_law 105 = .ok (.aload_n 0, 1) := by decide +kernel
theorem dc_L_law_106 : decode bc_L_law 106 = .ok (.iload_n 3, 1) := by decide +kernel
theorem dc_L_law_107 : decode bc_L_law 107 = .ok (.iconst 1, 1) := by decide +kernel
theorem dc_L_law_108 : decode bc_L_law 108 = .ok (.iadd, 1) := by decide +kernel
theorem dc_L_law_109 : decode bc_L_law 109 = .ok (.iaload, 1) := by decide +kernel
theorem dc_L_law_110 : decode bc_L_law 110 = .ok (.aload_n 0, 1) := by decide +kernel
theorem dc_L_law_111 : decode bc_L_law 111 = .ok (.iload_n 3, 1) := by decide +kernel
theorem dc_L_law_112 : decode bc_L_law 112 = .ok (.iconst 2, 1) := by decide +kernel
theorem dc_L_law_113 : decode bc_L_law 113 = .ok (.iadd, 1) := by decide +kernel
theorem dc_L_law_114 : decode bc_L_law 114 = .ok (.iaload, 1) := by decide +kernel
theorem dc_L_law_115 : decode bc_L_law 115 = .ok (.aload_n 0, 1) := by decide +kernel
theorem dc_L_law_116 : decode bc_L_law 116 = .ok (.iload_n 3, 1) := by decide +kernel
theorem dc_L_law_117 : decode bc_L_law 117 = .ok (.iconst 3, 1) := by decide +kernel
theorem dc_L_law_118 : decode bc_L_law 118 = .ok (.iadd, 1) := by decide +kernel
theorem dc_L_law_119 : decode bc_L_law 119 = .ok (.iaload, 1) := by decide +kernel
theorem dc_L_law_120 : decode bc_L_law 120 = .ok (.invokevirtual 21, 3) := by decide +kernel
theorem dc_L_law_123 : decode bc_L_law 123 = .ok (.aload_n 2, 1) := by decide +kernel
theorem dc_L_law_124 : decode bc_L_law 124 = .ok (.aload_n 0, 1) := by decide +kernel
theorem dc_L_law_125 : decode bc_L_law 125 = .ok (.iload_n 3, 1) := by decide +kernel
theorem dc_L_law_126 : decode bc_L_law 126 = .ok (.iconst 1, 1) := by decide +kernel
theorem dc_L_law_127 : decode bc_L_law 127 = .ok (.iadd, 1) := by decide +kernel
theorem dc_L_law_128 : decode bc_L_law 128 = .ok (.iaload, 1) := by decide +kernel
theorem dc_L_law_129 : decode bc_L_law 129 = .ok (.aload_n 0, 1) := by decide +kernel
theorem dc_L_law_130 : decode bc_L_law 130 = .ok (.iload_n 3, 1) := by decide +kernel
theorem dc_L_law_131 : decode bc_L_law 131 = .ok (.iconst 2, 1) := by decide +kernel
theorem dc_L_law_132 : decode bc_L_law 132 = .ok (.iadd, 1) := by decide +kernel
theorem dc_L_law_133 : decode bc_L_law 133 = .ok (.iaload, 1) := by decide +kernel
theorem dc_L_law_134 : decode bc_L_law 134 = .ok (.aload_n 0, 1) := by decide +kernel
theorem dc_L_law_135 : decode bc_L_law 135 = .ok (.iload_n 3, 1) := by decide +kernel
theorem dc_L_law_136 : decode bc_L_law 136 = .ok (.iconst 3, 1) := by decide +kernel
theorem dc_L_law_137 : decode bc_L_law 137 = .ok (.iadd, 1) := by decide +kernel
theorem dc_L_law_138 : decode bc_L_law 138 = .ok (.iaload, 1) := by decide +kernel
theorem dc_L_law_139 : decode bc_L_law 139 = .ok (.invokevirtual 25, 3) := by decide +kernel
theorem dc_L_law_142 : decode bc_L_law 142 = .ok (.if_icmp .eq 328, 3) := by decide +kernel
theorem dc_L_law_145 : decode bc_L_law 145 = .ok (.iconst 0, 1) := by decide +kernel
theorem dc_L_law_146 : decode bc_L_law 146 = .ok (.ireturn, 1) := by decide +kernel
theorem dc_L_law_147 : decode bc_L_law 147 = .ok (.aload_n 1, 1) := by decide +kernel
theorem dc_L_law_148 : decode bc_L_law 148 = .ok (.aload_n 0, 1) := by decide +kernel
theorem dc_L_law_149 : decode bc_L_law 149 = .ok (.iload_n 3, 1) := by decide +kernel
theorem dc_L_law_150 : decode bc_L_law 150 = .ok (.iconst 1, 1) := by decide +kernel
theorem dc_L_law_151 : decode bc_L_law 151 = .ok (.iadd, 1) := by decide +kernel
theorem dc_L_law_152 : decode bc_L_law 152 = .ok (.iaload, 1) := by decide +kernel
theorem dc_L_law_153 : decode bc_L_law 153 = .ok (.aload_n 0, 1) := by decide +kernel
theorem dc_L_law_154 : decode bc_L_law 154 = .ok (.iload_n 3, 1) := by decide +kernel
theorem dc_L_law_155 : decode bc_L_law 155 = .ok (.iconst 2, 1) := by decide +kernel
theorem dc_L_law_156 : decode bc_L_law 156 = .ok (.iadd, 1) := by decide +kernel
theorem dc_L_law_157 : decode bc_L_law 157 = .ok (.iaload, 1) := by decide +kernel
theorem dc_L_law_158 : decode bc_L_law 158 = .ok (.aload_n 0, 1) := by decide +kernel
theorem dc_L_law_159 : decode bc_L_law 159 = .ok (.iload_n 3, 1) := by decide +kernel
theorem dc_L_law_160 : decode bc_L_law 160 = .ok (.iconst 3, 1) := by decide +kernel
theorem dc_L_law_161 : decode bc_L_law 161 = .ok (.iadd, 1) := by decide +kernel
theorem dc_L_law_162 : decode bc_L_law 162 = .ok (.iaload, 1) := by decide +kernel
theorem dc_L_law_163 : decode bc_L_law 163 = .ok (.aload_n 0, 1) := by decide +kernel
theorem dc_L_law_164 : decode bc_L_law 164 = .ok (.iload_n 3, 1) := by decide +kernel
theorem dc_L_law_165 : decode bc_L_law 165 = .ok (.iconst 4, 1) := by decide +kernel
theorem dc_L_law_166 : decode bc_L_law 166 = .ok (.iadd, 1) := by decide +kernel
theorem dc_L_law_167 : decode bc_L_law 167 = .ok (.iaload, 1) := by decide +kernel
theorem dc_L_law_168 : decode bc_L_law 168 = .ok (.aload_n 0, 1) := by decide +kernel
theorem dc_L_law_169 : decode bc_L_law 169 = .ok (.iload_n 3, 1) := by decide +kernel
theorem dc_L_law_170 : decode bc_L_law 170 = .ok (.iconst 5, 1) := by decide +kernel
theorem dc_L_law_171 : decode bc_L_law 171 = .ok (.iadd, 1) := by decide +kernel
theorem dc_L_law_172 : decode bc_L_law 172 = .ok (.iaload, 1) := by decide +kernel
theorem dc_L_law_173 : decode bc_L_law 173 = .ok (.invokevirtual 26, 3) := by decide +kernel
theorem dc_L_law_176 : decode bc_L_law 176 = .ok (.aload_n 2, 1) := by decide +kernel
theorem dc_L_law_177 : decode bc_L_law 177 = .ok (.aload_n 0, 1) := by decide +kernel
theorem dc_L_law_178 : decode bc_L_law 178 = .ok (.iload_n 3, 1) := by decide +kernel
theorem dc_L_law_179 : decode bc_L_law 179 = .ok (.iconst 1, 1) := by decide +kernel
theorem dc_L_law_180 : decode bc_L_law 180 = .ok (.iadd, 1) := by decide +kernel
theorem dc_L_law_181 : decode bc_L_law 181 = .ok (.iaload, 1) := by decide +kernel
theorem dc_L_law_182 : decode bc_L_law 182 = .ok (.aload_n 0, 1) := by decide +kernel
theorem dc_L_law_183 : decode bc_L_law 183 = .ok (.iload_n 3, 1) := by decide +kernel
theorem dc_L_law_184 : decode bc_L_law 184 = .ok (.iconst 2, 1) := by decide +kernel
theorem dc_L_law_185 : decode bc_L_law 185 = .ok (.iadd, 1) := by decide +kernel
theorem dc_L_law_186 : decode bc_L_law 186 = .ok (.iaload, 1) := by decide +kernel
theorem dc_L_law_187 : decode bc_L_law 187 = .ok (.aload_n 0, 1) := by decide +kernel
theorem dc_L_law_188 : decode bc_L_law 188 = .ok (.iload_n 3, 1) := by decide +kernel
theorem dc_L_law_189 : decode bc_L_law 189 = .ok (.iconst 3, 1) := by decide +kernel
theorem dc_L_law_190 : decode bc_L_law 190 = .ok (.iadd, 1) := by decide +kernel
theorem dc_L_law_191 : decode bc_L_law 191 = .ok (.iaload, 1) := by decide +kernel
theorem dc_L_law_192 : decode bc_L_law 192 = .ok (.aload_n 0, 1) := by decide +kernel
theorem dc_L_law_193 : decode bc_L_law 193 = .ok (.iload_n 3, 1) := by decide +kernel
theorem dc_L_law_194 : decode bc_L_law 194 = .ok (.iconst 4, 1) := by decide +kernel
theorem dc_L_law_195 : decode bc_L_law 195 = .ok (.iadd, 1) := by decide +kernel
theorem dc_L_law_196 : decode bc_L_law 196 = .ok (.iaload, 1) := by decide +kernel
theorem dc_L_law_197 : decode bc_L_law 197 = .ok (.aload_n 0, 1) := by decide +kernel
theorem dc_L_law_198 : decode bc_L_law 198 = .ok (.iload_n 3, 1) := by decide +kernel
theorem dc_L_law_199 : decode bc_L_law 199 = .ok (.iconst 5, 1) := by decide +kernel
theorem dc_L_law_200 : decode bc_L_law 200 = .ok (.iadd, 1) := by decide +kernel
theorem dc_L_law_201 : decode bc_L_law 201 = .ok (.iaload, 1) := by decide +kernel
theorem dc_L_law_202 : decode bc_L_law 202 = .ok (.invokevirtual 30, 3) := by decide +kernel
theorem dc_L_law_205 : decode bc_L_law 205 = .ok (.if_icmp .eq 265, 3) := by decide +kernel
theorem dc_L_law_208 : decode bc_L_law 208 = .ok (.iconst 0, 1) := by decide +kernel
theorem dc_L_law_209 : decode bc_L_law 209 = .ok (.ireturn, 1) := by decide +kernel
theorem dc_L_law_210 : decode bc_L_law 210 = .ok (.aload_n 1, 1) := by decide +kernel
theorem dc_L_law_211 : decode bc_L_law 211 = .ok (.aload_n 0, 1) := by decide +kernel
theorem dc_L_law_212 : decode bc_L_law 212 = .ok (.iload_n 3, 1) := by decide +kernel
theorem dc_L_law_213 : decode bc_L_law 213 = .ok (.iconst 1, 1) := by decide +kernel
theorem dc_L_law_214 : decode bc_L_law 214 = .ok (.iadd, 1) := by decide +kernel
theorem dc_L_law_215 : decode bc_L_law 215 = .ok (.iaload, 1) := by decide +kernel
theorem dc_L_law_216 : decode bc_L_law 216 = .ok (.aload_n 0, 1) := by decide +kernel
theorem dc_L_law_217 : decode bc_L_law 217 = .ok (.iload_n 3, 1) := by decide +kernel
theorem dc_L_law_218 : decode bc_L_law 218 = .ok (.iconst 2, 1) := by decide +kernel
theorem dc_L_law_219 : decode bc_L_law 219 = .ok (.iadd, 1) := by decide +kernel
theorem dc_L_law_220 : decode bc_L_law 220 = .ok (.iaload, 1) := by decide +kernel
theorem dc_L_law_221 : decode bc_L_law 221 = .ok (.invokevirtual 31, 3) := by decide +kernel
theorem dc_L_law_224 : decode bc_L_law 224 = .ok (.aload_n 2, 1) := by decide +kernel
theorem dc_L_law_225 : decode bc_L_law 225 = .ok (.aload_n 0, 1) := by decide +kernel
theorem dc_L_law_226 : decode bc_L_law 226 = .ok (.iload_n 3, 1) := by decide +kernel
theorem dc_L_law_227 : decode bc_L_law 227 = .ok (.iconst 1, 1) := by decide +kernel
theorem dc_L_law_228 : decode bc_L_law 228 = .ok (.iadd, 1) := by decide +kernel
theorem dc_L_law_229 : decode bc_L_law 229 = .ok (.iaload, 1) := by decide +kernel
theorem dc_L_law_230 : decode bc_L_law 230 = .ok (.aload_n 0, 1) := by decide +kernel
theorem dc_L_law_231 : decode bc_L_law 231 = .ok (.iload_n 3, 1) := by decide +kernel
theorem dc_L_law_232 : decode bc_L_law 232 = .ok (.iconst 2, 1) := by decide +kernel
theorem dc_L_law_233 : decode bc_L_law 233 = .ok (.iadd, 1) := by decide +kernel
theorem dc_L_law_234 : decode bc_L_law 234 = .ok (.iaload, 1) := by decide +kernel
theorem dc_L_law_235 : decode bc_L_law 235 = .ok (.invokevirtual 35, 3) := by decide +kernel
theorem dc_L_law_238 : decode bc_L_law 238 = .ok (.if_icmp .eq 232, 3) := by decide +kernel
theorem dc_L_law_241 : decode bc_L_law 241 = .ok (.iconst 0, 1) := by decide +kernel
theorem dc_L_law_242 : decode bc_L_law 242 = .ok (.ireturn, 1) := by decide +kernel
theorem dc_L_law_243 : decode bc_L_law 243 = .ok (.aload_n 1, 1) := by decide +kernel
theorem dc_L_law_244 : decode bc_L_law 244 = .ok (.aload_n 0, 1) := by decide +kernel
theorem dc_L_law_245 : decode bc_L_law 245 = .ok (.iload_n 3, 1) := by decide +kernel
theorem dc_L_law_246 : decode bc_L_law 246 = .ok (.iconst 1, 1) := by decide +kernel
theorem dc_L_law_247 : decode bc_L_law 247 = .ok (.iadd, 1) := by decide +kernel
theorem dc_L_law_248 : decode bc_L_law 248 = .ok (.iaload, 1) := by decide +kernel
theorem dc_L_law_249 : decode bc_L_law 249 = .ok (.aload_n 0, 1) := by decide +kernel
theorem dc_L_law_250 : decode bc_L_law 250 = .ok (.iload_n 3, 1) := by decide +kernel
theorem dc_L_law_251 : decode bc_L_law 251 = .ok (.iconst 2, 1) := by decide +kernel
theorem dc_L_law_252 : decode bc_L_law 252 = .ok (.iadd, 1) := by decide +kernel
theorem dc_L_law_253 : decode bc_L_law 253 = .ok (.iaload, 1) := by decide +kernel
theorem dc_L_law_254 : decode bc_L_law 254 = .ok (.invokevirtual 36, 3) := by decide +kernel
theorem dc_L_law_257 : decode bc_L_law 257 = .ok (.aload_n 2, 1) := by decide +kernel
theorem dc_L_law_258 : decode bc_L_law 258 = .ok (.aload_n 0, 1) := by decide +kernel
theorem dc_L_law_259 : decode bc_L_law 259 = .ok (.iload_n 3, 1) := by decide +kernel
theorem dc_L_law_260 : decode bc_L_law 260 = .ok (.iconst 1, 1) := by decide +kernel
theorem dc_L_law_261 : decode bc_L_law 261 = .ok (.iadd, 1) := by decide +kernel
theorem dc_L_law_262 : decode bc_L_law 262 = .ok (.iaload, 1) := by decide +kernel
theorem dc_L_law_263 : decode bc_L_law 263 = .ok (.aload_n 0, 1) := by decide +kernel
theorem dc_L_law_264 : decode bc_L_law 264 = .ok (.iload_n 3, 1) := by decide +kernel
theorem dc_L_law_265 : decode bc_L_law 265 = .ok (.iconst 2, 1) := by decide +kernel
theorem dc_L_law_266 : decode bc_L_law 266 = .ok (.iadd, 1) := by decide +kernel
theorem dc_L_law_267 : decode bc_L_law 267 = .ok (.iaload, 1) := by decide +kernel
theorem dc_L_law_268 : decode bc_L_law 268 = .ok (.invokevirtual 39, 3) := by decide +kernel
theorem dc_L_law_271 : decode bc_L_law 271 = .ok (.if_icmp .eq 199, 3) := by decide +kernel
theorem dc_L_law_274 : decode bc_L_law 274 = .ok (.iconst 0, 1) := by decide +kernel
theorem dc_L_law_275 : decode bc_L_law 275 = .ok (.ireturn, 1) := by decide +kernel
theorem dc_L_law_276 : decode bc_L_law 276 = .ok (.aload_n 1, 1) := by decide +kernel
theorem dc_L_law_277 : decode bc_L_law 277 = .ok (.aload_n 0, 1) := by decide +kernel
theorem dc_L_law_278 : decode bc_L_law 278 = .ok (.iload_n 3, 1) := by decide +kernel
theorem dc_L_law_279 : decode bc_L_law 279 = .ok (.iconst 1, 1) := by decide +kernel
theorem dc_L_law_280 : decode bc_L_law 280 = .ok (.iadd, 1) := by decide +kernel
theorem dc_L_law_281 : decode bc_L_law 281 = .ok (.iaload, 1) := by decide +kernel
theorem dc_L_law_282 : decode bc_L_law 282 = .ok (.aload_n 0, 1) := by decide +kernel
theorem dc_L_law_283 : decode bc_L_law 283 = .ok (.iload_n 3, 1) := by decide +kernel
theorem dc_L_law_284 : decode bc_L_law 284 = .ok (.iconst 2, 1) := by decide +kernel
theorem dc_L_law_285 : decode bc_L_law 285 = .ok (.iadd, 1) := by decide +kernel
theorem dc_L_law_286 : decode bc_L_law 286 = .ok (.iaload, 1) := by decide +kernel
theorem dc_L_law_287 : decode bc_L_law 287 = .ok (.aload_n 0, 1) := by decide +kernel
theorem dc_L_law_288 : decode bc_L_law 288 = .ok (.iload_n 3, 1) := by decide +kernel
theorem dc_L_law_289 : decode bc_L_law 289 = .ok (.iconst 3, 1) := by decide +kernel
theorem dc_L_law_290 : decode bc_L_law 290 = .ok (.iadd, 1) := by decide +kernel
theorem dc_L_law_291 : decode bc_L_law 291 = .ok (.iaload, 1) := by decide +kernel
theorem dc_L_law_292 : decode bc_L_law 292 = .ok (.invokevirtual 40, 3) := by decide +kernel
theorem dc_L_law_295 : decode bc_L_law 295 = .ok (.aload_n 2, 1) := by decide +kernel
theorem dc_L_law_296 : decode bc_L_law 296 = .ok (.aload_n 0, 1) := by decide +kernel
theorem dc_L_law_297 : decode bc_L_law 297 = .ok (.iload_n 3, 1) := by decide +kernel
theorem dc_L_law_298 : decode bc_L_law 298 = .ok (.iconst 1, 1) := by decide +kernel
theorem dc_L_law_299 : decode bc_L_law 299 = .ok (.iadd, 1) := by decide +kernel
theorem dc_L_law_300 : decode bc_L_law 300 = .ok (.iaload, 1) := by decide +kernel
theorem dc_L_law_301 : decode bc_L_law 301 = .ok (.aload_n 0, 1) := by decide +kernel
theorem dc_L_law_302 : decode bc_L_law 302 = .ok (.iload_n 3, 1) := by decide +kernel
theorem dc_L_law_303 : decode bc_L_law 303 = .ok (.iconst 2, 1) := by decide +kernel
theorem dc_L_law_304 : decode bc_L_law 304 = .ok (.iadd, 1) := by decide +kernel
theorem dc_L_law_305 : decode bc_L_law 305 = .ok (.iaload, 1) := by decide +kernel
theorem dc_L_law_306 : decode bc_L_law 306 = .ok (.aload_n 0, 1) := by decide +kernel
theorem dc_L_law_307 : decode bc_L_law 307 = .ok (.iload_n 3, 1) := by decide +kernel
theorem dc_L_law_308 : decode bc_L_law 308 = .ok (.iconst 3, 1) := by decide +kernel
theorem dc_L_law_309 : decode bc_L_law 309 = .ok (.iadd, 1) := by decide +kernel
theorem dc_L_law_310 : decode bc_L_law 310 = .ok (.iaload, 1) := by decide +kernel
theorem dc_L_law_311 : decode bc_L_law 311 = .ok (.invokevirtual 43, 3) := by decide +kernel
theorem dc_L_law_314 : decode bc_L_law 314 = .ok (.if_icmp .eq 156, 3) := by decide +kernel
theorem dc_L_law_317 : decode bc_L_law 317 = .ok (.iconst 0, 1) := by decide +kernel
theorem dc_L_law_318 : decode bc_L_law 318 = .ok (.ireturn, 1) := by decide +kernel
theorem dc_L_law_319 : decode bc_L_law 319 = .ok (.aload_n 1, 1) := by decide +kernel
theorem dc_L_law_320 : decode bc_L_law 320 = .ok (.aload_n 0, 1) := by decide +kernel
theorem dc_L_law_321 : decode bc_L_law 321 = .ok (.iload_n 3, 1) := by decide +kernel
theorem dc_L_law_322 : decode bc_L_law 322 = .ok (.iconst 1, 1) := by decide +kernel
theorem dc_L_law_323 : decode bc_L_law 323 = .ok (.iadd, 1) := by decide +kernel
theorem dc_L_law_324 : decode bc_L_law 324 = .ok (.iaload, 1) := by decide +kernel
theorem dc_L_law_325 : decode bc_L_law 325 = .ok (.aload_n 0, 1) := by decide +kernel
theorem dc_L_law_326 : decode bc_L_law 326 = .ok (.iload_n 3, 1) := by decide +kernel
theorem dc_L_law_327 : decode bc_L_law 327 = .ok (.iconst 2, 1) := by decide +kernel
theorem dc_L_law_328 : decode bc_L_law 328 = .ok (.iadd, 1) := by decide +kernel
theorem dc_L_law_329 : decode bc_L_law 329 = .ok (.iaload, 1) := by decide +kernel
theorem dc_L_law_330 : decode bc_L_law 330 = .ok (.invokevirtual 44, 3) := by decide +kernel
theorem dc_L_law_333 : decode bc_L_law 333 = .ok (.aload_n 2, 1) := by decide +kernel
theorem dc_L_law_334 : decode bc_L_law 334 = .ok (.aload_n 0, 1) := by decide +kernel
theorem dc_L_law_335 : decode bc_L_law 335 = .ok (.iload_n 3, 1) := by decide +kernel
theorem dc_L_law_336 : decode bc_L_law 336 = .ok (.iconst 1, 1) := by decide +kernel
theorem dc_L_law_337 : decode bc_L_law 337 = .ok (.iadd, 1) := by decide +kernel
theorem dc_L_law_338 : decode bc_L_law 338 = .ok (.iaload, 1) := by decide +kernel
theorem dc_L_law_339 : decode bc_L_law 339 = .ok (.aload_n 0, 1) := by decide +kernel
theorem dc_L_law_340 : decode bc_L_law 340 = .ok (.iload_n 3, 1) := by decide +kernel
theorem dc_L_law_341 : decode bc_L_law 341 = .ok (.iconst 2, 1) := by decide +kernel
theorem dc_L_law_342 : decode bc_L_law 342 = .ok (.iadd, 1) := by decide +kernel
theorem dc_L_law_343 : decode bc_L_law 343 = .ok (.iaload, 1) := by decide +kernel
theorem dc_L_law_344 : decode bc_L_law 344 = .ok (.invokevirtual 47, 3) := by decide +kernel
theorem dc_L_law_347 : decode bc_L_law 347 = .ok (.if_icmp .eq 123, 3) := by decide +kernel
theorem dc_L_law_350 : decode bc_L_law 350 = .ok (.iconst 0, 1) := by decide +kernel
theorem dc_L_law_351 : decode bc_L_law 351 = .ok (.ireturn, 1) := by decide +kernel
theorem dc_L_law_352 : decode bc_L_law 352 = .ok (.aload_n 1, 1) := by decide +kernel
theorem dc_L_law_353 : decode bc_L_law 353 = .ok (.aload_n 0, 1) := by decide +kernel
theorem dc_L_law_354 : decode bc_L_law 354 = .ok (.iload_n 3, 1) := by decide +kernel
theorem dc_L_law_355 : decode bc_L_law 355 = .ok (.iconst 1, 1) := by decide +kernel
theorem dc_L_law_356 : decode bc_L_law 356 = .ok (.iadd, 1) := by decide +kernel
theorem dc_L_law_357 : decode bc_L_law 357 = .ok (.iaload, 1) := by decide +kernel
theorem dc_L_law_358 : decode bc_L_law 358 = .ok (.aload_n 0, 1) := by decide +kernel
theorem dc_L_law_359 : decode bc_L_law 359 = .ok (.iload_n 3, 1) := by decide +kernel
theorem dc_L_law_360 : decode bc_L_law 360 = .ok (.iconst 2, 1) := by decide +kernel
theorem dc_L_law_361 : decode bc_L_law 361 = .ok (.iadd, 1) := by decide +kernel
theorem dc_L_law_362 : decode bc_L_law 362 = .ok (.iaload, 1) := by decide +kernel
theorem dc_L_law_363 : decode bc_L_law 363 = .ok (.invokevirtual 48, 3) := by decide +kernel
theorem dc_L_law_366 : decode bc_L_law 366 = .ok (.aload_n 2, 1) := by decide +kernel
theorem dc_L_law_367 : decode bc_L_law 367 = .ok (.aload_n 0, 1) := by decide +kernel
theorem dc_L_law_368 : decode bc_L_law 368 = .ok (.iload_n 3, 1) := by decide +kernel
theorem dc_L_law_369 : decode bc_L_law 369 = .ok (.iconst 1, 1) := by decide +kernel
theorem dc_L_law_370 : decode bc_L_law 370 = .ok (.iadd, 1) := by decide +kernel
theorem dc_L_law_371 : decode bc_L_law 371 = .ok (.iaload, 1) := by decide +kernel
theorem dc_L_law_372 : decode bc_L_law 372 = .ok (.aload_n 0, 1) := by decide +kernel
theorem dc_L_law_373 : decode bc_L_law 373 = .ok (.iload_n 3, 1) := by decide +kernel
theorem dc_L_law_374 : decode bc_L_law 374 = .ok (.iconst 2, 1) := by decide +kernel
theorem dc_L_law_375 : decode bc_L_law 375 = .ok (.iadd, 1) := by decide +kernel
theorem dc_L_law_376 : decode bc_L_law 376 = .ok (.iaload, 1) := by decide +kernel
theorem dc_L_law_377 : decode bc_L_law 377 = .ok (.invokevirtual 51, 3) := by decide +kernel
theorem dc_L_law_380 : decode bc_L_law 380 = .ok (.if_icmp .eq 90, 3) := by decide +kernel
theorem dc_L_law_383 : decode bc_L_law 383 = .ok (.iconst 0, 1) := by decide +kernel
theorem dc_L_law_384 : decode bc_L_law 384 = .ok (.ireturn, 1) := by decide +kernel
theorem dc_L_law_385 : decode bc_L_law 385 = .ok (.aload_n 1, 1) := by decide +kernel
theorem dc_L_law_386 : decode bc_L_law 386 = .ok (.aload_n 0, 1) := by decide +kernel
theorem dc_L_law_387 : decode bc_L_law 387 = .ok (.iload_n 3, 1) := by decide +kernel
theorem dc_L_law_388 : decode bc_L_law 388 = .ok (.iconst 1, 1) := by decide +kernel
theorem dc_L_law_389 : decode bc_L_law 389 = .ok (.iadd, 1) := by decide +kernel
theorem dc_L_law_390 : decode bc_L_law 390 = .ok (.iaload, 1) := by decide +kernel
theorem dc_L_law_391 : decode bc_L_law 391 = .ok (.invokevirtual 52, 3) := by decide +kernel
theorem dc_L_law_394 : decode bc_L_law 394 = .ok (.aload_n 2, 1) := by decide +kernel
theorem dc_L_law_395 : decode bc_L_law 395 = .ok (.aload_n 0, 1) := by decide +kernel
theorem dc_L_law_396 : decode bc_L_law 396 = .ok (.iload_n 3, 1) := by decide +kernel
theorem dc_L_law_397 : decode bc_L_law 397 = .ok (.iconst 1, 1) := by decide +kernel
theorem dc_L_law_398 : decode bc_L_law 398 = .ok (.iadd, 1) := by decide +kernel
theorem dc_L_law_399 : decode bc_L_law 399 = .ok (.iaload, 1) := by decide +kernel
theorem dc_L_law_400 : decode bc_L_law 400 = .ok (.invokevirtual 56, 3) := by decide +kernel
theorem dc_L_law_403 : decode bc_L_law 403 = .ok (.if_icmp .eq 67, 3) := by decide +kernel
theorem dc_L_law_406 : decode bc_L_law 406 = .ok (.iconst 0, 1) := by decide +kernel
theorem dc_L_law_407 : decode bc_L_law 407 = .ok (.ireturn, 1) := by decide +kernel
theorem dc_L_law_408 : decode bc_L_law 408 = .ok (.aload_n 1, 1) := by decide +kernel
theorem dc_L_law_409 : decode bc_L_law 409 = .ok (.invokevirtual 57, 3) := by decide +kernel
theorem dc_L_law_412 : decode bc_L_law 412 = .ok (.aload_n 2, 1) := by decide +kernel
theorem dc_L_law_413 : decode bc_L_law 413 = .ok (.invokevirtual 61, 3) := by decide +kernel
theorem dc_L_law_416 : decode bc_L_law 416 = .ok (.if_icmp .eq 54, 3) := by decide +kernel
theorem dc_L_law_419 : decode bc_L_law 419 = .ok (.iconst 0, 1) := by decide +kernel
theorem dc_L_law_420 : decode bc_L_law 420 = .ok (.ireturn, 1) := by decide +kernel
theorem dc_L_law_421 : decode bc_L_law 421 = .ok (.aload_n 1, 1) := by decide +kernel
theorem dc_L_law_422 : decode bc_L_law 422 = .ok (.invokevirtual 62, 3) := by decide +kernel
theorem dc_L_law_425 : decode bc_L_law 425 = .ok (.aload_n 2, 1) := by decide +kernel
theorem dc_L_law_426 : decode bc_L_law 426 = .ok (.invokevirtual 65, 3) := by decide +kernel
theorem dc_L_law_429 : decode bc_L_law 429 = .ok (.if_icmp .eq 41, 3) := by decide +kernel
theorem dc_L_law_432 : decode bc_L_law 432 = .ok (.iconst 0, 1) := by decide +kernel
theorem dc_L_law_433 : decode bc_L_law 433 = .ok (.ireturn, 1) := by decide +kernel
theorem dc_L_law_434 : decode bc_L_law 434 = .ok (.aload_n 1, 1) := by decide +kernel
theorem dc_L_law_435 : decode bc_L_law 435 = .ok (.aload_n 0, 1) := by decide +kernel
theorem dc_L_law_436 : decode bc_L_law 436 = .ok (.iload_n 3, 1) := by decide +kernel
theorem dc_L_law_437 : decode bc_L_law 437 = .ok (.iconst 1, 1) := by decide +kernel
theorem dc_L_law_438 : decode bc_L_law 438 = .ok (.iadd, 1) := by decide +kernel
theorem dc_L_law_439 : decode bc_L_law 439 = .ok (.iaload, 1) := by decide +kernel
theorem dc_L_law_440 : decode bc_L_law 440 = .ok (.invokevirtual 66, 3) := by decide +kernel
theorem dc_L_law_443 : decode bc_L_law 443 = .ok (.aload_n 2, 1) := by decide +kernel
theorem dc_L_law_444 : decode bc_L_law 444 = .ok (.aload_n 0, 1) := by decide +kernel
theorem dc_L_law_445 : decode bc_L_law 445 = .ok (.iload_n 3, 1) := by decide +kernel
theorem dc_L_law_446 : decode bc_L_law 446 = .ok (.iconst 1, 1) := by decide +kernel
theorem dc_L_law_447 : decode bc_L_law 447 = .ok (.iadd, 1) := by decide +kernel
theorem dc_L_law_448 : decode bc_L_law 448 = .ok (.iaload, 1) := by decide +kernel
theorem dc_L_law_449 : decode bc_L_law 449 = .ok (.invokevirtual 69, 3) := by decide +kernel
theorem dc_L_law_452 : decode bc_L_law 452 = .ok (.if_icmp .eq 18, 3) := by decide +kernel
theorem dc_L_law_455 : decode bc_L_law 455 = .ok (.iconst 0, 1) := by decide +kernel
theorem dc_L_law_456 : decode bc_L_law 456 = .ok (.ireturn, 1) := by decide +kernel
theorem dc_L_law_457 : decode bc_L_law 457 = .ok (.aload_n 1, 1) := by decide +kernel
theorem dc_L_law_458 : decode bc_L_law 458 = .ok (.invokevirtual 70, 3) := by decide +kernel
theorem dc_L_law_461 : decode bc_L_law 461 = .ok (.aload_n 2, 1) := by decide +kernel
theorem dc_L_law_462 : decode bc_L_law 462 = .ok (.invokevirtual 73, 3) := by decide +kernel
theorem dc_L_law_465 : decode bc_L_law 465 = .ok (.if_icmp .eq 5, 3) := by decide +kernel
theorem dc_L_law_468 : decode bc_L_law 468 = .ok (.iconst 0, 1) := by decide +kernel
theorem dc_L_law_469 : decode bc_L_law 469 = .ok (.ireturn, 1) := by decide +kernel
theorem dc_L_law_470 : decode bc_L_law 470 = .ok (.iinc 3 6, 3) := by decide +kernel
theorem dc_L_law_473 : decode bc_L_law 473 = .ok (.goto (-445), 3) := by decide +kernel
theorem dc_L_law_476 : decode bc_L_law 476 = .ok (.iconst 1, 1) := by decide +kernel
theorem dc_L_law_477 : decode bc_L_law 477 = .ok (.ireturn, 1) := by decide +kernel
