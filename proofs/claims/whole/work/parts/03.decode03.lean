theorem dc_T_fill_98 : decode bc_T_fill 98 = .ok (.iload_n 3, 1) := by decide +kernel
theorem dc_T_fill_99 : decode bc_T_fill 99 = .ok (.aload_n 0, 1) := by decide +kernel
theorem dc_T_fill_100 : decode bc_T_fill 100 = .ok (.getfield 9, 3) := by decide +kernel
theorem dc_T_fill_103 : decode bc_T_fill 103 = .ok (.iload_n 3, 1) := by decide +kernel
theorem dc_T_fill_104 : decode bc_T_fill 104 = .ok (.invokevirtual 48, 3) := by decide +kernel
theorem dc_T_fill_107 : decode bc_T_fill 107 = .ok (.invokevirtual 108, 3) := by decide +kernel
theorem dc_T_fill_110 : decode bc_T_fill 110 = .ok (.goto 21, 3) := by decide +kernel
theorem dc_T_fill_42 : decode bc_T_fill 42 = .ok (.aload_n 0, 1) := by decide +kernel
theorem dc_T_fill_43 : decode bc_T_fill 43 = .ok (.getfield 9, 3) := by decide +kernel
theorem dc_T_fill_46 : decode bc_T_fill 46 = .ok (.iload 4, 2) := by decide +kernel
theorem dc_T_fill_48 : decode bc_T_fill 48 = .ok (.iconst 0, 1) := by decide +kernel
theorem dc_T_fill_49 : decode bc_T_fill 49 = .ok (.iload_n 3, 1) := by decide +kernel
theorem dc_T_fill_50 : decode bc_T_fill 50 = .ok (.invokevirtual 89, 3) := by decide +kernel
theorem dc_T_fill_53 : decode bc_T_fill 53 = .ok (.aload_n 0, 1) := by decide +kernel
theorem dc_T_fill_54 : decode bc_T_fill 54 = .ok (.getfield 9, 3) := by decide +kernel
theorem dc_T_fill_57 : decode bc_T_fill 57 = .ok (.iload 4, 2) := by decide +kernel
theorem dc_T_fill_59 : decode bc_T_fill 59 = .ok (.invokevirtual 104, 3) := by decide +kernel
theorem dc_T_fill_62 : decode bc_T_fill 62 = .ok (.aload_n 0, 1) := by decide +kernel
theorem dc_T_fill_63 : decode bc_T_fill 63 = .ok (.getfield 9, 3) := by decide +kernel
theorem dc_T_fill_66 : decode bc_T_fill 66 = .ok (.iload_n 1, 1) := by decide +kernel
theorem dc_T_fill_67 : decode bc_T_fill 67 = .ok (.iload_n 2, 1) := by decide +kernel
theorem dc_T_fill_68 : decode bc_T_fill 68 = .ok (.iconst 1, 1) := by decide +kernel
theorem dc_T_fill_69 : decode bc_T_fill 69 = .ok (.iadd, 1) := by decide +kernel
theorem dc_T_fill_70 : decode bc_T_fill 70 = .ok (.invokevirtual 98, 3) := by decide +kernel
theorem dc_T_fill_73 : decode bc_T_fill 73 = .ok (.return_, 1) := by decide +kernel
theorem dc_T_moveEntry_0 : decode bc_T_moveEntry 0 = .ok (.aload_n 0, 1) := by decide +kernel
theorem dc_T_moveEntry_1 : decode bc_T_moveEntry 1 = .ok (.getfield 9, 3) := by decide +kernel
theorem dc_T_moveEntry_4 : decode bc_T_moveEntry 4 = .ok (.iload_n 3, 1) := by decide +kernel
theorem dc_T_moveEntry_5 : decode bc_T_moveEntry 5 = .ok (.iload 4, 2) := by decide +kernel
theorem dc_T_moveEntry_7 : decode bc_T_moveEntry 7 = .ok (.aload_n 0, 1) := by decide +kernel
theorem dc_T_moveEntry_8 : decode bc_T_moveEntry 8 = .ok (.getfield 9, 3) := by decide +kernel
theorem dc_T_moveEntry_11 : decode bc_T_moveEntry 11 = .ok (.iload_n 1, 1) := by decide +kernel
theorem dc_T_moveEntry_12 : decode bc_T_moveEntry 12 = .ok (.iload_n 2, 1) := by decide +kernel
theorem dc_T_moveEntry_13 : decode bc_T_moveEntry 13 = .ok (.invokevirtual 41, 3) := by decide +kernel
theorem dc_T_moveEntry_16 : decode bc_T_moveEntry 16 = .ok (.aload_n 0, 1) := by decide +kernel
theorem dc_T_moveEntry_17 : decode bc_T_moveEntry 17 = .ok (.getfield 9, 3) := by decide +kernel
theorem dc_T_moveEntry_20 : decode bc_T_moveEntry 20 = .ok (.iload_n 1, 1) := by decide +kernel
theorem dc_T_moveEntry_21 : decode bc_T_moveEntry 21 = .ok (.iload_n 2, 1) := by decide +kernel
theorem dc_T_moveEntry_22 : decode bc_T_moveEntry 22 = .ok (.invokevirtual 35, 3) := by decide +kernel
theorem dc_T_moveEntry_25 : decode bc_T_moveEntry 25 = .ok (.invokevirtual 86, 3) := by decide +kernel
theorem dc_T_moveEntry_28 : decode bc_T_moveEntry 28 = .ok (.aload_n 0, 1) := by decide +kernel
theorem dc_T_moveEntry_29 : decode bc_T_moveEntry 29 = .ok (.getfield 9, 3) := by decide +kernel
theorem dc_T_moveEntry_32 : decode bc_T_moveEntry 32 = .ok (.iload_n 1, 1) := by decide +kernel
theorem dc_T_moveEntry_33 : decode bc_T_moveEntry 33 = .ok (.iload_n 2, 1) := by decide +kernel
theorem dc_T_moveEntry_34 : decode bc_T_moveEntry 34 = .ok (.invokevirtual 98, 3) := by decide +kernel
theorem dc_T_moveEntry_37 : decode bc_T_moveEntry 37 = .ok (.return_, 1) := by decide +kernel
theorem dc_B_remove_0 : decode bc_B_remove 0 = .ok (.aload_n 0, 1) := by decide +kernel
theorem dc_B_remove_1 : decode bc_B_remove 1 = .ok (.iload_n 1, 1) := by decide +kernel
theorem dc_B_remove_2 : decode bc_B_remove 2 = .ok (.invokevirtual 45, 3) := by decide +kernel
theorem dc_B_remove_5 : decode bc_B_remove 5 = .ok (.istore_n 3, 1) := by decide +kernel
theorem dc_B_remove_6 : decode bc_B_remove 6 = .ok (.aload_n 0, 1) := by decide +kernel
theorem dc_B_remove_7 : decode bc_B_remove 7 = .ok (.iload_n 1, 1) := by decide +kernel
theorem dc_B_remove_8 : decode bc_B_remove 8 = .ok (.iload_n 2, 1) := by decide +kernel
theorem dc_B_remove_9 : decode bc_B_remove 9 = .ok (.invokevirtual 41, 3) := by decide +kernel
theorem dc_B_remove_12 : decode bc_B_remove 12 = .ok (.ifCond .eq 11, 3) := by decide +kernel
theorem dc_B_remove_23 : decode bc_B_remove 23 = .ok (.return_, 1) := by decide +kernel
theorem dc_B_remove_15 : decode bc_B_remove 15 = .ok (.iload_n 3, 1) := by decide +kernel
theorem dc_B_remove_16 : decode bc_B_remove 16 = .ok (.aload_n 0, 1) := by decide +kernel
theorem dc_B_remove_17 : decode bc_B_remove 17 = .ok (.getfield 28, 3) := by decide +kernel
theorem dc_B_remove_20 : decode bc_B_remove 20 = .ok (.if_icmp .le 4, 3) := by decide +kernel
theorem dc_B_remove_24 : decode bc_B_remove 24 = .ok (.iload_n 1, 1) := by decide +kernel
theorem dc_B_remove_25 : decode bc_B_remove 25 = .ok (.aload_n 0, 1) := by decide +kernel
theorem dc_B_remove_26 : decode bc_B_remove 26 = .ok (.getfield 28, 3) := by decide +kernel
theorem dc_B_remove_29 : decode bc_B_remove 29 = .ok (.imul, 1) := by decide +kernel
theorem dc_B_remove_30 : decode bc_B_remove 30 = .ok (.iload_n 2, 1) := by decide +kernel
theorem dc_B_remove_31 : decode bc_B_remove 31 = .ok (.iadd, 1) := by decide +kernel
theorem dc_B_remove_32 : decode bc_B_remove 32 = .ok (.istore 4, 2) := by decide +kernel
theorem dc_B_remove_34 : decode bc_B_remove 34 = .ok (.aload_n 0, 1) := by decide +kernel
theorem dc_B_remove_35 : decode bc_B_remove 35 = .ok (.getfield 31, 3) := by decide +kernel
theorem dc_B_remove_38 : decode bc_B_remove 38 = .ok (.iload 4, 2) := by decide +kernel
theorem dc_B_remove_40 : decode bc_B_remove 40 = .ok (.iconst 1, 1) := by decide +kernel
theorem dc_B_remove_41 : decode bc_B_remove 41 = .ok (.iadd, 1) := by decide +kernel
theorem dc_B_remove_42 : decode bc_B_remove 42 = .ok (.aload_n 0, 1) := by decide +kernel
theorem dc_B_remove_43 : decode bc_B_remove 43 = .ok (.getfield 31, 3) := by decide +kernel
theorem dc_B_remove_46 : decode bc_B_remove 46 = .ok (.iload 4, 2) := by decide +kernel
theorem dc_B_remove_48 : decode bc_B_remove 48 = .ok (.iload_n 3, 1) := by decide +kernel
theorem dc_B_remove_49 : decode bc_B_remove 49 = .ok (.iload_n 2, 1) := by decide +kernel
theorem dc_B_remove_50 : decode bc_B_remove 50 = .ok (.isub, 1) := by decide +kernel
theorem dc_B_remove_51 : decode bc_B_remove 51 = .ok (.iconst 1, 1) := by decide +kernel
theorem dc_B_remove_52 : decode bc_B_remove 52 = .ok (.isub, 1) := by decide +kernel
theorem dc_B_remove_53 : decode bc_B_remove 53 = .ok (.invokestatic 77, 3) := by decide +kernel
theorem dc_B_remove_56 : decode bc_B_remove 56 = .ok (.aload_n 0, 1) := by decide +kernel
theorem dc_B_remove_57 : decode bc_B_remove 57 = .ok (.getfield 34, 3) := by decide +kernel
theorem dc_B_remove_60 : decode bc_B_remove 60 = .ok (.iload 4, 2) := by decide +kernel
theorem dc_B_remove_62 : decode bc_B_remove 62 = .ok (.iconst 1, 1) := by decide +kernel
theorem dc_B_remove_63 : decode bc_B_remove 63 = .ok (.iadd, 1) := by decide +kernel
theorem dc_B_remove_64 : decode bc_B_remove 64 = .ok (.aload_n 0, 1) := by decide +kernel
theorem dc_B_remove_65 : decode bc_B_remove 65 = .ok (.getfield 34, 3) := by decide +kernel
theorem dc_B_remove_68 : decode bc_B_remove 68 = .ok (.iload 4, 2) := by decide +kernel
theorem dc_B_remove_70 : decode bc_B_remove 70 = .ok (.iload_n 3, 1) := by decide +kernel
theorem dc_B_remove_71 : decode bc_B_remove 71 = .ok (.iload_n 2, 1) := by decide +kernel
theorem dc_B_remove_72 : decode bc_B_remove 72 = .ok (.isub, 1) := by decide +kernel
theorem dc_B_remove_73 : decode bc_B_remove 73 = .ok (.iconst 1, 1) := by decide +kernel
theorem dc_B_remove_74 : decode bc_B_remove 74 = .ok (.isub, 1) := by decide +kernel
theorem dc_B_remove_75 : decode bc_B_remove 75 = .ok (.invokestatic 77, 3) := by decide +kernel
theorem dc_B_remove_78 : decode bc_B_remove 78 = .ok (.aload_n 0, 1) := by decide +kernel
theorem dc_B_remove_79 : decode bc_B_remove 79 = .ok (.getfield 18, 3) := by decide +kernel
theorem dc_B_remove_82 : decode bc_B_remove 82 = .ok (.iload_n 1, 1) := by decide +kernel
theorem dc_B_remove_83 : decode bc_B_remove 83 = .ok (.iload_n 3, 1) := by decide +kernel
theorem dc_B_remove_84 : decode bc_B_remove 84 = .ok (.iconst 1, 1) := by decide +kernel
theorem dc_B_remove_85 : decode bc_B_remove 85 = .ok (.isub, 1) := by decide +kernel
theorem dc_B_remove_86 : decode bc_B_remove 86 = .ok (.iastore, 1) := by decide +kernel
theorem dc_B_remove_87 : decode bc_B_remove 87 = .ok (.return_, 1) := by decide +kernel
theorem dc_B_give_0 : decode bc_B_give 0 = .ok (.aload_n 0, 1) := by decide +kernel
theorem dc_B_give_1 : decode bc_B_give 1 = .ok (.iload_n 1, 1) := by decide +kernel
theorem dc_B_give_2 : decode bc_B_give 2 = .ok (.invokevirtual 37, 3) := by decide +kernel
theorem dc_B_give_5 : decode bc_B_give 5 = .ok (.ifCond .eq 61, 3) := by decide +kernel
theorem dc_B_give_66 : decode bc_B_give 66 = .ok (.return_, 1) := by decide +kernel
theorem dc_B_give_8 : decode bc_B_give 8 = .ok (.aload_n 0, 1) := by decide +kernel
theorem dc_B_give_9 : decode bc_B_give 9 = .ok (.getfield 24, 3) := by decide +kernel
theorem dc_B_give_12 : decode bc_B_give 12 = .ok (.ifCond .lt 54, 3) := by decide +kernel
theorem dc_B_give_15 : decode bc_B_give 15 = .ok (.aload_n 0, 1) := by decide +kernel
theorem dc_B_give_16 : decode bc_B_give 16 = .ok (.getfield 24, 3) := by decide +kernel
theorem dc_B_give_19 : decode bc_B_give 19 = .ok (.sipush 1200, 3) := by decide +kernel
theorem dc_B_give_22 : decode bc_B_give 22 = .ok (.if_icmp .ge 44, 3) := by decide +kernel
theorem dc_B_give_25 : decode bc_B_give 25 = .ok (.aload_n 0, 1) := by decide +kernel
theorem dc_B_give_26 : decode bc_B_give 26 = .ok (.getfield 9, 3) := by decide +kernel
theorem dc_B_give_29 : decode bc_B_give 29 = .ok (.iload_n 1, 1) := by decide +kernel
theorem dc_B_give_30 : decode bc_B_give 30 = .ok (.iconst 0, 1) := by decide +kernel
theorem dc_B_give_31 : decode bc_B_give 31 = .ok (.iastore, 1) := by decide +kernel
theorem dc_B_give_32 : decode bc_B_give 32 = .ok (.aload_n 0, 1) := by decide +kernel
theorem dc_B_give_33 : decode bc_B_give 33 = .ok (.getfield 15, 3) := by decide +kernel
theorem dc_B_give_36 : decode bc_B_give 36 = .ok (.iload_n 1, 1) := by decide +kernel
theorem dc_B_give_37 : decode bc_B_give 37 = .ok (.iconst 0, 1) := by decide +kernel
theorem dc_B_give_38 : decode bc_B_give 38 = .ok (.iastore, 1) := by decide +kernel
theorem dc_B_give_39 : decode bc_B_give 39 = .ok (.aload_n 0, 1) := by decide +kernel
theorem dc_B_give_40 : decode bc_B_give 40 = .ok (.getfield 18, 3) := by decide +kernel
theorem dc_B_give_43 : decode bc_B_give 43 = .ok (.iload_n 1, 1) := by decide +kernel
theorem dc_B_give_44 : decode bc_B_give 44 = .ok (.iconst 0, 1) := by decide +kernel
theorem dc_B_give_45 : decode bc_B_give 45 = .ok (.iastore, 1) := by decide +kernel
theorem dc_B_give_46 : decode bc_B_give 46 = .ok (.aload_n 0, 1) := by decide +kernel
theorem dc_B_give_47 : decode bc_B_give 47 = .ok (.getfield 21, 3) := by decide +kernel
theorem dc_B_give_50 : decode bc_B_give 50 = .ok (.aload_n 0, 1) := by decide +kernel
theorem dc_B_give_51 : decode bc_B_give 51 = .ok (.getfield 24, 3) := by decide +kernel
theorem dc_B_give_54 : decode bc_B_give 54 = .ok (.iload_n 1, 1) := by decide +kernel
theorem dc_B_give_55 : decode bc_B_give 55 = .ok (.iastore, 1) := by decide +kernel
theorem dc_B_give_56 : decode bc_B_give 56 = .ok (.aload_n 0, 1) := by decide +kernel
theorem dc_B_give_57 : decode bc_B_give 57 = .ok (.dup, 1) := by decide +kernel
theorem dc_B_give_58 : decode bc_B_give 58 = .ok (.getfield 24, 3) := by decide +kernel
theorem dc_B_give_61 : decode bc_B_give 61 = .ok (.iconst 1, 1) := by decide +kernel
theorem dc_B_give_62 : decode bc_B_give 62 = .ok (.iadd, 1) := by decide +kernel
theorem dc_B_give_63 : decode bc_B_give 63 = .ok (.putfield 24, 3) := by decide +kernel
theorem dc_T_shrunk_0 : decode bc_T_shrunk 0 = .ok (.aload_n 0, 1) := by decide +kernel
theorem dc_T_shrunk_1 : decode bc_T_shrunk 1 = .ok (.getfield 9, 3) := by decide +kernel
theorem dc_T_shrunk_4 : decode bc_T_shrunk 4 = .ok (.iload_n 1, 1) := by decide +kernel
theorem dc_T_shrunk_5 : decode bc_T_shrunk 5 = .ok (.invokevirtual 48, 3) := by decide +kernel
theorem dc_T_shrunk_8 : decode bc_T_shrunk 8 = .ok (.ifCond .ne 13, 3) := by decide +kernel
theorem dc_T_shrunk_21 : decode bc_T_shrunk 21 = .ok (.aload_n 0, 1) := by decide +kernel
theorem dc_T_shrunk_22 : decode bc_T_shrunk 22 = .ok (.getfield 9, 3) := by decide +kernel
theorem dc_T_shrunk_25 : decode bc_T_shrunk 25 = .ok (.iload_n 1, 1) := by decide +kernel
theorem dc_T_shrunk_26 : decode bc_T_shrunk 26 = .ok (.invokevirtual 26, 3) := by decide +kernel
theorem dc_T_shrunk_29 : decode bc_T_shrunk 29 = .ok (.ifCond .le 35, 3) := by decide +kernel
theorem dc_T_shrunk_64 : decode bc_T_shrunk 64 = .ok (.iload_n 1, 1) := by decide +kernel
theorem dc_T_shrunk_65 : decode bc_T_shrunk 65 = .ok (.ireturn, 1) := by decide +kernel
theorem dc_T_shrunk_32 : decode bc_T_shrunk 32 = .ok (.aload_n 0, 1) := by decide +kernel
theorem dc_T_shrunk_33 : decode bc_T_shrunk 33 = .ok (.getfield 9, 3) := by decide +kernel
theorem dc_T_shrunk_36 : decode bc_T_shrunk 36 = .ok (.iload_n 1, 1) := by decide +kernel
theorem dc_T_shrunk_37 : decode bc_T_shrunk 37 = .ok (.invokevirtual 48, 3) := by decide +kernel
theorem dc_T_shrunk_40 : decode bc_T_shrunk 40 = .ok (.iconst 1, 1) := by decide +kernel
theorem dc_T_shrunk_41 : decode bc_T_shrunk 41 = .ok (.if_icmp .ne 23, 3) := by decide +kernel
theorem dc_T_shrunk_44 : decode bc_T_shrunk 44 = .ok (.aload_n 0, 1) := by decide +kernel
theorem dc_T_shrunk_45 : decode bc_T_shrunk 45 = .ok (.getfield 9, 3) := by decide +kernel
theorem dc_T_shrunk_48 : decode bc_T_shrunk 48 = .ok (.iload_n 1, 1) := by decide +kernel
theorem dc_T_shrunk_49 : decode bc_T_shrunk 49 = .ok (.iconst 0, 1) := by decide +kernel
theorem dc_T_shrunk_50 : decode bc_T_shrunk 50 = .ok (.invokevirtual 35, 3) := by decide +kernel
theorem dc_T_shrunk_53 : decode bc_T_shrunk 53 = .ok (.istore_n 2, 1) := by decide +kernel
theorem dc_T_shrunk_54 : decode bc_T_shrunk 54 = .ok (.aload_n 0, 1) := by decide +kernel
theorem dc_T_shrunk_55 : decode bc_T_shrunk 55 = .ok (.getfield 9, 3) := by decide +kernel
theorem dc_T_shrunk_58 : decode bc_T_shrunk 58 = .ok (.iload_n 1, 1) := by decide +kernel
theorem dc_T_shrunk_59 : decode bc_T_shrunk 59 = .ok (.invokevirtual 104, 3) := by decide +kernel
theorem dc_T_shrunk_62 : decode bc_T_shrunk 62 = .ok (.iload_n 2, 1) := by decide +kernel
theorem dc_T_shrunk_63 : decode bc_T_shrunk 63 = .ok (.ireturn, 1) := by decide +kernel
theorem dc_T_shrunk_11 : decode bc_T_shrunk 11 = .ok (.aload_n 0, 1) := by decide +kernel
theorem dc_T_shrunk_12 : decode bc_T_shrunk 12 = .ok (.getfield 9, 3) := by decide +kernel
theorem dc_T_shrunk_15 : decode bc_T_shrunk 15 = .ok (.iload_n 1, 1) := by decide +kernel
theorem dc_T_shrunk_16 : decode bc_T_shrunk 16 = .ok (.invokevirtual 104, 3) := by decide +kernel
theorem dc_T_shrunk_19 : decode bc_T_shrunk 19 = .ok (.iconst 0, 1) := by decide +kernel
theorem dc_T_shrunk_20 : decode bc_T_shrunk 20 = .ok (.ireturn, 1) := by decide +kernel
theorem dc_R_erase_0 : decode bc_R_erase 0 = .ok (.aload_n 0, 1) := by decide +kernel
theorem dc_R_erase_1 : decode bc_R_erase 1 = .ok (.iload_n 1, 1) := by decide +kernel
theorem dc_R_erase_2 : decode bc_R_erase 2 = .ok (.iload_n 2, 1) := by decide +kernel
theorem dc_R_erase_3 : decode bc_R_erase 3 = .ok (.invokevirtual 42, 3) := by decide +kernel
theorem dc_R_erase_6 : decode bc_R_erase 6 = .ok (.istore_n 3, 1) := by decide +kernel
theorem dc_R_erase_7 : decode bc_R_erase 7 = .ok (.iload_n 3, 1) := by decide +kernel
theorem dc_R_erase_8 : decode bc_R_erase 8 = .ok (.ifCond .lt 26, 3) := by decide +kernel
theorem dc_R_erase_34 : decode bc_R_erase 34 = .ok (.iload_n 3, 1) := by decide +kernel
theorem dc_R_erase_35 : decode bc_R_erase 35 = .ok (.ireturn, 1) := by decide +kernel
theorem dc_R_erase_11 : decode bc_R_erase 11 = .ok (.aload_n 0, 1) := by decide +kernel
theorem dc_R_erase_12 : decode bc_R_erase 12 = .ok (.getfield 8, 3) := by decide +kernel
theorem dc_R_erase_15 : decode bc_R_erase 15 = .ok (.sipush 4096, 3) := by decide +kernel
theorem dc_R_erase_18 : decode bc_R_erase 18 = .ok (.iload_n 1, 1) := by decide +kernel
theorem dc_R_erase_19 : decode bc_R_erase 19 = .ok (.imul, 1) := by decide +kernel
theorem dc_R_erase_20 : decode bc_R_erase 20 = .ok (.iload_n 2, 1) := by decide +kernel
theorem dc_R_erase_21 : decode bc_R_erase 21 = .ok (.iadd, 1) := by decide +kernel
theorem dc_R_erase_22 : decode bc_R_erase 22 = .ok (.iconst 0, 1) := by decide +kernel
theorem dc_R_erase_23 : decode bc_R_erase 23 = .ok (.iastore, 1) := by decide +kernel
theorem dc_R_erase_24 : decode bc_R_erase 24 = .ok (.aload_n 0, 1) := by decide +kernel
theorem dc_R_erase_25 : decode bc_R_erase 25 = .ok (.getfield 17, 3) := by decide +kernel
theorem dc_R_erase_28 : decode bc_R_erase 28 = .ok (.iload_n 1, 1) := by decide +kernel
theorem dc_R_erase_29 : decode bc_R_erase 29 = .ok (.dup2, 1) := by decide +kernel
theorem dc_R_erase_30 : decode bc_R_erase 30 = .ok (.iaload, 1) := by decide +kernel
theorem dc_R_erase_31 : decode bc_R_erase 31 = .ok (.iconst 1, 1) := by decide +kernel
theorem dc_R_erase_32 : decode bc_R_erase 32 = .ok (.isub, 1) := by decide +kernel
theorem dc_R_erase_33 : decode bc_R_erase 33 = .ok (.iastore, 1) := by decide +kernel
theorem dc_S_cut_0 : decode bc_S_cut 0 = .ok (.iload_n 1, 1) := by decide +kernel
theorem dc_S_cut_1 : decode bc_S_cut 1 = .ok (.invokestatic 53, 3) := by decide +kernel
theorem dc_S_cut_4 : decode bc_S_cut 4 = .ok (.ifCond .eq 22, 3) := by decide +kernel
theorem dc_S_cut_26 : decode bc_S_cut 26 = .ok (.iconst (-1), 1) := by decide +kernel
theorem dc_S_cut_27 : decode bc_S_cut 27 = .ok (.ireturn, 1) := by decide +kernel
theorem dc_S_cut_7 : decode bc_S_cut 7 = .ok (.iload_n 2, 1) := by decide +kernel
theorem dc_S_cut_8 : decode bc_S_cut 8 = .ok (.invokestatic 57, 3) := by decide +kernel
theorem dc_S_cut_11 : decode bc_S_cut 11 = .ok (.ifCond .eq 15, 3) := by decide +kernel
theorem dc_S_cut_14 : decode bc_S_cut 14 = .ok (.iload_n 3, 1) := by decide +kernel
theorem dc_S_cut_15 : decode bc_S_cut 15 = .ok (.invokestatic 57, 3) := by decide +kernel
theorem dc_S_cut_18 : decode bc_S_cut 18 = .ok (.ifCond .eq 8, 3) := by decide +kernel
theorem dc_S_cut_21 : decode bc_S_cut 21 = .ok (.iload_n 3, 1) := by decide +kernel
theorem dc_S_cut_22 : decode bc_S_cut 22 = .ok (.iload_n 2, 1) := by decide +kernel
theorem dc_S_cut_23 : decode bc_S_cut 23 = .ok (.if_icmp .ge 5, 3) := by decide +kernel
theorem dc_S_cut_28 : decode bc_S_cut 28 = .ok (.iconst 0, 1) := by decide +kernel
theorem dc_S_cut_29 : decode bc_S_cut 29 = .ok (.istore 4, 2) := by decide +kernel
theorem dc_S_cut_31 : decode bc_S_cut 31 = .ok (.aload_n 0, 1) := by decide +kernel
theorem dc_S_cut_32 : decode bc_S_cut 32 = .ok (.getfield 32, 3) := by decide +kernel
theorem dc_S_cut_35 : decode bc_S_cut 35 = .ok (.aload_n 0, 1) := by decide +kernel
theorem dc_S_cut_36 : decode bc_S_cut 36 = .ok (.getfield 46, 3) := by decide +kernel
theorem dc_S_cut_39 : decode bc_S_cut 39 = .ok (.getfield 63, 3) := by decide +kernel
theorem dc_S_cut_42 : decode bc_S_cut 42 = .ok (.iload_n 1, 1) := by decide +kernel
theorem dc_S_cut_43 : decode bc_S_cut 43 = .ok (.iaload, 1) := by decide +kernel
theorem dc_S_cut_44 : decode bc_S_cut 44 = .ok (.iload_n 2, 1) := by decide +kernel
theorem dc_S_cut_45 : decode bc_S_cut 45 = .ok (.invokevirtual 91, 3) := by decide +kernel
theorem dc_S_cut_48 : decode bc_S_cut 48 = .ok (.istore 5, 2) := by decide +kernel
theorem dc_S_cut_50 : decode bc_S_cut 50 = .ok (.iload 4, 2) := by decide +kernel
theorem dc_S_cut_52 : decode bc_S_cut 52 = .ok (.sipush 600, 3) := by decide +kernel
theorem dc_S_cut_55 : decode bc_S_cut 55 = .ok (.if_icmp .ge 69, 3) := by decide +kernel
theorem dc_S_cut_124 : decode bc_S_cut 124 = .ok (.aload_n 0, 1) := by decide +kernel
theorem dc_S_cut_125 : decode bc_S_cut 125 = .ok (.getfield 46, 3) := by decide +kernel
theorem dc_S_cut_128 : decode bc_S_cut 128 = .ok (.iload_n 1, 1) := by decide +kernel
theorem dc_S_cut_129 : decode bc_S_cut 129 = .ok (.iload 4, 2) := by decide +kernel
theorem dc_S_cut_131 : decode bc_S_cut 131 = .ok (.ineg, 1) := by decide +kernel
theorem dc_S_cut_132 : decode bc_S_cut 132 = .ok (.invokestatic 78, 3) := by decide +kernel
theorem dc_S_cut_135 : decode bc_S_cut 135 = .ok (.iload 4, 2) := by decide +kernel
theorem dc_S_cut_137 : decode bc_S_cut 137 = .ok (.ireturn, 1) := by decide +kernel
theorem dc_S_cut_58 : decode bc_S_cut 58 = .ok (.iload 5, 2) := by decide +kernel
theorem dc_S_cut_60 : decode bc_S_cut 60 = .ok (.bipush (-2), 2) := by decide +kernel
theorem dc_S_cut_62 : decode bc_S_cut 62 = .ok (.if_icmp .eq 62, 3) := by decide +kernel
theorem dc_S_cut_65 : decode bc_S_cut 65 = .ok (.iload 5, 2) := by decide +kernel
theorem dc_S_cut_67 : decode bc_S_cut 67 = .ok (.iload_n 3, 1) := by decide +kernel
theorem dc_S_cut_68 : decode bc_S_cut 68 = .ok (.if_icmp .gt 56, 3) := by decide +kernel
theorem dc_S_cut_71 : decode bc_S_cut 71 = .ok (.aload_n 0, 1) := by decide +kernel
theorem dc_S_cut_72 : decode bc_S_cut 72 = .ok (.getfield 46, 3) := by decide +kernel
theorem dc_S_cut_75 : decode bc_S_cut 75 = .ok (.getfield 63, 3) := by decide +kernel
theorem dc_S_cut_78 : decode bc_S_cut 78 = .ok (.iload_n 1, 1) := by decide +kernel
theorem dc_S_cut_79 : decode bc_S_cut 79 = .ok (.aload_n 0, 1) := by decide +kernel
theorem dc_S_cut_80 : decode bc_S_cut 80 = .ok (.getfield 32, 3) := by decide +kernel
theorem dc_S_cut_83 : decode bc_S_cut 83 = .ok (.aload_n 0, 1) := by decide +kernel
theorem dc_S_cut_84 : decode bc_S_cut 84 = .ok (.getfield 46, 3) := by decide +kernel
theorem dc_S_cut_87 : decode bc_S_cut 87 = .ok (.getfield 63, 3) := by decide +kernel
theorem dc_S_cut_90 : decode bc_S_cut 90 = .ok (.iload_n 1, 1) := by decide +kernel
theorem dc_S_cut_91 : decode bc_S_cut 91 = .ok (.iaload, 1) := by decide +kernel
theorem dc_S_cut_92 : decode bc_S_cut 92 = .ok (.iload 5, 2) := by decide +kernel
theorem dc_S_cut_94 : decode bc_S_cut 94 = .ok (.invokevirtual 88, 3) := by decide +kernel
theorem dc_S_cut_97 : decode bc_S_cut 97 = .ok (.iastore, 1) := by decide +kernel
theorem dc_S_cut_98 : decode bc_S_cut 98 = .ok (.iinc 4 1, 3) := by decide +kernel
theorem dc_S_cut_101 : decode bc_S_cut 101 = .ok (.aload_n 0, 1) := by decide +kernel
theorem dc_S_cut_102 : decode bc_S_cut 102 = .ok (.getfield 32, 3) := by decide +kernel
theorem dc_S_cut_105 : decode bc_S_cut 105 = .ok (.aload_n 0, 1) := by decide +kernel
theorem dc_S_cut_106 : decode bc_S_cut 106 = .ok (.getfield 46, 3) := by decide +kernel
theorem dc_S_cut_109 : decode bc_S_cut 109 = .ok (.getfield 63, 3) := by decide +kernel
theorem dc_S_cut_112 : decode bc_S_cut 112 = .ok (.iload_n 1, 1) := by decide +kernel
theorem dc_S_cut_113 : decode bc_S_cut 113 = .ok (.iaload, 1) := by decide +kernel
theorem dc_S_cut_114 : decode bc_S_cut 114 = .ok (.iload 5, 2) := by decide +kernel
theorem dc_S_cut_116 : decode bc_S_cut 116 = .ok (.invokevirtual 91, 3) := by decide +kernel
theorem dc_S_cut_119 : decode bc_S_cut 119 = .ok (.istore 5, 2) := by decide +kernel
theorem dc_S_cut_121 : decode bc_S_cut 121 = .ok (.goto (-71), 3) := by decide +kernel
theorem dc_T_keyFrom_0 : decode bc_T_keyFrom 0 = .ok (.iload_n 1, 1) := by decide +kernel
theorem dc_T_keyFrom_1 : decode bc_T_keyFrom 1 = .ok (.istore_n 3, 1) := by decide +kernel
theorem dc_T_keyFrom_2 : decode bc_T_keyFrom 2 = .ok (.bipush (-2), 2) := by decide +kernel
theorem dc_T_keyFrom_4 : decode bc_T_keyFrom 4 = .ok (.istore 4, 2) := by decide +kernel
theorem dc_T_keyFrom_6 : decode bc_T_keyFrom 6 = .ok (.aload_n 0, 1) := by decide +kernel
theorem dc_T_keyFrom_7 : decode bc_T_keyFrom 7 = .ok (.getfield 9, 3) := by decide +kernel
theorem dc_T_keyFrom_10 : decode bc_T_keyFrom 10 = .ok (.iload_n 1, 1) := by decide +kernel
theorem dc_T_keyFrom_11 : decode bc_T_keyFrom 11 = .ok (.invokevirtual 26, 3) := by decide +kernel
theorem dc_T_keyFrom_14 : decode bc_T_keyFrom 14 = .ok (.istore 5, 2) := by decide +kernel
theorem dc_T_keyFrom_16 : decode bc_T_keyFrom 16 = .ok (.iload 5, 2) := by decide +kernel
theorem dc_T_keyFrom_18 : decode bc_T_keyFrom 18 = .ok (.ifCond .le 41, 3) := by decide +kernel
theorem dc_T_keyFrom_59 : decode bc_T_keyFrom 59 = .ok (.aload_n 0, 1) := by decide +kernel
theorem dc_T_keyFrom_60 : decode bc_T_keyFrom 60 = .ok (.getfield 9, 3) := by decide +kernel
theorem dc_T_keyFrom_63 : decode bc_T_keyFrom 63 = .ok (.iload_n 3, 1) := by decide +kernel
theorem dc_T_keyFrom_64 : decode bc_T_keyFrom 64 = .ok (.iload_n 2, 1) := by decide +kernel
theorem dc_T_keyFrom_65 : decode bc_T_keyFrom 65 = .ok (.invokevirtual 38, 3) := by decide +kernel
theorem dc_T_keyFrom_68 : decode bc_T_keyFrom 68 = .ok (.istore 5, 2) := by decide +kernel
theorem dc_T_keyFrom_70 : decode bc_T_keyFrom 70 = .ok (.aload_n 0, 1) := by decide +kernel
theorem dc_T_keyFrom_71 : decode bc_T_keyFrom 71 = .ok (.getfield 9, 3) := by decide +kernel
theorem dc_T_keyFrom_74 : decode bc_T_keyFrom 74 = .ok (.iload_n 3, 1) := by decide +kernel
theorem dc_T_keyFrom_75 : decode bc_T_keyFrom 75 = .ok (.iload 5, 2) := by decide +kernel
theorem dc_T_keyFrom_77 : decode bc_T_keyFrom 77 = .ok (.invokevirtual 41, 3) := by decide +kernel
theorem dc_T_keyFrom_80 : decode bc_T_keyFrom 80 = .ok (.iload_n 2, 1) := by decide +kernel
theorem dc_T_keyFrom_81 : decode bc_T_keyFrom 81 = .ok (.if_icmp .ne 7, 3) := by decide +kernel
theorem dc_T_keyFrom_88 : decode bc_T_keyFrom 88 = .ok (.aload_n 0, 1) := by decide +kernel
theorem dc_T_keyFrom_89 : decode bc_T_keyFrom 89 = .ok (.iload_n 3, 1) := by decide +kernel
theorem dc_T_keyFrom_90 : decode bc_T_keyFrom 90 = .ok (.iload 5, 2) := by decide +kernel
theorem dc_T_keyFrom_92 : decode bc_T_keyFrom 92 = .ok (.iconst 1, 1) := by decide +kernel
theorem dc_T_keyFrom_93 : decode bc_T_keyFrom 93 = .ok (.iadd, 1) := by decide +kernel
theorem dc_T_keyFrom_94 : decode bc_T_keyFrom 94 = .ok (.iload 4, 2) := by decide +kernel
theorem dc_T_keyFrom_96 : decode bc_T_keyFrom 96 = .ok (.invokevirtual 44, 3) := by decide +kernel
theorem dc_T_keyFrom_99 : decode bc_T_keyFrom 99 = .ok (.ireturn, 1) := by decide +kernel
theorem dc_T_keyFrom_84 : decode bc_T_keyFrom 84 = .ok (.iload_n 2, 1) := by decide +kernel
theorem dc_T_keyFrom_85 : decode bc_T_keyFrom 85 = .ok (.goto 14, 3) := by decide +kernel
theorem dc_T_keyFrom_21 : decode bc_T_keyFrom 21 = .ok (.aload_n 0, 1) := by decide +kernel
theorem dc_T_keyFrom_22 : decode bc_T_keyFrom 22 = .ok (.iload_n 3, 1) := by decide +kernel
theorem dc_T_keyFrom_23 : decode bc_T_keyFrom 23 = .ok (.iload_n 2, 1) := by decide +kernel
theorem dc_T_keyFrom_24 : decode bc_T_keyFrom 24 = .ok (.invokevirtual 31, 3) := by decide +kernel
theorem dc_T_keyFrom_27 : decode bc_T_keyFrom 27 = .ok (.istore 6, 2) := by decide +kernel
theorem dc_T_keyFrom_29 : decode bc_T_keyFrom 29 = .ok (.aload_n 0, 1) := by decide +kernel
theorem dc_T_keyFrom_30 : decode bc_T_keyFrom 30 = .ok (.iload_n 3, 1) := by decide +kernel
theorem dc_T_keyFrom_31 : decode bc_T_keyFrom 31 = .ok (.iload 6, 2) := by decide +kernel
theorem dc_T_keyFrom_33 : decode bc_T_keyFrom 33 = .ok (.iconst 1, 1) := by decide +kernel
theorem dc_T_keyFrom_34 : decode bc_T_keyFrom 34 = .ok (.iadd, 1) := by decide +kernel
theorem dc_T_keyFrom_35 : decode bc_T_keyFrom 35 = .ok (.iload 4, 2) := by decide +kernel
theorem dc_T_keyFrom_37 : decode bc_T_keyFrom 37 = .ok (.invokevirtual 44, 3) := by decide +kernel
theorem dc_T_keyFrom_40 : decode bc_T_keyFrom 40 = .ok (.istore 4, 2) := by decide +kernel
theorem dc_T_keyFrom_42 : decode bc_T_keyFrom 42 = .ok (.aload_n 0, 1) := by decide +kernel
theorem dc_T_keyFrom_43 : decode bc_T_keyFrom 43 = .ok (.getfield 9, 3) := by decide +kernel
theorem dc_T_keyFrom_46 : decode bc_T_keyFrom 46 = .ok (.iload_n 3, 1) := by decide +kernel
theorem dc_T_keyFrom_47 : decode bc_T_keyFrom 47 = .ok (.iload 6, 2) := by decide +kernel
theorem dc_T_keyFrom_49 : decode bc_T_keyFrom 49 = .ok (.invokevirtual 35, 3) := by decide +kernel
theorem dc_T_keyFrom_52 : decode bc_T_keyFrom 52 = .ok (.istore_n 3, 1) := by decide +kernel
theorem dc_T_keyFrom_53 : decode bc_T_keyFrom 53 = .ok (.iinc 5 (-1), 3) := by decide +kernel
theorem dc_T_keyFrom_56 : decode bc_T_keyFrom 56 = .ok (.goto (-40), 3) := by decide +kernel
theorem dc_T_keyOr_0 : decode bc_T_keyOr 0 = .ok (.iload_n 2, 1) := by decide +kernel
theorem dc_T_keyOr_1 : decode bc_T_keyOr 1 = .ok (.aload_n 0, 1) := by decide +kernel
theorem dc_T_keyOr_2 : decode bc_T_keyOr 2 = .ok (.getfield 9, 3) := by decide +kernel
theorem dc_T_keyOr_5 : decode bc_T_keyOr 5 = .ok (.iload_n 1, 1) := by decide +kernel
theorem dc_T_keyOr_6 : decode bc_T_keyOr 6 = .ok (.invokevirtual 48, 3) := by decide +kernel
theorem dc_T_keyOr_9 : decode bc_T_keyOr 9 = .ok (.if_icmp .ge 15, 3) := by decide +kernel
theorem dc_T_keyOr_24 : decode bc_T_keyOr 24 = .ok (.iload_n 3, 1) := by decide +kernel
theorem dc_T_keyOr_25 : decode bc_T_keyOr 25 = .ok (.ireturn, 1) := by decide +kernel
theorem dc_T_keyOr_12 : decode bc_T_keyOr 12 = .ok (.aload_n 0, 1) := by decide +kernel
theorem dc_T_keyOr_13 : decode bc_T_keyOr 13 = .ok (.getfield 9, 3) := by decide +kernel
theorem dc_T_keyOr_16 : decode bc_T_keyOr 16 = .ok (.iload_n 1, 1) := by decide +kernel
theorem dc_T_keyOr_17 : decode bc_T_keyOr 17 = .ok (.iload_n 2, 1) := by decide +kernel
theorem dc_T_keyOr_18 : decode bc_T_keyOr 18 = .ok (.invokevirtual 41, 3) := by decide +kernel
theorem dc_T_keyOr_21 : decode bc_T_keyOr 21 = .ok (.goto 4, 3) := by decide +kernel
theorem dc_R_cut_0 : decode bc_R_cut 0 = .ok (.iload_n 1, 1) := by decide +kernel
theorem dc_R_cut_1 : decode bc_R_cut 1 = .ok (.invokestatic 24, 3) := by decide +kernel
theorem dc_R_cut_4 : decode bc_R_cut 4 = .ok (.ifCond .eq 22, 3) := by decide +kernel
theorem dc_R_cut_26 : decode bc_R_cut 26 = .ok (.iconst (-1), 1) := by decide +kernel
theorem dc_R_cut_27 : decode bc_R_cut 27 = .ok (.ireturn, 1) := by decide +kernel
theorem dc_R_cut_7 : decode bc_R_cut 7 = .ok (.iload_n 2, 1) := by decide +kernel
theorem dc_R_cut_8 : decode bc_R_cut 8 = .ok (.invokestatic 28, 3) := by decide +kernel
theorem dc_R_cut_11 : decode bc_R_cut 11 = .ok (.ifCond .eq 15, 3) := by decide +kernel
theorem dc_R_cut_14 : decode bc_R_cut 14 = .ok (.iload_n 3, 1) := by decide +kernel
theorem dc_R_cut_15 : decode bc_R_cut 15 = .ok (.invokestatic 28, 3) := by decide +kernel
theorem dc_R_cut_18 : decode bc_R_cut 18 = .ok (.ifCond .eq 8, 3) := by decide +kernel
theorem dc_R_cut_21 : decode bc_R_cut 21 = .ok (.iload_n 3, 1) := by decide +kernel
theorem dc_R_cut_22 : decode bc_R_cut 22 = .ok (.iload_n 2, 1) := by decide +kernel
theorem dc_R_cut_23 : decode bc_R_cut 23 = .ok (.if_icmp .ge 5, 3) := by decide +kernel
theorem dc_R_cut_28 : decode bc_R_cut 28 = .ok (.iconst 0, 1) := by decide +kernel
theorem dc_R_cut_29 : decode bc_R_cut 29 = .ok (.istore 4, 2) := by decide +kernel
theorem dc_R_cut_31 : decode bc_R_cut 31 = .ok (.iload_n 2, 1) := by decide +kernel
theorem dc_R_cut_32 : decode bc_R_cut 32 = .ok (.istore 5, 2) := by decide +kernel
theorem dc_R_cut_34 : decode bc_R_cut 34 = .ok (.iload 5, 2) := by decide +kernel
theorem dc_R_cut_36 : decode bc_R_cut 36 = .ok (.iload_n 3, 1) := by decide +kernel
theorem dc_R_cut_37 : decode bc_R_cut 37 = .ok (.if_icmp .gt 29, 3) := by decide +kernel
theorem dc_R_cut_66 : decode bc_R_cut 66 = .ok (.iload 4, 2) := by decide +kernel
theorem dc_R_cut_68 : decode bc_R_cut 68 = .ok (.ireturn, 1) := by decide +kernel
theorem dc_R_cut_40 : decode bc_R_cut 40 = .ok (.iload 4, 2) := by decide +kernel
theorem dc_R_cut_42 : decode bc_R_cut 42 = .ok (.aload_n 0, 1) := by decide +kernel
theorem dc_R_cut_43 : decode bc_R_cut 43 = .ok (.iload_n 1, 1) := by decide +kernel
theorem dc_R_cut_44 : decode bc_R_cut 44 = .ok (.iload 5, 2) := by decide +kernel
theorem dc_R_cut_46 : decode bc_R_cut 46 = .ok (.invokevirtual 46, 3) := by decide +kernel
theorem dc_R_cut_49 : decode bc_R_cut 49 = .ok (.ifCond .lt 7, 3) := by decide +kernel
theorem dc_R_cut_56 : decode bc_R_cut 56 = .ok (.iconst 0, 1) := by decide +kernel
theorem dc_R_cut_57 : decode bc_R_cut 57 = .ok (.iadd, 1) := by decide +kernel
theorem dc_R_cut_58 : decode bc_R_cut 58 = .ok (.istore 4, 2) := by decide +kernel
theorem dc_R_cut_60 : decode bc_R_cut 60 = .ok (.iinc 5 1, 3) := by decide +kernel
theorem dc_R_cut_63 : decode bc_R_cut 63 = .ok (.goto (-29), 3) := by decide +kernel
theorem dc_R_cut_52 : decode bc_R_cut 52 = .ok (.iconst 1, 1) := by decide +kernel
theorem dc_R_cut_53 : decode bc_R_cut 53 = .ok (.goto 4, 3) := by decide +kernel
theorem dc_S_next_0 : decode bc_S_next 0 = .ok (.iload_n 1, 1) := by decide +kernel
theorem dc_S_next_1 : decode bc_S_next 1 = .ok (.invokestatic 53, 3) := by decide +kernel
theorem dc_S_next_4 : decode bc_S_next 4 = .ok (.ifCond .eq 10, 3) := by decide +kernel
theorem dc_S_next_14 : decode bc_S_next 14 = .ok (.iconst (-1), 1) := by decide +kernel
theorem dc_S_next_15 : decode bc_S_next 15 = .ok (.ireturn, 1) := by decide +kernel
theorem dc_S_next_7 : decode bc_S_next 7 = .ok (.iload_n 2, 1) := by decide +kernel
theorem dc_S_next_8 : decode bc_S_next 8 = .ok (.invokestatic 57, 3) := by decide +kernel
theorem dc_S_next_11 : decode bc_S_next 11 = .ok (.ifCond .ne 5, 3) := by decide +kernel
theorem dc_S_next_16 : decode bc_S_next 16 = .ok (.aload_n 0, 1) := by decide +kernel
theorem dc_S_next_17 : decode bc_S_next 17 = .ok (.getfield 32, 3) := by decide +kernel
theorem dc_S_next_20 : decode bc_S_next 20 = .ok (.aload_n 0, 1) := by decide +kernel
theorem dc_S_next_21 : decode bc_S_next 21 = .ok (.getfield 46, 3) := by decide +kernel
theorem dc_S_next_24 : decode bc_S_next 24 = .ok (.getfield 63, 3) := by decide +kernel
theorem dc_S_next_27 : decode bc_S_next 27 = .ok (.iload_n 1, 1) := by decide +kernel
theorem dc_S_next_28 : decode bc_S_next 28 = .ok (.iaload, 1) := by decide +kernel
theorem dc_S_next_29 : decode bc_S_next 29 = .ok (.iload_n 2, 1) := by decide +kernel
theorem dc_S_next_30 : decode bc_S_next 30 = .ok (.invokevirtual 91, 3) := by decide +kernel
theorem dc_S_next_33 : decode bc_S_next 33 = .ok (.ireturn, 1) := by decide +kernel
theorem dc_R_next_0 : decode bc_R_next 0 = .ok (.iload_n 1, 1) := by decide +kernel
theorem dc_R_next_1 : decode bc_R_next 1 = .ok (.invokestatic 24, 3) := by decide +kernel
theorem dc_R_next_4 : decode bc_R_next 4 = .ok (.ifCond .eq 10, 3) := by decide +kernel
theorem dc_R_next_14 : decode bc_R_next 14 = .ok (.iconst (-1), 1) := by decide +kernel
