theorem dc_R_next_15 : decode bc_R_next 15 = .ok (.ireturn, 1) := by decide +kernel
theorem dc_R_next_7 : decode bc_R_next 7 = .ok (.iload_n 2, 1) := by decide +kernel
theorem dc_R_next_8 : decode bc_R_next 8 = .ok (.invokestatic 28, 3) := by decide +kernel
theorem dc_R_next_11 : decode bc_R_next 11 = .ok (.ifCond .ne 5, 3) := by decide +kernel
theorem dc_R_next_16 : decode bc_R_next 16 = .ok (.iload_n 2, 1) := by decide +kernel
theorem dc_R_next_17 : decode bc_R_next 17 = .ok (.istore_n 3, 1) := by decide +kernel
theorem dc_R_next_18 : decode bc_R_next 18 = .ok (.iload_n 3, 1) := by decide +kernel
theorem dc_R_next_19 : decode bc_R_next 19 = .ok (.sipush 4096, 3) := by decide +kernel
theorem dc_R_next_22 : decode bc_R_next 22 = .ok (.if_icmp .ge 24, 3) := by decide +kernel
theorem dc_R_next_46 : decode bc_R_next 46 = .ok (.iload_n 3, 1) := by decide +kernel
theorem dc_R_next_47 : decode bc_R_next 47 = .ok (.sipush 4096, 3) := by decide +kernel
theorem dc_R_next_50 : decode bc_R_next 50 = .ok (.if_icmp .ge 7, 3) := by decide +kernel
theorem dc_R_next_57 : decode bc_R_next 57 = .ok (.bipush (-2), 2) := by decide +kernel
theorem dc_R_next_59 : decode bc_R_next 59 = .ok (.ireturn, 1) := by decide +kernel
theorem dc_R_next_53 : decode bc_R_next 53 = .ok (.iload_n 3, 1) := by decide +kernel
theorem dc_R_next_54 : decode bc_R_next 54 = .ok (.goto 5, 3) := by decide +kernel
theorem dc_R_next_25 : decode bc_R_next 25 = .ok (.aload_n 0, 1) := by decide +kernel
theorem dc_R_next_26 : decode bc_R_next 26 = .ok (.getfield 8, 3) := by decide +kernel
theorem dc_R_next_29 : decode bc_R_next 29 = .ok (.sipush 4096, 3) := by decide +kernel
theorem dc_R_next_32 : decode bc_R_next 32 = .ok (.iload_n 1, 1) := by decide +kernel
theorem dc_R_next_33 : decode bc_R_next 33 = .ok (.imul, 1) := by decide +kernel
theorem dc_R_next_34 : decode bc_R_next 34 = .ok (.iload_n 3, 1) := by decide +kernel
theorem dc_R_next_35 : decode bc_R_next 35 = .ok (.iadd, 1) := by decide +kernel
theorem dc_R_next_36 : decode bc_R_next 36 = .ok (.iaload, 1) := by decide +kernel
theorem dc_R_next_37 : decode bc_R_next 37 = .ok (.ifCond .ne 9, 3) := by decide +kernel
theorem dc_R_next_40 : decode bc_R_next 40 = .ok (.iinc 3 1, 3) := by decide +kernel
theorem dc_R_next_43 : decode bc_R_next 43 = .ok (.goto (-25), 3) := by decide +kernel
theorem dc_S_clone_0 : decode bc_S_clone 0 = .ok (.iload_n 1, 1) := by decide +kernel
theorem dc_S_clone_1 : decode bc_S_clone 1 = .ok (.invokestatic 53, 3) := by decide +kernel
theorem dc_S_clone_4 : decode bc_S_clone 4 = .ok (.ifCond .eq 15, 3) := by decide +kernel
theorem dc_S_clone_19 : decode bc_S_clone 19 = .ok (.iconst (-1), 1) := by decide +kernel
theorem dc_S_clone_20 : decode bc_S_clone 20 = .ok (.ireturn, 1) := by decide +kernel
theorem dc_S_clone_7 : decode bc_S_clone 7 = .ok (.iload_n 2, 1) := by decide +kernel
theorem dc_S_clone_8 : decode bc_S_clone 8 = .ok (.invokestatic 53, 3) := by decide +kernel
theorem dc_S_clone_11 : decode bc_S_clone 11 = .ok (.ifCond .eq 8, 3) := by decide +kernel
theorem dc_S_clone_14 : decode bc_S_clone 14 = .ok (.iload_n 1, 1) := by decide +kernel
theorem dc_S_clone_15 : decode bc_S_clone 15 = .ok (.iload_n 2, 1) := by decide +kernel
theorem dc_S_clone_16 : decode bc_S_clone 16 = .ok (.if_icmp .ne 5, 3) := by decide +kernel
theorem dc_S_clone_21 : decode bc_S_clone 21 = .ok (.aload_n 0, 1) := by decide +kernel
theorem dc_S_clone_22 : decode bc_S_clone 22 = .ok (.getfield 46, 3) := by decide +kernel
theorem dc_S_clone_25 : decode bc_S_clone 25 = .ok (.getfield 70, 3) := by decide +kernel
theorem dc_S_clone_28 : decode bc_S_clone 28 = .ok (.aload_n 0, 1) := by decide +kernel
theorem dc_S_clone_29 : decode bc_S_clone 29 = .ok (.getfield 46, 3) := by decide +kernel
theorem dc_S_clone_32 : decode bc_S_clone 32 = .ok (.getfield 82, 3) := by decide +kernel
theorem dc_S_clone_35 : decode bc_S_clone 35 = .ok (.iload_n 1, 1) := by decide +kernel
theorem dc_S_clone_36 : decode bc_S_clone 36 = .ok (.iaload, 1) := by decide +kernel
theorem dc_S_clone_37 : decode bc_S_clone 37 = .ok (.isub, 1) := by decide +kernel
theorem dc_S_clone_38 : decode bc_S_clone 38 = .ok (.aload_n 0, 1) := by decide +kernel
theorem dc_S_clone_39 : decode bc_S_clone 39 = .ok (.getfield 46, 3) := by decide +kernel
theorem dc_S_clone_42 : decode bc_S_clone 42 = .ok (.getfield 82, 3) := by decide +kernel
theorem dc_S_clone_45 : decode bc_S_clone 45 = .ok (.iload_n 2, 1) := by decide +kernel
theorem dc_S_clone_46 : decode bc_S_clone 46 = .ok (.iaload, 1) := by decide +kernel
theorem dc_S_clone_47 : decode bc_S_clone 47 = .ok (.iadd, 1) := by decide +kernel
theorem dc_S_clone_48 : decode bc_S_clone 48 = .ok (.sipush 600, 3) := by decide +kernel
theorem dc_S_clone_51 : decode bc_S_clone 51 = .ok (.if_icmp .le 6, 3) := by decide +kernel
theorem dc_S_clone_57 : decode bc_S_clone 57 = .ok (.aload_n 0, 1) := by decide +kernel
theorem dc_S_clone_58 : decode bc_S_clone 58 = .ok (.aload_n 0, 1) := by decide +kernel
theorem dc_S_clone_59 : decode bc_S_clone 59 = .ok (.getfield 46, 3) := by decide +kernel
theorem dc_S_clone_62 : decode bc_S_clone 62 = .ok (.iload_n 1, 1) := by decide +kernel
theorem dc_S_clone_63 : decode bc_S_clone 63 = .ok (.aload_n 0, 1) := by decide +kernel
theorem dc_S_clone_64 : decode bc_S_clone 64 = .ok (.getfield 46, 3) := by decide +kernel
theorem dc_S_clone_67 : decode bc_S_clone 67 = .ok (.getfield 63, 3) := by decide +kernel
theorem dc_S_clone_70 : decode bc_S_clone 70 = .ok (.iload_n 2, 1) := by decide +kernel
theorem dc_S_clone_71 : decode bc_S_clone 71 = .ok (.iaload, 1) := by decide +kernel
theorem dc_S_clone_72 : decode bc_S_clone 72 = .ok (.aload_n 0, 1) := by decide +kernel
theorem dc_S_clone_73 : decode bc_S_clone 73 = .ok (.getfield 46, 3) := by decide +kernel
theorem dc_S_clone_76 : decode bc_S_clone 76 = .ok (.getfield 82, 3) := by decide +kernel
theorem dc_S_clone_79 : decode bc_S_clone 79 = .ok (.iload_n 2, 1) := by decide +kernel
theorem dc_S_clone_80 : decode bc_S_clone 80 = .ok (.iaload, 1) := by decide +kernel
theorem dc_S_clone_81 : decode bc_S_clone 81 = .ok (.invokevirtual 94, 3) := by decide +kernel
theorem dc_S_clone_84 : decode bc_S_clone 84 = .ok (.aload_n 0, 1) := by decide +kernel
theorem dc_S_clone_85 : decode bc_S_clone 85 = .ok (.getfield 46, 3) := by decide +kernel
theorem dc_S_clone_88 : decode bc_S_clone 88 = .ok (.getfield 82, 3) := by decide +kernel
theorem dc_S_clone_91 : decode bc_S_clone 91 = .ok (.iload_n 1, 1) := by decide +kernel
theorem dc_S_clone_92 : decode bc_S_clone 92 = .ok (.iaload, 1) := by decide +kernel
theorem dc_S_clone_93 : decode bc_S_clone 93 = .ok (.ireturn, 1) := by decide +kernel
theorem dc_S_clone_54 : decode bc_S_clone 54 = .ok (.bipush (-3), 2) := by decide +kernel
theorem dc_S_clone_56 : decode bc_S_clone 56 = .ok (.ireturn, 1) := by decide +kernel
theorem dc_S_lead_0 : decode bc_S_lead 0 = .ok (.aload_n 0, 1) := by decide +kernel
theorem dc_S_lead_1 : decode bc_S_lead 1 = .ok (.getfield 23, 3) := by decide +kernel
theorem dc_S_lead_4 : decode bc_S_lead 4 = .ok (.iload_n 3, 1) := by decide +kernel
theorem dc_S_lead_5 : decode bc_S_lead 5 = .ok (.invokevirtual 107, 3) := by decide +kernel
theorem dc_S_lead_8 : decode bc_S_lead 8 = .ok (.aload_n 0, 1) := by decide +kernel
theorem dc_S_lead_9 : decode bc_S_lead 9 = .ok (.getfield 32, 3) := by decide +kernel
theorem dc_S_lead_12 : decode bc_S_lead 12 = .ok (.aload_n 1, 1) := by decide +kernel
theorem dc_S_lead_13 : decode bc_S_lead 13 = .ok (.getfield 63, 3) := by decide +kernel
theorem dc_S_lead_16 : decode bc_S_lead 16 = .ok (.iload_n 2, 1) := by decide +kernel
theorem dc_S_lead_17 : decode bc_S_lead 17 = .ok (.iaload, 1) := by decide +kernel
theorem dc_S_lead_18 : decode bc_S_lead 18 = .ok (.invokevirtual 110, 3) := by decide +kernel
theorem dc_S_lead_21 : decode bc_S_lead 21 = .ok (.aload_n 1, 1) := by decide +kernel
theorem dc_S_lead_22 : decode bc_S_lead 22 = .ok (.getfield 63, 3) := by decide +kernel
theorem dc_S_lead_25 : decode bc_S_lead 25 = .ok (.iload_n 2, 1) := by decide +kernel
theorem dc_S_lead_26 : decode bc_S_lead 26 = .ok (.iload_n 3, 1) := by decide +kernel
theorem dc_S_lead_27 : decode bc_S_lead 27 = .ok (.iastore, 1) := by decide +kernel
theorem dc_S_lead_28 : decode bc_S_lead 28 = .ok (.aload_n 1, 1) := by decide +kernel
theorem dc_S_lead_29 : decode bc_S_lead 29 = .ok (.iload_n 2, 1) := by decide +kernel
theorem dc_S_lead_30 : decode bc_S_lead 30 = .ok (.iload 4, 2) := by decide +kernel
theorem dc_S_lead_32 : decode bc_S_lead 32 = .ok (.aload_n 1, 1) := by decide +kernel
theorem dc_S_lead_33 : decode bc_S_lead 33 = .ok (.getfield 82, 3) := by decide +kernel
theorem dc_S_lead_36 : decode bc_S_lead 36 = .ok (.iload_n 2, 1) := by decide +kernel
theorem dc_S_lead_37 : decode bc_S_lead 37 = .ok (.iaload, 1) := by decide +kernel
theorem dc_S_lead_38 : decode bc_S_lead 38 = .ok (.isub, 1) := by decide +kernel
theorem dc_S_lead_39 : decode bc_S_lead 39 = .ok (.invokestatic 78, 3) := by decide +kernel
theorem dc_S_lead_42 : decode bc_S_lead 42 = .ok (.return_, 1) := by decide +kernel
theorem dc_T_release_0 : decode bc_T_release 0 = .ok (.aload_n 0, 1) := by decide +kernel
theorem dc_T_release_1 : decode bc_T_release 1 = .ok (.iload_n 1, 1) := by decide +kernel
theorem dc_T_release_2 : decode bc_T_release 2 = .ok (.aload_n 0, 1) := by decide +kernel
theorem dc_T_release_3 : decode bc_T_release 3 = .ok (.getfield 9, 3) := by decide +kernel
theorem dc_T_release_6 : decode bc_T_release 6 = .ok (.iload_n 1, 1) := by decide +kernel
theorem dc_T_release_7 : decode bc_T_release 7 = .ok (.invokevirtual 26, 3) := by decide +kernel
theorem dc_T_release_10 : decode bc_T_release 10 = .ok (.invokevirtual 111, 3) := by decide +kernel
theorem dc_T_release_13 : decode bc_T_release 13 = .ok (.return_, 1) := by decide +kernel
theorem dc_T_releaseBelow_0 : decode bc_T_releaseBelow 0 = .ok (.iload_n 2, 1) := by decide +kernel
theorem dc_T_releaseBelow_1 : decode bc_T_releaseBelow 1 = .ok (.ifCond .lt 20, 3) := by decide +kernel
theorem dc_T_releaseBelow_21 : decode bc_T_releaseBelow 21 = .ok (.return_, 1) := by decide +kernel
theorem dc_T_releaseBelow_4 : decode bc_T_releaseBelow 4 = .ok (.iload_n 2, 1) := by decide +kernel
theorem dc_T_releaseBelow_5 : decode bc_T_releaseBelow 5 = .ok (.bipush 16, 2) := by decide +kernel
theorem dc_T_releaseBelow_7 : decode bc_T_releaseBelow 7 = .ok (.if_icmp .gt 14, 3) := by decide +kernel
theorem dc_T_releaseBelow_10 : decode bc_T_releaseBelow 10 = .ok (.aload_n 0, 1) := by decide +kernel
theorem dc_T_releaseBelow_11 : decode bc_T_releaseBelow 11 = .ok (.getfield 9, 3) := by decide +kernel
theorem dc_T_releaseBelow_14 : decode bc_T_releaseBelow 14 = .ok (.iload_n 1, 1) := by decide +kernel
theorem dc_T_releaseBelow_15 : decode bc_T_releaseBelow 15 = .ok (.invokevirtual 114, 3) := by decide +kernel
theorem dc_T_releaseBelow_18 : decode bc_T_releaseBelow 18 = .ok (.ifCond .ne 4, 3) := by decide +kernel
theorem dc_T_releaseBelow_22 : decode bc_T_releaseBelow 22 = .ok (.iload_n 2, 1) := by decide +kernel
theorem dc_T_releaseBelow_23 : decode bc_T_releaseBelow 23 = .ok (.ifCond .le 39, 3) := by decide +kernel
theorem dc_T_releaseBelow_62 : decode bc_T_releaseBelow 62 = .ok (.aload_n 0, 1) := by decide +kernel
theorem dc_T_releaseBelow_63 : decode bc_T_releaseBelow 63 = .ok (.getfield 9, 3) := by decide +kernel
theorem dc_T_releaseBelow_66 : decode bc_T_releaseBelow 66 = .ok (.iload_n 1, 1) := by decide +kernel
theorem dc_T_releaseBelow_67 : decode bc_T_releaseBelow 67 = .ok (.invokevirtual 104, 3) := by decide +kernel
theorem dc_T_releaseBelow_70 : decode bc_T_releaseBelow 70 = .ok (.return_, 1) := by decide +kernel
theorem dc_T_releaseBelow_26 : decode bc_T_releaseBelow 26 = .ok (.iconst 0, 1) := by decide +kernel
theorem dc_T_releaseBelow_27 : decode bc_T_releaseBelow 27 = .ok (.istore_n 3, 1) := by decide +kernel
theorem dc_T_releaseBelow_28 : decode bc_T_releaseBelow 28 = .ok (.iload_n 3, 1) := by decide +kernel
theorem dc_T_releaseBelow_29 : decode bc_T_releaseBelow 29 = .ok (.aload_n 0, 1) := by decide +kernel
theorem dc_T_releaseBelow_30 : decode bc_T_releaseBelow 30 = .ok (.getfield 9, 3) := by decide +kernel
theorem dc_T_releaseBelow_33 : decode bc_T_releaseBelow 33 = .ok (.iload_n 1, 1) := by decide +kernel
theorem dc_T_releaseBelow_34 : decode bc_T_releaseBelow 34 = .ok (.invokevirtual 48, 3) := by decide +kernel
theorem dc_T_releaseBelow_37 : decode bc_T_releaseBelow 37 = .ok (.if_icmp .ge 25, 3) := by decide +kernel
theorem dc_T_releaseBelow_40 : decode bc_T_releaseBelow 40 = .ok (.aload_n 0, 1) := by decide +kernel
theorem dc_T_releaseBelow_41 : decode bc_T_releaseBelow 41 = .ok (.aload_n 0, 1) := by decide +kernel
theorem dc_T_releaseBelow_42 : decode bc_T_releaseBelow 42 = .ok (.getfield 9, 3) := by decide +kernel
theorem dc_T_releaseBelow_45 : decode bc_T_releaseBelow 45 = .ok (.iload_n 1, 1) := by decide +kernel
theorem dc_T_releaseBelow_46 : decode bc_T_releaseBelow 46 = .ok (.iload_n 3, 1) := by decide +kernel
theorem dc_T_releaseBelow_47 : decode bc_T_releaseBelow 47 = .ok (.invokevirtual 35, 3) := by decide +kernel
theorem dc_T_releaseBelow_50 : decode bc_T_releaseBelow 50 = .ok (.iload_n 2, 1) := by decide +kernel
theorem dc_T_releaseBelow_51 : decode bc_T_releaseBelow 51 = .ok (.iconst 1, 1) := by decide +kernel
theorem dc_T_releaseBelow_52 : decode bc_T_releaseBelow 52 = .ok (.isub, 1) := by decide +kernel
theorem dc_T_releaseBelow_53 : decode bc_T_releaseBelow 53 = .ok (.invokevirtual 111, 3) := by decide +kernel
theorem dc_T_releaseBelow_56 : decode bc_T_releaseBelow 56 = .ok (.iinc 3 1, 3) := by decide +kernel
theorem dc_T_releaseBelow_59 : decode bc_T_releaseBelow 59 = .ok (.goto (-31), 3) := by decide +kernel
theorem dc_R_clone_0 : decode bc_R_clone 0 = .ok (.iload_n 1, 1) := by decide +kernel
theorem dc_R_clone_1 : decode bc_R_clone 1 = .ok (.invokestatic 24, 3) := by decide +kernel
theorem dc_R_clone_4 : decode bc_R_clone 4 = .ok (.ifCond .eq 15, 3) := by decide +kernel
theorem dc_R_clone_19 : decode bc_R_clone 19 = .ok (.iconst (-1), 1) := by decide +kernel
theorem dc_R_clone_20 : decode bc_R_clone 20 = .ok (.ireturn, 1) := by decide +kernel
theorem dc_R_clone_7 : decode bc_R_clone 7 = .ok (.iload_n 2, 1) := by decide +kernel
theorem dc_R_clone_8 : decode bc_R_clone 8 = .ok (.invokestatic 24, 3) := by decide +kernel
theorem dc_R_clone_11 : decode bc_R_clone 11 = .ok (.ifCond .eq 8, 3) := by decide +kernel
theorem dc_R_clone_14 : decode bc_R_clone 14 = .ok (.iload_n 1, 1) := by decide +kernel
theorem dc_R_clone_15 : decode bc_R_clone 15 = .ok (.iload_n 2, 1) := by decide +kernel
theorem dc_R_clone_16 : decode bc_R_clone 16 = .ok (.if_icmp .ne 5, 3) := by decide +kernel
theorem dc_R_clone_21 : decode bc_R_clone 21 = .ok (.aload_n 0, 1) := by decide +kernel
theorem dc_R_clone_22 : decode bc_R_clone 22 = .ok (.invokevirtual 34, 3) := by decide +kernel
theorem dc_R_clone_25 : decode bc_R_clone 25 = .ok (.aload_n 0, 1) := by decide +kernel
theorem dc_R_clone_26 : decode bc_R_clone 26 = .ok (.getfield 17, 3) := by decide +kernel
theorem dc_R_clone_29 : decode bc_R_clone 29 = .ok (.iload_n 1, 1) := by decide +kernel
theorem dc_R_clone_30 : decode bc_R_clone 30 = .ok (.iaload, 1) := by decide +kernel
theorem dc_R_clone_31 : decode bc_R_clone 31 = .ok (.isub, 1) := by decide +kernel
theorem dc_R_clone_32 : decode bc_R_clone 32 = .ok (.aload_n 0, 1) := by decide +kernel
theorem dc_R_clone_33 : decode bc_R_clone 33 = .ok (.getfield 17, 3) := by decide +kernel
theorem dc_R_clone_36 : decode bc_R_clone 36 = .ok (.iload_n 2, 1) := by decide +kernel
theorem dc_R_clone_37 : decode bc_R_clone 37 = .ok (.iaload, 1) := by decide +kernel
theorem dc_R_clone_38 : decode bc_R_clone 38 = .ok (.iadd, 1) := by decide +kernel
theorem dc_R_clone_39 : decode bc_R_clone 39 = .ok (.sipush 600, 3) := by decide +kernel
theorem dc_R_clone_42 : decode bc_R_clone 42 = .ok (.if_icmp .le 6, 3) := by decide +kernel
theorem dc_R_clone_48 : decode bc_R_clone 48 = .ok (.iconst 0, 1) := by decide +kernel
theorem dc_R_clone_49 : decode bc_R_clone 49 = .ok (.istore_n 3, 1) := by decide +kernel
theorem dc_R_clone_50 : decode bc_R_clone 50 = .ok (.iload_n 3, 1) := by decide +kernel
theorem dc_R_clone_51 : decode bc_R_clone 51 = .ok (.sipush 4096, 3) := by decide +kernel
theorem dc_R_clone_54 : decode bc_R_clone 54 = .ok (.if_icmp .ge 33, 3) := by decide +kernel
theorem dc_R_clone_87 : decode bc_R_clone 87 = .ok (.aload_n 0, 1) := by decide +kernel
theorem dc_R_clone_88 : decode bc_R_clone 88 = .ok (.getfield 17, 3) := by decide +kernel
theorem dc_R_clone_91 : decode bc_R_clone 91 = .ok (.iload_n 1, 1) := by decide +kernel
theorem dc_R_clone_92 : decode bc_R_clone 92 = .ok (.aload_n 0, 1) := by decide +kernel
theorem dc_R_clone_93 : decode bc_R_clone 93 = .ok (.getfield 17, 3) := by decide +kernel
theorem dc_R_clone_96 : decode bc_R_clone 96 = .ok (.iload_n 2, 1) := by decide +kernel
theorem dc_R_clone_97 : decode bc_R_clone 97 = .ok (.iaload, 1) := by decide +kernel
theorem dc_R_clone_98 : decode bc_R_clone 98 = .ok (.iastore, 1) := by decide +kernel
theorem dc_R_clone_99 : decode bc_R_clone 99 = .ok (.aload_n 0, 1) := by decide +kernel
theorem dc_R_clone_100 : decode bc_R_clone 100 = .ok (.getfield 17, 3) := by decide +kernel
theorem dc_R_clone_103 : decode bc_R_clone 103 = .ok (.iload_n 1, 1) := by decide +kernel
theorem dc_R_clone_104 : decode bc_R_clone 104 = .ok (.iaload, 1) := by decide +kernel
theorem dc_R_clone_105 : decode bc_R_clone 105 = .ok (.ireturn, 1) := by decide +kernel
theorem dc_R_clone_57 : decode bc_R_clone 57 = .ok (.aload_n 0, 1) := by decide +kernel
theorem dc_R_clone_58 : decode bc_R_clone 58 = .ok (.getfield 8, 3) := by decide +kernel
theorem dc_R_clone_61 : decode bc_R_clone 61 = .ok (.sipush 4096, 3) := by decide +kernel
theorem dc_R_clone_64 : decode bc_R_clone 64 = .ok (.iload_n 1, 1) := by decide +kernel
theorem dc_R_clone_65 : decode bc_R_clone 65 = .ok (.imul, 1) := by decide +kernel
theorem dc_R_clone_66 : decode bc_R_clone 66 = .ok (.iload_n 3, 1) := by decide +kernel
theorem dc_R_clone_67 : decode bc_R_clone 67 = .ok (.iadd, 1) := by decide +kernel
theorem dc_R_clone_68 : decode bc_R_clone 68 = .ok (.aload_n 0, 1) := by decide +kernel
theorem dc_R_clone_69 : decode bc_R_clone 69 = .ok (.getfield 8, 3) := by decide +kernel
theorem dc_R_clone_72 : decode bc_R_clone 72 = .ok (.sipush 4096, 3) := by decide +kernel
theorem dc_R_clone_75 : decode bc_R_clone 75 = .ok (.iload_n 2, 1) := by decide +kernel
theorem dc_R_clone_76 : decode bc_R_clone 76 = .ok (.imul, 1) := by decide +kernel
theorem dc_R_clone_77 : decode bc_R_clone 77 = .ok (.iload_n 3, 1) := by decide +kernel
theorem dc_R_clone_78 : decode bc_R_clone 78 = .ok (.iadd, 1) := by decide +kernel
theorem dc_R_clone_79 : decode bc_R_clone 79 = .ok (.iaload, 1) := by decide +kernel
theorem dc_R_clone_80 : decode bc_R_clone 80 = .ok (.iastore, 1) := by decide +kernel
theorem dc_R_clone_81 : decode bc_R_clone 81 = .ok (.iinc 3 1, 3) := by decide +kernel
theorem dc_R_clone_84 : decode bc_R_clone 84 = .ok (.goto (-34), 3) := by decide +kernel
theorem dc_R_clone_45 : decode bc_R_clone 45 = .ok (.bipush (-3), 2) := by decide +kernel
theorem dc_R_clone_47 : decode bc_R_clone 47 = .ok (.ireturn, 1) := by decide +kernel
theorem dc_S_drop_0 : decode bc_S_drop 0 = .ok (.iload_n 1, 1) := by decide +kernel
theorem dc_S_drop_1 : decode bc_S_drop 1 = .ok (.invokestatic 53, 3) := by decide +kernel
theorem dc_S_drop_4 : decode bc_S_drop 4 = .ok (.ifCond .ne 5, 3) := by decide +kernel
theorem dc_S_drop_9 : decode bc_S_drop 9 = .ok (.aload_n 0, 1) := by decide +kernel
theorem dc_S_drop_10 : decode bc_S_drop 10 = .ok (.getfield 46, 3) := by decide +kernel
theorem dc_S_drop_13 : decode bc_S_drop 13 = .ok (.getfield 82, 3) := by decide +kernel
theorem dc_S_drop_16 : decode bc_S_drop 16 = .ok (.iload_n 1, 1) := by decide +kernel
theorem dc_S_drop_17 : decode bc_S_drop 17 = .ok (.iaload, 1) := by decide +kernel
theorem dc_S_drop_18 : decode bc_S_drop 18 = .ok (.istore_n 2, 1) := by decide +kernel
theorem dc_S_drop_19 : decode bc_S_drop 19 = .ok (.aload_n 0, 1) := by decide +kernel
theorem dc_S_drop_20 : decode bc_S_drop 20 = .ok (.aload_n 0, 1) := by decide +kernel
theorem dc_S_drop_21 : decode bc_S_drop 21 = .ok (.getfield 46, 3) := by decide +kernel
theorem dc_S_drop_24 : decode bc_S_drop 24 = .ok (.iload_n 1, 1) := by decide +kernel
theorem dc_S_drop_25 : decode bc_S_drop 25 = .ok (.iconst 0, 1) := by decide +kernel
theorem dc_S_drop_26 : decode bc_S_drop 26 = .ok (.iconst 0, 1) := by decide +kernel
theorem dc_S_drop_27 : decode bc_S_drop 27 = .ok (.invokevirtual 94, 3) := by decide +kernel
theorem dc_S_drop_30 : decode bc_S_drop 30 = .ok (.iload_n 2, 1) := by decide +kernel
theorem dc_S_drop_31 : decode bc_S_drop 31 = .ok (.ireturn, 1) := by decide +kernel
theorem dc_S_drop_7 : decode bc_S_drop 7 = .ok (.iconst (-1), 1) := by decide +kernel
theorem dc_S_drop_8 : decode bc_S_drop 8 = .ok (.ireturn, 1) := by decide +kernel
theorem dc_R_drop_0 : decode bc_R_drop 0 = .ok (.iload_n 1, 1) := by decide +kernel
theorem dc_R_drop_1 : decode bc_R_drop 1 = .ok (.invokestatic 24, 3) := by decide +kernel
theorem dc_R_drop_4 : decode bc_R_drop 4 = .ok (.ifCond .ne 5, 3) := by decide +kernel
theorem dc_R_drop_9 : decode bc_R_drop 9 = .ok (.aload_n 0, 1) := by decide +kernel
theorem dc_R_drop_10 : decode bc_R_drop 10 = .ok (.getfield 17, 3) := by decide +kernel
theorem dc_R_drop_13 : decode bc_R_drop 13 = .ok (.iload_n 1, 1) := by decide +kernel
theorem dc_R_drop_14 : decode bc_R_drop 14 = .ok (.iaload, 1) := by decide +kernel
theorem dc_R_drop_15 : decode bc_R_drop 15 = .ok (.istore_n 2, 1) := by decide +kernel
theorem dc_R_drop_16 : decode bc_R_drop 16 = .ok (.aload_n 0, 1) := by decide +kernel
theorem dc_R_drop_17 : decode bc_R_drop 17 = .ok (.iload_n 1, 1) := by decide +kernel
theorem dc_R_drop_18 : decode bc_R_drop 18 = .ok (.iconst 0, 1) := by decide +kernel
theorem dc_R_drop_19 : decode bc_R_drop 19 = .ok (.sipush 4095, 3) := by decide +kernel
theorem dc_R_drop_22 : decode bc_R_drop 22 = .ok (.invokevirtual 49, 3) := by decide +kernel
theorem dc_R_drop_25 : decode bc_R_drop 25 = .ok (.pop, 1) := by decide +kernel
theorem dc_R_drop_26 : decode bc_R_drop 26 = .ok (.iload_n 2, 1) := by decide +kernel
theorem dc_R_drop_27 : decode bc_R_drop 27 = .ok (.ireturn, 1) := by decide +kernel
theorem dc_R_drop_7 : decode bc_R_drop 7 = .ok (.iconst (-1), 1) := by decide +kernel
theorem dc_R_drop_8 : decode bc_R_drop 8 = .ok (.ireturn, 1) := by decide +kernel
theorem dc_S_keep_0 : decode bc_S_keep 0 = .ok (.aload_n 0, 1) := by decide +kernel
theorem dc_S_keep_1 : decode bc_S_keep 1 = .ok (.aload_n 0, 1) := by decide +kernel
theorem dc_S_keep_2 : decode bc_S_keep 2 = .ok (.getfield 50, 3) := by decide +kernel
theorem dc_S_keep_5 : decode bc_S_keep 5 = .ok (.aload_n 0, 1) := by decide +kernel
theorem dc_S_keep_6 : decode bc_S_keep 6 = .ok (.getfield 46, 3) := by decide +kernel
theorem dc_S_keep_9 : decode bc_S_keep 9 = .ok (.invokevirtual 98, 3) := by decide +kernel
theorem dc_S_keep_12 : decode bc_S_keep 12 = .ok (.aload_n 0, 1) := by decide +kernel
theorem dc_S_keep_13 : decode bc_S_keep 13 = .ok (.getfield 46, 3) := by decide +kernel
theorem dc_S_keep_16 : decode bc_S_keep 16 = .ok (.getfield 70, 3) := by decide +kernel
theorem dc_S_keep_19 : decode bc_S_keep 19 = .ok (.ireturn, 1) := by decide +kernel
theorem dc_S_leadAll_0 : decode bc_S_leadAll 0 = .ok (.iconst 0, 1) := by decide +kernel
theorem dc_S_leadAll_1 : decode bc_S_leadAll 1 = .ok (.istore_n 3, 1) := by decide +kernel
theorem dc_S_leadAll_2 : decode bc_S_leadAll 2 = .ok (.iload_n 3, 1) := by decide +kernel
theorem dc_S_leadAll_3 : decode bc_S_leadAll 3 = .ok (.bipush 8, 2) := by decide +kernel
theorem dc_S_leadAll_5 : decode bc_S_leadAll 5 = .ok (.if_icmp .ge 27, 3) := by decide +kernel
theorem dc_S_leadAll_32 : decode bc_S_leadAll 32 = .ok (.return_, 1) := by decide +kernel
theorem dc_S_leadAll_8 : decode bc_S_leadAll 8 = .ok (.aload_n 0, 1) := by decide +kernel
theorem dc_S_leadAll_9 : decode bc_S_leadAll 9 = .ok (.aload_n 1, 1) := by decide +kernel
theorem dc_S_leadAll_10 : decode bc_S_leadAll 10 = .ok (.iload_n 3, 1) := by decide +kernel
theorem dc_S_leadAll_11 : decode bc_S_leadAll 11 = .ok (.aload_n 2, 1) := by decide +kernel
theorem dc_S_leadAll_12 : decode bc_S_leadAll 12 = .ok (.getfield 63, 3) := by decide +kernel
theorem dc_S_leadAll_15 : decode bc_S_leadAll 15 = .ok (.iload_n 3, 1) := by decide +kernel
theorem dc_S_leadAll_16 : decode bc_S_leadAll 16 = .ok (.iaload, 1) := by decide +kernel
theorem dc_S_leadAll_17 : decode bc_S_leadAll 17 = .ok (.aload_n 2, 1) := by decide +kernel
theorem dc_S_leadAll_18 : decode bc_S_leadAll 18 = .ok (.getfield 82, 3) := by decide +kernel
theorem dc_S_leadAll_21 : decode bc_S_leadAll 21 = .ok (.iload_n 3, 1) := by decide +kernel
theorem dc_S_leadAll_22 : decode bc_S_leadAll 22 = .ok (.iaload, 1) := by decide +kernel
theorem dc_S_leadAll_23 : decode bc_S_leadAll 23 = .ok (.invokevirtual 94, 3) := by decide +kernel
theorem dc_S_leadAll_26 : decode bc_S_leadAll 26 = .ok (.iinc 3 1, 3) := by decide +kernel
theorem dc_S_leadAll_29 : decode bc_S_leadAll 29 = .ok (.goto (-27), 3) := by decide +kernel
theorem dc_R_keep_0 : decode bc_R_keep 0 = .ok (.iconst 0, 1) := by decide +kernel
theorem dc_R_keep_1 : decode bc_R_keep 1 = .ok (.istore_n 1, 1) := by decide +kernel
theorem dc_R_keep_2 : decode bc_R_keep 2 = .ok (.iload_n 1, 1) := by decide +kernel
theorem dc_R_keep_3 : decode bc_R_keep 3 = .ok (.ldc 7, 2) := by decide +kernel
theorem dc_R_keep_5 : decode bc_R_keep 5 = .ok (.if_icmp .ge 21, 3) := by decide +kernel
theorem dc_R_keep_26 : decode bc_R_keep 26 = .ok (.iconst 0, 1) := by decide +kernel
theorem dc_R_keep_27 : decode bc_R_keep 27 = .ok (.istore_n 1, 1) := by decide +kernel
theorem dc_R_keep_28 : decode bc_R_keep 28 = .ok (.iload_n 1, 1) := by decide +kernel
theorem dc_R_keep_29 : decode bc_R_keep 29 = .ok (.bipush 8, 2) := by decide +kernel
theorem dc_R_keep_31 : decode bc_R_keep 31 = .ok (.if_icmp .ge 21, 3) := by decide +kernel
theorem dc_R_keep_52 : decode bc_R_keep 52 = .ok (.aload_n 0, 1) := by decide +kernel
theorem dc_R_keep_53 : decode bc_R_keep 53 = .ok (.invokevirtual 34, 3) := by decide +kernel
theorem dc_R_keep_56 : decode bc_R_keep 56 = .ok (.ireturn, 1) := by decide +kernel
theorem dc_R_keep_34 : decode bc_R_keep 34 = .ok (.aload_n 0, 1) := by decide +kernel
theorem dc_R_keep_35 : decode bc_R_keep 35 = .ok (.getfield 20, 3) := by decide +kernel
theorem dc_R_keep_38 : decode bc_R_keep 38 = .ok (.iload_n 1, 1) := by decide +kernel
theorem dc_R_keep_39 : decode bc_R_keep 39 = .ok (.aload_n 0, 1) := by decide +kernel
theorem dc_R_keep_40 : decode bc_R_keep 40 = .ok (.getfield 17, 3) := by decide +kernel
theorem dc_R_keep_43 : decode bc_R_keep 43 = .ok (.iload_n 1, 1) := by decide +kernel
theorem dc_R_keep_44 : decode bc_R_keep 44 = .ok (.iaload, 1) := by decide +kernel
theorem dc_R_keep_45 : decode bc_R_keep 45 = .ok (.iastore, 1) := by decide +kernel
theorem dc_R_keep_46 : decode bc_R_keep 46 = .ok (.iinc 1 1, 3) := by decide +kernel
theorem dc_R_keep_49 : decode bc_R_keep 49 = .ok (.goto (-21), 3) := by decide +kernel
theorem dc_R_keep_8 : decode bc_R_keep 8 = .ok (.aload_n 0, 1) := by decide +kernel
theorem dc_R_keep_9 : decode bc_R_keep 9 = .ok (.getfield 14, 3) := by decide +kernel
theorem dc_R_keep_12 : decode bc_R_keep 12 = .ok (.iload_n 1, 1) := by decide +kernel
theorem dc_R_keep_13 : decode bc_R_keep 13 = .ok (.aload_n 0, 1) := by decide +kernel
theorem dc_R_keep_14 : decode bc_R_keep 14 = .ok (.getfield 8, 3) := by decide +kernel
theorem dc_R_keep_17 : decode bc_R_keep 17 = .ok (.iload_n 1, 1) := by decide +kernel
theorem dc_R_keep_18 : decode bc_R_keep 18 = .ok (.iaload, 1) := by decide +kernel
theorem dc_R_keep_19 : decode bc_R_keep 19 = .ok (.iastore, 1) := by decide +kernel
theorem dc_R_keep_20 : decode bc_R_keep 20 = .ok (.iinc 1 1, 3) := by decide +kernel
theorem dc_R_keep_23 : decode bc_R_keep 23 = .ok (.goto (-21), 3) := by decide +kernel
theorem dc_S_back_0 : decode bc_S_back 0 = .ok (.aload_n 0, 1) := by decide +kernel
theorem dc_S_back_1 : decode bc_S_back 1 = .ok (.aload_n 0, 1) := by decide +kernel
theorem dc_S_back_2 : decode bc_S_back 2 = .ok (.getfield 46, 3) := by decide +kernel
theorem dc_S_back_5 : decode bc_S_back 5 = .ok (.aload_n 0, 1) := by decide +kernel
theorem dc_S_back_6 : decode bc_S_back 6 = .ok (.getfield 50, 3) := by decide +kernel
theorem dc_S_back_9 : decode bc_S_back 9 = .ok (.invokevirtual 98, 3) := by decide +kernel
theorem dc_S_back_12 : decode bc_S_back 12 = .ok (.aload_n 0, 1) := by decide +kernel
theorem dc_S_back_13 : decode bc_S_back 13 = .ok (.getfield 46, 3) := by decide +kernel
theorem dc_S_back_16 : decode bc_S_back 16 = .ok (.getfield 70, 3) := by decide +kernel
theorem dc_S_back_19 : decode bc_S_back 19 = .ok (.ireturn, 1) := by decide +kernel
theorem dc_R_back_0 : decode bc_R_back 0 = .ok (.iconst 0, 1) := by decide +kernel
theorem dc_R_back_1 : decode bc_R_back 1 = .ok (.istore_n 1, 1) := by decide +kernel
theorem dc_R_back_2 : decode bc_R_back 2 = .ok (.iload_n 1, 1) := by decide +kernel
theorem dc_R_back_3 : decode bc_R_back 3 = .ok (.ldc 7, 2) := by decide +kernel
theorem dc_R_back_5 : decode bc_R_back 5 = .ok (.if_icmp .ge 21, 3) := by decide +kernel
theorem dc_R_back_26 : decode bc_R_back 26 = .ok (.iconst 0, 1) := by decide +kernel
theorem dc_R_back_27 : decode bc_R_back 27 = .ok (.istore_n 1, 1) := by decide +kernel
theorem dc_R_back_28 : decode bc_R_back 28 = .ok (.iload_n 1, 1) := by decide +kernel
theorem dc_R_back_29 : decode bc_R_back 29 = .ok (.bipush 8, 2) := by decide +kernel
theorem dc_R_back_31 : decode bc_R_back 31 = .ok (.if_icmp .ge 21, 3) := by decide +kernel
theorem dc_R_back_52 : decode bc_R_back 52 = .ok (.aload_n 0, 1) := by decide +kernel
theorem dc_R_back_53 : decode bc_R_back 53 = .ok (.invokevirtual 34, 3) := by decide +kernel
theorem dc_R_back_56 : decode bc_R_back 56 = .ok (.ireturn, 1) := by decide +kernel
theorem dc_R_back_34 : decode bc_R_back 34 = .ok (.aload_n 0, 1) := by decide +kernel
theorem dc_R_back_35 : decode bc_R_back 35 = .ok (.getfield 17, 3) := by decide +kernel
theorem dc_R_back_38 : decode bc_R_back 38 = .ok (.iload_n 1, 1) := by decide +kernel
theorem dc_R_back_39 : decode bc_R_back 39 = .ok (.aload_n 0, 1) := by decide +kernel
theorem dc_R_back_40 : decode bc_R_back 40 = .ok (.getfield 20, 3) := by decide +kernel
theorem dc_R_back_43 : decode bc_R_back 43 = .ok (.iload_n 1, 1) := by decide +kernel
theorem dc_R_back_44 : decode bc_R_back 44 = .ok (.iaload, 1) := by decide +kernel
theorem dc_R_back_45 : decode bc_R_back 45 = .ok (.iastore, 1) := by decide +kernel
theorem dc_R_back_46 : decode bc_R_back 46 = .ok (.iinc 1 1, 3) := by decide +kernel
theorem dc_R_back_49 : decode bc_R_back 49 = .ok (.goto (-21), 3) := by decide +kernel
theorem dc_R_back_8 : decode bc_R_back 8 = .ok (.aload_n 0, 1) := by decide +kernel
theorem dc_R_back_9 : decode bc_R_back 9 = .ok (.getfield 8, 3) := by decide +kernel
theorem dc_R_back_12 : decode bc_R_back 12 = .ok (.iload_n 1, 1) := by decide +kernel
theorem dc_R_back_13 : decode bc_R_back 13 = .ok (.aload_n 0, 1) := by decide +kernel
theorem dc_R_back_14 : decode bc_R_back 14 = .ok (.getfield 14, 3) := by decide +kernel
theorem dc_R_back_17 : decode bc_R_back 17 = .ok (.iload_n 1, 1) := by decide +kernel
theorem dc_R_back_18 : decode bc_R_back 18 = .ok (.iaload, 1) := by decide +kernel
theorem dc_R_back_19 : decode bc_R_back 19 = .ok (.iastore, 1) := by decide +kernel
theorem dc_R_back_20 : decode bc_R_back 20 = .ok (.iinc 1 1, 3) := by decide +kernel
theorem dc_R_back_23 : decode bc_R_back 23 = .ok (.goto (-21), 3) := by decide +kernel
theorem dc_S_keys_0 : decode bc_S_keys 0 = .ok (.iload_n 1, 1) := by decide +kernel
theorem dc_S_keys_1 : decode bc_S_keys 1 = .ok (.iconst (-1), 1) := by decide +kernel
theorem dc_S_keys_2 : decode bc_S_keys 2 = .ok (.if_icmp .ne 11, 3) := by decide +kernel
theorem dc_S_keys_13 : decode bc_S_keys 13 = .ok (.iload_n 1, 1) := by decide +kernel
theorem dc_S_keys_14 : decode bc_S_keys 14 = .ok (.invokestatic 53, 3) := by decide +kernel
theorem dc_S_keys_17 : decode bc_S_keys 17 = .ok (.ifCond .eq 15, 3) := by decide +kernel
theorem dc_S_keys_32 : decode bc_S_keys 32 = .ok (.iconst (-1), 1) := by decide +kernel
theorem dc_S_keys_33 : decode bc_S_keys 33 = .ok (.ireturn, 1) := by decide +kernel
theorem dc_S_keys_20 : decode bc_S_keys 20 = .ok (.aload_n 0, 1) := by decide +kernel
theorem dc_S_keys_21 : decode bc_S_keys 21 = .ok (.getfield 46, 3) := by decide +kernel
theorem dc_S_keys_24 : decode bc_S_keys 24 = .ok (.getfield 82, 3) := by decide +kernel
theorem dc_S_keys_27 : decode bc_S_keys 27 = .ok (.iload_n 1, 1) := by decide +kernel
theorem dc_S_keys_28 : decode bc_S_keys 28 = .ok (.iaload, 1) := by decide +kernel
theorem dc_S_keys_29 : decode bc_S_keys 29 = .ok (.goto 4, 3) := by decide +kernel
theorem dc_S_keys_5 : decode bc_S_keys 5 = .ok (.aload_n 0, 1) := by decide +kernel
theorem dc_S_keys_6 : decode bc_S_keys 6 = .ok (.getfield 46, 3) := by decide +kernel
theorem dc_S_keys_9 : decode bc_S_keys 9 = .ok (.getfield 70, 3) := by decide +kernel
theorem dc_S_keys_12 : decode bc_S_keys 12 = .ok (.ireturn, 1) := by decide +kernel
theorem dc_R_keys_0 : decode bc_R_keys 0 = .ok (.iload_n 1, 1) := by decide +kernel
theorem dc_R_keys_1 : decode bc_R_keys 1 = .ok (.iconst (-1), 1) := by decide +kernel
theorem dc_R_keys_2 : decode bc_R_keys 2 = .ok (.if_icmp .ne 10, 3) := by decide +kernel
theorem dc_R_keys_12 : decode bc_R_keys 12 = .ok (.iload_n 1, 1) := by decide +kernel
theorem dc_R_keys_13 : decode bc_R_keys 13 = .ok (.invokestatic 24, 3) := by decide +kernel
theorem dc_R_keys_16 : decode bc_R_keys 16 = .ok (.ifCond .eq 12, 3) := by decide +kernel
theorem dc_R_keys_28 : decode bc_R_keys 28 = .ok (.iconst (-1), 1) := by decide +kernel
theorem dc_R_keys_29 : decode bc_R_keys 29 = .ok (.ireturn, 1) := by decide +kernel
theorem dc_R_keys_19 : decode bc_R_keys 19 = .ok (.aload_n 0, 1) := by decide +kernel
theorem dc_R_keys_20 : decode bc_R_keys 20 = .ok (.getfield 17, 3) := by decide +kernel
theorem dc_R_keys_23 : decode bc_R_keys 23 = .ok (.iload_n 1, 1) := by decide +kernel
theorem dc_R_keys_24 : decode bc_R_keys 24 = .ok (.iaload, 1) := by decide +kernel
theorem dc_R_keys_25 : decode bc_R_keys 25 = .ok (.goto 4, 3) := by decide +kernel
theorem dc_R_keys_5 : decode bc_R_keys 5 = .ok (.aload_n 0, 1) := by decide +kernel
theorem dc_R_keys_6 : decode bc_R_keys 6 = .ok (.invokevirtual 34, 3) := by decide +kernel
theorem dc_R_keys_9 : decode bc_R_keys 9 = .ok (.goto 20, 3) := by decide +kernel
theorem dc_S_check_0 : decode bc_S_check 0 = .ok (.aload_n 0, 1) := by decide +kernel
theorem dc_S_check_1 : decode bc_S_check 1 = .ok (.getfield 39, 3) := by decide +kernel
theorem dc_S_check_4 : decode bc_S_check 4 = .ok (.aload_n 0, 1) := by decide +kernel
theorem dc_S_check_5 : decode bc_S_check 5 = .ok (.getfield 46, 3) := by decide +kernel
theorem dc_S_check_8 : decode bc_S_check 8 = .ok (.aload_n 0, 1) := by decide +kernel
theorem dc_S_check_9 : decode bc_S_check 9 = .ok (.getfield 50, 3) := by decide +kernel
theorem dc_S_check_12 : decode bc_S_check 12 = .ok (.invokevirtual 102, 3) := by decide +kernel
theorem dc_S_check_15 : decode bc_S_check 15 = .ok (.ireturn, 1) := by decide +kernel
theorem dc_I_firstFault_0 : decode bc_I_firstFault 0 = .ok (.iconst 0, 1) := by decide +kernel
