theorem dc_I_faultOfWays_41 : decode bc_I_faultOfWays 41 = .ok (.aload_n 0, 1) := by decide +kernel
theorem dc_I_faultOfWays_42 : decode bc_I_faultOfWays 42 = .ok (.getfield 21, 3) := by decide +kernel
theorem dc_I_faultOfWays_45 : decode bc_I_faultOfWays 45 = .ok (.iload_n 1, 1) := by decide +kernel
theorem dc_I_faultOfWays_46 : decode bc_I_faultOfWays 46 = .ok (.baload, 1) := by decide +kernel
theorem dc_I_faultOfWays_47 : decode bc_I_faultOfWays 47 = .ok (.iload_n 2, 1) := by decide +kernel
theorem dc_I_faultOfWays_48 : decode bc_I_faultOfWays 48 = .ok (.if_icmp .eq 5, 3) := by decide +kernel
theorem dc_I_faultOfWays_53 : decode bc_I_faultOfWays 53 = .ok (.iinc 1 1, 3) := by decide +kernel
theorem dc_I_faultOfWays_56 : decode bc_I_faultOfWays 56 = .ok (.goto (-54), 3) := by decide +kernel
theorem dc_I_faultOfWays_18 : decode bc_I_faultOfWays 18 = .ok (.iconst 1, 1) := by decide +kernel
theorem dc_I_faultOfWays_19 : decode bc_I_faultOfWays 19 = .ok (.goto 4, 3) := by decide +kernel
theorem dc_I_faultOfFree_0 : decode bc_I_faultOfFree 0 = .ok (.aload_n 0, 1) := by decide +kernel
theorem dc_I_faultOfFree_1 : decode bc_I_faultOfFree 1 = .ok (.getfield 25, 3) := by decide +kernel
theorem dc_I_faultOfFree_4 : decode bc_I_faultOfFree 4 = .ok (.invokevirtual 103, 3) := by decide +kernel
theorem dc_I_faultOfFree_7 : decode bc_I_faultOfFree 7 = .ok (.istore_n 1, 1) := by decide +kernel
theorem dc_I_faultOfFree_8 : decode bc_I_faultOfFree 8 = .ok (.iload_n 1, 1) := by decide +kernel
theorem dc_I_faultOfFree_9 : decode bc_I_faultOfFree 9 = .ok (.ifCond .lt 10, 3) := by decide +kernel
theorem dc_I_faultOfFree_19 : decode bc_I_faultOfFree 19 = .ok (.sipush 1218, 3) := by decide +kernel
theorem dc_I_faultOfFree_22 : decode bc_I_faultOfFree 22 = .ok (.ireturn, 1) := by decide +kernel
theorem dc_I_faultOfFree_12 : decode bc_I_faultOfFree 12 = .ok (.iload_n 1, 1) := by decide +kernel
theorem dc_I_faultOfFree_13 : decode bc_I_faultOfFree 13 = .ok (.sipush 1200, 3) := by decide +kernel
theorem dc_I_faultOfFree_16 : decode bc_I_faultOfFree 16 = .ok (.if_icmp .le 7, 3) := by decide +kernel
theorem dc_I_faultOfFree_23 : decode bc_I_faultOfFree 23 = .ok (.iconst 0, 1) := by decide +kernel
theorem dc_I_faultOfFree_24 : decode bc_I_faultOfFree 24 = .ok (.istore_n 2, 1) := by decide +kernel
theorem dc_I_faultOfFree_25 : decode bc_I_faultOfFree 25 = .ok (.iload_n 2, 1) := by decide +kernel
theorem dc_I_faultOfFree_26 : decode bc_I_faultOfFree 26 = .ok (.iload_n 1, 1) := by decide +kernel
theorem dc_I_faultOfFree_27 : decode bc_I_faultOfFree 27 = .ok (.if_icmp .ge 49, 3) := by decide +kernel
theorem dc_I_faultOfFree_76 : decode bc_I_faultOfFree 76 = .ok (.iconst 0, 1) := by decide +kernel
theorem dc_I_faultOfFree_77 : decode bc_I_faultOfFree 77 = .ok (.ireturn, 1) := by decide +kernel
theorem dc_I_faultOfFree_30 : decode bc_I_faultOfFree 30 = .ok (.aload_n 0, 1) := by decide +kernel
theorem dc_I_faultOfFree_31 : decode bc_I_faultOfFree 31 = .ok (.getfield 25, 3) := by decide +kernel
theorem dc_I_faultOfFree_34 : decode bc_I_faultOfFree 34 = .ok (.iload_n 2, 1) := by decide +kernel
theorem dc_I_faultOfFree_35 : decode bc_I_faultOfFree 35 = .ok (.invokevirtual 106, 3) := by decide +kernel
theorem dc_I_faultOfFree_38 : decode bc_I_faultOfFree 38 = .ok (.istore_n 3, 1) := by decide +kernel
theorem dc_I_faultOfFree_39 : decode bc_I_faultOfFree 39 = .ok (.aload_n 0, 1) := by decide +kernel
theorem dc_I_faultOfFree_40 : decode bc_I_faultOfFree 40 = .ok (.getfield 25, 3) := by decide +kernel
theorem dc_I_faultOfFree_43 : decode bc_I_faultOfFree 43 = .ok (.iload_n 3, 1) := by decide +kernel
theorem dc_I_faultOfFree_44 : decode bc_I_faultOfFree 44 = .ok (.invokevirtual 66, 3) := by decide +kernel
theorem dc_I_faultOfFree_47 : decode bc_I_faultOfFree 47 = .ok (.ifCond .eq 12, 3) := by decide +kernel
theorem dc_I_faultOfFree_59 : decode bc_I_faultOfFree 59 = .ok (.sipush 1218, 3) := by decide +kernel
theorem dc_I_faultOfFree_62 : decode bc_I_faultOfFree 62 = .ok (.ireturn, 1) := by decide +kernel
theorem dc_I_faultOfFree_50 : decode bc_I_faultOfFree 50 = .ok (.aload_n 0, 1) := by decide +kernel
theorem dc_I_faultOfFree_51 : decode bc_I_faultOfFree 51 = .ok (.getfield 21, 3) := by decide +kernel
theorem dc_I_faultOfFree_54 : decode bc_I_faultOfFree 54 = .ok (.iload_n 3, 1) := by decide +kernel
theorem dc_I_faultOfFree_55 : decode bc_I_faultOfFree 55 = .ok (.baload, 1) := by decide +kernel
theorem dc_I_faultOfFree_56 : decode bc_I_faultOfFree 56 = .ok (.ifCond .eq 7, 3) := by decide +kernel
theorem dc_I_faultOfFree_63 : decode bc_I_faultOfFree 63 = .ok (.aload_n 0, 1) := by decide +kernel
theorem dc_I_faultOfFree_64 : decode bc_I_faultOfFree 64 = .ok (.getfield 21, 3) := by decide +kernel
theorem dc_I_faultOfFree_67 : decode bc_I_faultOfFree 67 = .ok (.iload_n 3, 1) := by decide +kernel
theorem dc_I_faultOfFree_68 : decode bc_I_faultOfFree 68 = .ok (.iconst 1, 1) := by decide +kernel
theorem dc_I_faultOfFree_69 : decode bc_I_faultOfFree 69 = .ok (.bastore, 1) := by decide +kernel
theorem dc_I_faultOfFree_70 : decode bc_I_faultOfFree 70 = .ok (.iinc 2 1, 3) := by decide +kernel
theorem dc_I_faultOfFree_73 : decode bc_I_faultOfFree 73 = .ok (.goto (-48), 3) := by decide +kernel
theorem dc_B_freeCount_0 : decode bc_B_freeCount 0 = .ok (.aload_n 0, 1) := by decide +kernel
theorem dc_B_freeCount_1 : decode bc_B_freeCount 1 = .ok (.getfield 24, 3) := by decide +kernel
theorem dc_B_freeCount_4 : decode bc_B_freeCount 4 = .ok (.ireturn, 1) := by decide +kernel
theorem dc_B_freeBlock_0 : decode bc_B_freeBlock 0 = .ok (.iload_n 1, 1) := by decide +kernel
theorem dc_B_freeBlock_1 : decode bc_B_freeBlock 1 = .ok (.ifCond .lt 27, 3) := by decide +kernel
theorem dc_B_freeBlock_28 : decode bc_B_freeBlock 28 = .ok (.iconst 0, 1) := by decide +kernel
theorem dc_B_freeBlock_29 : decode bc_B_freeBlock 29 = .ok (.ireturn, 1) := by decide +kernel
theorem dc_B_freeBlock_4 : decode bc_B_freeBlock 4 = .ok (.iload_n 1, 1) := by decide +kernel
theorem dc_B_freeBlock_5 : decode bc_B_freeBlock 5 = .ok (.aload_n 0, 1) := by decide +kernel
theorem dc_B_freeBlock_6 : decode bc_B_freeBlock 6 = .ok (.getfield 24, 3) := by decide +kernel
theorem dc_B_freeBlock_9 : decode bc_B_freeBlock 9 = .ok (.if_icmp .ge 19, 3) := by decide +kernel
theorem dc_B_freeBlock_12 : decode bc_B_freeBlock 12 = .ok (.iload_n 1, 1) := by decide +kernel
theorem dc_B_freeBlock_13 : decode bc_B_freeBlock 13 = .ok (.sipush 1200, 3) := by decide +kernel
theorem dc_B_freeBlock_16 : decode bc_B_freeBlock 16 = .ok (.if_icmp .ge 12, 3) := by decide +kernel
theorem dc_B_freeBlock_19 : decode bc_B_freeBlock 19 = .ok (.aload_n 0, 1) := by decide +kernel
theorem dc_B_freeBlock_20 : decode bc_B_freeBlock 20 = .ok (.getfield 21, 3) := by decide +kernel
theorem dc_B_freeBlock_23 : decode bc_B_freeBlock 23 = .ok (.iload_n 1, 1) := by decide +kernel
theorem dc_B_freeBlock_24 : decode bc_B_freeBlock 24 = .ok (.iaload, 1) := by decide +kernel
theorem dc_B_freeBlock_25 : decode bc_B_freeBlock 25 = .ok (.goto 4, 3) := by decide +kernel
theorem dc_R_check_0 : decode bc_R_check 0 = .ok (.iconst 0, 1) := by decide +kernel
theorem dc_R_check_1 : decode bc_R_check 1 = .ok (.ireturn, 1) := by decide +kernel
