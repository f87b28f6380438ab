theorem dc_I_faultOfFree_56 : decode bc_I_faultOfFree 56 = .ok (.ifCond .eq 7, 3) := by decide +kernel
theorem dc_I_faultOfFree_63 : decode bc_I_faultOfFree 63 = .ok (.aload_n 0, 1) := by decide +kernel
theorem dc_I_faultOfFree_64 : decode bc_I_faultOfFree 64 = .ok (.getfield 21, 3) := by decide +kernel
theorem dc_I_faultOfFree_67 : decode bc_I_faultOfFree 67 = .ok (.iload_n 3, 1) := by decide +kernel
theorem dc_I_faultOfFree_68 : decode bc_I_faultOfFree 68 = .ok (.iconst 1, 1) := by decide +kernel
theorem dc_I_faultOfFree_69 : decode bc_I_faultOfFree 69 = .ok (.bastore, 1) := by decide +kernel
theorem dc_I_faultOfFree_70 : decode bc_I_faultOfFree 70 = .ok (.iinc 2 1, 3) := by decide +kernel
theorem dc_I_faultOfFree_73 : decode bc_I_faultOfFree 73 = .ok (.goto (-48), 3) := by decide +kernel
theorem dc_B_freeCount_0 : decode bc_B_freeCount 0 = .ok (.aload_n 0, 1) := by decide +kernel
theorem dc_B_freeCount_1 : decode bc_B_freeCount 1 = .ok (.getfield 24, 3) := by decide +kernel
theorem dc_B_freeCount_4 : decode bc_B_freeCount 4 = .ok (.ireturn, 1) := by decide +kernel
theorem dc_B_freeBlock_0 : decode bc_B_freeBlock 0 = .ok (.iload_n 1, 1) := by decide +kernel
theorem dc_B_freeBlock_1 : decode bc_B_freeBlock 1 = .ok (.ifCond .lt 27, 3) := by decide +kernel
theorem dc_B_freeBlock_28 : decode bc_B_freeBlock 28 = .ok (.iconst 0, 1) := by decide +kernel
theorem dc_B_freeBlock_29 : decode bc_B_freeBlock 29 = .ok (.ireturn, 1) := by decide +kernel
theorem dc_B_freeBlock_4 : decode bc_B_freeBlock 4 = .ok (.iload_n 1, 1) := by decide +kernel
theorem dc_B_freeBlock_5 : decode bc_B_freeBlock 5 = .ok (.aload_n 0, 1) := by decide +kernel
theorem dc_B_freeBlock_6 : decode bc_B_freeBlock 6 = .ok (.getfield 24, 3) := by decide +kernel
theorem dc_B_freeBlock_9 : decode bc_B_freeBlock 9 = .ok (.if_icmp .ge 19, 3) := by decide +kernel
theorem dc_B_freeBlock_12 : decode bc_B_freeBlock 12 = .ok (.iload_n 1, 1) := by decide +kernel
theorem dc_B_freeBlock_13 : decode bc_B_freeBlock 13 = .ok (.sipush 1200, 3) := by decide +kernel
theorem dc_B_freeBlock_16 : decode bc_B_freeBlock 16 = .ok (.if_icmp .ge 12, 3) := by decide +kernel
theorem dc_B_freeBlock_19 : decode bc_B_freeBlock 19 = .ok (.aload_n 0, 1) := by decide +kernel
theorem dc_B_freeBlock_20 : decode bc_B_freeBlock 20 = .ok (.getfield 21, 3) := by decide +kernel
theorem dc_B_freeBlock_23 : decode bc_B_freeBlock 23 = .ok (.iload_n 1, 1) := by decide +kernel
theorem dc_B_freeBlock_24 : decode bc_B_freeBlock 24 = .ok (.iaload, 1) := by decide +kernel
theorem dc_B_freeBlock_25 : decode bc_B_freeBlock 25 = .ok (.goto 4, 3) := by decide +kernel
theorem dc_R_check_0 : decode bc_R_check 0 = .ok (.iconst 0, 1) := by decide +kernel
theorem dc_R_check_1 : decode bc_R_check 1 = .ok (.ireturn, 1) := by decide +kernel
