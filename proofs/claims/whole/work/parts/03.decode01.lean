theorem dc_B_copyEntries_22 : decode bc_B_copyEntries 22 = .ok (.getfield 28, 3) := by decide +kernel
theorem dc_B_copyEntries_25 : decode bc_B_copyEntries 25 = .ok (.imul, 1) := by decide +kernel
theorem dc_B_copyEntries_26 : decode bc_B_copyEntries 26 = .ok (.aload_n 0, 1) := by decide +kernel
theorem dc_B_copyEntries_27 : decode bc_B_copyEntries 27 = .ok (.getfield 31, 3) := by decide +kernel
theorem dc_B_copyEntries_30 : decode bc_B_copyEntries 30 = .ok (.iload_n 2, 1) := by decide +kernel
theorem dc_B_copyEntries_31 : decode bc_B_copyEntries 31 = .ok (.aload_n 0, 1) := by decide +kernel
theorem dc_B_copyEntries_32 : decode bc_B_copyEntries 32 = .ok (.getfield 28, 3) := by decide +kernel
theorem dc_B_copyEntries_35 : decode bc_B_copyEntries 35 = .ok (.imul, 1) := by decide +kernel
theorem dc_B_copyEntries_36 : decode bc_B_copyEntries 36 = .ok (.aload_n 0, 1) := by decide +kernel
theorem dc_B_copyEntries_37 : decode bc_B_copyEntries 37 = .ok (.getfield 28, 3) := by decide +kernel
theorem dc_B_copyEntries_40 : decode bc_B_copyEntries 40 = .ok (.invokestatic 77, 3) := by decide +kernel
theorem dc_B_copyEntries_43 : decode bc_B_copyEntries 43 = .ok (.aload_n 0, 1) := by decide +kernel
theorem dc_B_copyEntries_44 : decode bc_B_copyEntries 44 = .ok (.getfield 34, 3) := by decide +kernel
theorem dc_B_copyEntries_47 : decode bc_B_copyEntries 47 = .ok (.iload_n 1, 1) := by decide +kernel
theorem dc_B_copyEntries_48 : decode bc_B_copyEntries 48 = .ok (.aload_n 0, 1) := by decide +kernel
theorem dc_B_copyEntries_49 : decode bc_B_copyEntries 49 = .ok (.getfield 28, 3) := by decide +kernel
theorem dc_B_copyEntries_52 : decode bc_B_copyEntries 52 = .ok (.imul, 1) := by decide +kernel
theorem dc_B_copyEntries_53 : decode bc_B_copyEntries 53 = .ok (.aload_n 0, 1) := by decide +kernel
theorem dc_B_copyEntries_54 : decode bc_B_copyEntries 54 = .ok (.getfield 34, 3) := by decide +kernel
theorem dc_B_copyEntries_57 : decode bc_B_copyEntries 57 = .ok (.iload_n 2, 1) := by decide +kernel
theorem dc_B_copyEntries_58 : decode bc_B_copyEntries 58 = .ok (.aload_n 0, 1) := by decide +kernel
theorem dc_B_copyEntries_59 : decode bc_B_copyEntries 59 = .ok (.getfield 28, 3) := by decide +kernel
theorem dc_B_copyEntries_62 : decode bc_B_copyEntries 62 = .ok (.imul, 1) := by decide +kernel
theorem dc_B_copyEntries_63 : decode bc_B_copyEntries 63 = .ok (.aload_n 0, 1) := by decide +kernel
theorem dc_B_copyEntries_64 : decode bc_B_copyEntries 64 = .ok (.getfield 28, 3) := by decide +kernel
theorem dc_B_copyEntries_67 : decode bc_B_copyEntries 67 = .ok (.invokestatic 77, 3) := by decide +kernel
theorem dc_B_copyEntries_70 : decode bc_B_copyEntries 70 = .ok (.aload_n 0, 1) := by decide +kernel
theorem dc_B_copyEntries_71 : decode bc_B_copyEntries 71 = .ok (.getfield 18, 3) := by decide +kernel
theorem dc_B_copyEntries_74 : decode bc_B_copyEntries 74 = .ok (.iload_n 2, 1) := by decide +kernel
theorem dc_B_copyEntries_75 : decode bc_B_copyEntries 75 = .ok (.aload_n 0, 1) := by decide +kernel
theorem dc_B_copyEntries_76 : decode bc_B_copyEntries 76 = .ok (.getfield 18, 3) := by decide +kernel
theorem dc_B_copyEntries_79 : decode bc_B_copyEntries 79 = .ok (.iload_n 1, 1) := by decide +kernel
theorem dc_B_copyEntries_80 : decode bc_B_copyEntries 80 = .ok (.iaload, 1) := by decide +kernel
theorem dc_B_copyEntries_81 : decode bc_B_copyEntries 81 = .ok (.iastore, 1) := by decide +kernel
theorem dc_B_lose_0 : decode bc_B_lose 0 = .ok (.aload_n 0, 1) := by decide +kernel
theorem dc_B_lose_1 : decode bc_B_lose 1 = .ok (.iload_n 1, 1) := by decide +kernel
theorem dc_B_lose_2 : decode bc_B_lose 2 = .ok (.invokevirtual 37, 3) := by decide +kernel
theorem dc_B_lose_5 : decode bc_B_lose 5 = .ok (.ifCond .eq 12, 3) := by decide +kernel
theorem dc_B_lose_17 : decode bc_B_lose 17 = .ok (.iconst 0, 1) := by decide +kernel
theorem dc_B_lose_18 : decode bc_B_lose 18 = .ok (.ireturn, 1) := by decide +kernel
theorem dc_B_lose_8 : decode bc_B_lose 8 = .ok (.aload_n 0, 1) := by decide +kernel
theorem dc_B_lose_9 : decode bc_B_lose 9 = .ok (.getfield 9, 3) := by decide +kernel
theorem dc_B_lose_12 : decode bc_B_lose 12 = .ok (.iload_n 1, 1) := by decide +kernel
theorem dc_B_lose_13 : decode bc_B_lose 13 = .ok (.iaload, 1) := by decide +kernel
theorem dc_B_lose_14 : decode bc_B_lose 14 = .ok (.ifCond .gt 5, 3) := by decide +kernel
theorem dc_B_lose_19 : decode bc_B_lose 19 = .ok (.aload_n 0, 1) := by decide +kernel
theorem dc_B_lose_20 : decode bc_B_lose 20 = .ok (.getfield 9, 3) := by decide +kernel
theorem dc_B_lose_23 : decode bc_B_lose 23 = .ok (.iload_n 1, 1) := by decide +kernel
theorem dc_B_lose_24 : decode bc_B_lose 24 = .ok (.dup2, 1) := by decide +kernel
theorem dc_B_lose_25 : decode bc_B_lose 25 = .ok (.iaload, 1) := by decide +kernel
theorem dc_B_lose_26 : decode bc_B_lose 26 = .ok (.iconst 1, 1) := by decide +kernel
theorem dc_B_lose_27 : decode bc_B_lose 27 = .ok (.isub, 1) := by decide +kernel
theorem dc_B_lose_28 : decode bc_B_lose 28 = .ok (.iastore, 1) := by decide +kernel
theorem dc_B_lose_29 : decode bc_B_lose 29 = .ok (.aload_n 0, 1) := by decide +kernel
theorem dc_B_lose_30 : decode bc_B_lose 30 = .ok (.getfield 9, 3) := by decide +kernel
theorem dc_B_lose_33 : decode bc_B_lose 33 = .ok (.iload_n 1, 1) := by decide +kernel
theorem dc_B_lose_34 : decode bc_B_lose 34 = .ok (.iaload, 1) := by decide +kernel
theorem dc_B_lose_35 : decode bc_B_lose 35 = .ok (.ifCond .ne 7, 3) := by decide +kernel
theorem dc_B_lose_42 : decode bc_B_lose 42 = .ok (.iconst 0, 1) := by decide +kernel
theorem dc_B_lose_43 : decode bc_B_lose 43 = .ok (.ireturn, 1) := by decide +kernel
theorem dc_B_lose_38 : decode bc_B_lose 38 = .ok (.iconst 1, 1) := by decide +kernel
theorem dc_B_lose_39 : decode bc_B_lose 39 = .ok (.goto 4, 3) := by decide +kernel
theorem dc_B_share_0 : decode bc_B_share 0 = .ok (.aload_n 0, 1) := by decide +kernel
theorem dc_B_share_1 : decode bc_B_share 1 = .ok (.iload_n 1, 1) := by decide +kernel
theorem dc_B_share_2 : decode bc_B_share 2 = .ok (.invokevirtual 37, 3) := by decide +kernel
theorem dc_B_share_5 : decode bc_B_share 5 = .ok (.ifCond .eq 13, 3) := by decide +kernel
theorem dc_B_share_18 : decode bc_B_share 18 = .ok (.return_, 1) := by decide +kernel
theorem dc_B_share_8 : decode bc_B_share 8 = .ok (.aload_n 0, 1) := by decide +kernel
theorem dc_B_share_9 : decode bc_B_share 9 = .ok (.getfield 9, 3) := by decide +kernel
theorem dc_B_share_12 : decode bc_B_share 12 = .ok (.iload_n 1, 1) := by decide +kernel
theorem dc_B_share_13 : decode bc_B_share 13 = .ok (.dup2, 1) := by decide +kernel
theorem dc_B_share_14 : decode bc_B_share 14 = .ok (.iaload, 1) := by decide +kernel
theorem dc_B_share_15 : decode bc_B_share 15 = .ok (.iconst 1, 1) := by decide +kernel
theorem dc_B_share_16 : decode bc_B_share 16 = .ok (.iadd, 1) := by decide +kernel
theorem dc_B_share_17 : decode bc_B_share 17 = .ok (.iastore, 1) := by decide +kernel
theorem dc_T_putBelow_0 : decode bc_T_putBelow 0 = .ok (.iload_n 2, 1) := by decide +kernel
theorem dc_T_putBelow_1 : decode bc_T_putBelow 1 = .ok (.bipush 16, 2) := by decide +kernel
theorem dc_T_putBelow_3 : decode bc_T_putBelow 3 = .ok (.if_icmp .le 4, 3) := by decide +kernel
theorem dc_T_putBelow_7 : decode bc_T_putBelow 7 = .ok (.iload_n 2, 1) := by decide +kernel
theorem dc_T_putBelow_8 : decode bc_T_putBelow 8 = .ok (.ifCond .gt 12, 3) := by decide +kernel
theorem dc_T_putBelow_20 : decode bc_T_putBelow 20 = .ok (.aload_n 0, 1) := by decide +kernel
theorem dc_T_putBelow_21 : decode bc_T_putBelow 21 = .ok (.iload_n 1, 1) := by decide +kernel
theorem dc_T_putBelow_22 : decode bc_T_putBelow 22 = .ok (.iload_n 3, 1) := by decide +kernel
theorem dc_T_putBelow_23 : decode bc_T_putBelow 23 = .ok (.invokevirtual 31, 3) := by decide +kernel
theorem dc_T_putBelow_26 : decode bc_T_putBelow 26 = .ok (.istore 5, 2) := by decide +kernel
theorem dc_T_putBelow_28 : decode bc_T_putBelow 28 = .ok (.aload_n 0, 1) := by decide +kernel
theorem dc_T_putBelow_29 : decode bc_T_putBelow 29 = .ok (.iload_n 1, 1) := by decide +kernel
theorem dc_T_putBelow_30 : decode bc_T_putBelow 30 = .ok (.iload 5, 2) := by decide +kernel
theorem dc_T_putBelow_32 : decode bc_T_putBelow 32 = .ok (.invokevirtual 73, 3) := by decide +kernel
theorem dc_T_putBelow_35 : decode bc_T_putBelow 35 = .ok (.istore 6, 2) := by decide +kernel
theorem dc_T_putBelow_37 : decode bc_T_putBelow 37 = .ok (.aload_n 0, 1) := by decide +kernel
theorem dc_T_putBelow_38 : decode bc_T_putBelow 38 = .ok (.iload 6, 2) := by decide +kernel
theorem dc_T_putBelow_40 : decode bc_T_putBelow 40 = .ok (.iload_n 2, 1) := by decide +kernel
theorem dc_T_putBelow_41 : decode bc_T_putBelow 41 = .ok (.iconst 1, 1) := by decide +kernel
theorem dc_T_putBelow_42 : decode bc_T_putBelow 42 = .ok (.isub, 1) := by decide +kernel
theorem dc_T_putBelow_43 : decode bc_T_putBelow 43 = .ok (.iload_n 3, 1) := by decide +kernel
theorem dc_T_putBelow_44 : decode bc_T_putBelow 44 = .ok (.iload 4, 2) := by decide +kernel
theorem dc_T_putBelow_46 : decode bc_T_putBelow 46 = .ok (.invokevirtual 62, 3) := by decide +kernel
theorem dc_T_putBelow_49 : decode bc_T_putBelow 49 = .ok (.aload_n 0, 1) := by decide +kernel
theorem dc_T_putBelow_50 : decode bc_T_putBelow 50 = .ok (.getfield 9, 3) := by decide +kernel
theorem dc_T_putBelow_53 : decode bc_T_putBelow 53 = .ok (.iload_n 1, 1) := by decide +kernel
theorem dc_T_putBelow_54 : decode bc_T_putBelow 54 = .ok (.iload 5, 2) := by decide +kernel
theorem dc_T_putBelow_56 : decode bc_T_putBelow 56 = .ok (.aload_n 0, 1) := by decide +kernel
theorem dc_T_putBelow_57 : decode bc_T_putBelow 57 = .ok (.getfield 9, 3) := by decide +kernel
theorem dc_T_putBelow_60 : decode bc_T_putBelow 60 = .ok (.iload 6, 2) := by decide +kernel
theorem dc_T_putBelow_62 : decode bc_T_putBelow 62 = .ok (.iconst 0, 1) := by decide +kernel
theorem dc_T_putBelow_63 : decode bc_T_putBelow 63 = .ok (.invokevirtual 41, 3) := by decide +kernel
theorem dc_T_putBelow_66 : decode bc_T_putBelow 66 = .ok (.invokevirtual 76, 3) := by decide +kernel
theorem dc_T_putBelow_69 : decode bc_T_putBelow 69 = .ok (.aload_n 0, 1) := by decide +kernel
theorem dc_T_putBelow_70 : decode bc_T_putBelow 70 = .ok (.getfield 9, 3) := by decide +kernel
theorem dc_T_putBelow_73 : decode bc_T_putBelow 73 = .ok (.iload 6, 2) := by decide +kernel
theorem dc_T_putBelow_75 : decode bc_T_putBelow 75 = .ok (.invokevirtual 48, 3) := by decide +kernel
theorem dc_T_putBelow_78 : decode bc_T_putBelow 78 = .ok (.aload_n 0, 1) := by decide +kernel
theorem dc_T_putBelow_79 : decode bc_T_putBelow 79 = .ok (.getfield 15, 3) := by decide +kernel
theorem dc_T_putBelow_82 : decode bc_T_putBelow 82 = .ok (.if_icmp .le 10, 3) := by decide +kernel
theorem dc_T_putBelow_92 : decode bc_T_putBelow 92 = .ok (.return_, 1) := by decide +kernel
theorem dc_T_putBelow_85 : decode bc_T_putBelow 85 = .ok (.aload_n 0, 1) := by decide +kernel
theorem dc_T_putBelow_86 : decode bc_T_putBelow 86 = .ok (.iload_n 1, 1) := by decide +kernel
theorem dc_T_putBelow_87 : decode bc_T_putBelow 87 = .ok (.iload 5, 2) := by decide +kernel
theorem dc_T_putBelow_89 : decode bc_T_putBelow 89 = .ok (.invokevirtual 79, 3) := by decide +kernel
theorem dc_T_putBelow_11 : decode bc_T_putBelow 11 = .ok (.aload_n 0, 1) := by decide +kernel
theorem dc_T_putBelow_12 : decode bc_T_putBelow 12 = .ok (.iload_n 1, 1) := by decide +kernel
theorem dc_T_putBelow_13 : decode bc_T_putBelow 13 = .ok (.iload_n 3, 1) := by decide +kernel
theorem dc_T_putBelow_14 : decode bc_T_putBelow 14 = .ok (.iload 4, 2) := by decide +kernel
theorem dc_T_putBelow_16 : decode bc_T_putBelow 16 = .ok (.invokevirtual 69, 3) := by decide +kernel
theorem dc_T_putBelow_19 : decode bc_T_putBelow 19 = .ok (.return_, 1) := by decide +kernel
theorem dc_T_putBelow_6 : decode bc_T_putBelow 6 = .ok (.return_, 1) := by decide +kernel
theorem dc_T_ownedChild_0 : decode bc_T_ownedChild 0 = .ok (.aload_n 0, 1) := by decide +kernel
theorem dc_T_ownedChild_1 : decode bc_T_ownedChild 1 = .ok (.getfield 9, 3) := by decide +kernel
theorem dc_T_ownedChild_4 : decode bc_T_ownedChild 4 = .ok (.aload_n 0, 1) := by decide +kernel
theorem dc_T_ownedChild_5 : decode bc_T_ownedChild 5 = .ok (.getfield 9, 3) := by decide +kernel
theorem dc_T_ownedChild_8 : decode bc_T_ownedChild 8 = .ok (.iload_n 1, 1) := by decide +kernel
theorem dc_T_ownedChild_9 : decode bc_T_ownedChild 9 = .ok (.iload_n 2, 1) := by decide +kernel
theorem dc_T_ownedChild_10 : decode bc_T_ownedChild 10 = .ok (.invokevirtual 35, 3) := by decide +kernel
theorem dc_T_ownedChild_13 : decode bc_T_ownedChild 13 = .ok (.invokevirtual 59, 3) := by decide +kernel
theorem dc_T_ownedChild_16 : decode bc_T_ownedChild 16 = .ok (.istore_n 3, 1) := by decide +kernel
theorem dc_T_ownedChild_17 : decode bc_T_ownedChild 17 = .ok (.aload_n 0, 1) := by decide +kernel
theorem dc_T_ownedChild_18 : decode bc_T_ownedChild 18 = .ok (.getfield 9, 3) := by decide +kernel
theorem dc_T_ownedChild_21 : decode bc_T_ownedChild 21 = .ok (.iload_n 1, 1) := by decide +kernel
theorem dc_T_ownedChild_22 : decode bc_T_ownedChild 22 = .ok (.iload_n 2, 1) := by decide +kernel
theorem dc_T_ownedChild_23 : decode bc_T_ownedChild 23 = .ok (.iload_n 3, 1) := by decide +kernel
theorem dc_T_ownedChild_24 : decode bc_T_ownedChild 24 = .ok (.invokevirtual 83, 3) := by decide +kernel
theorem dc_T_ownedChild_27 : decode bc_T_ownedChild 27 = .ok (.iload_n 3, 1) := by decide +kernel
theorem dc_T_ownedChild_28 : decode bc_T_ownedChild 28 = .ok (.ireturn, 1) := by decide +kernel
theorem dc_B_setGoal_0 : decode bc_B_setGoal 0 = .ok (.aload_n 0, 1) := by decide +kernel
theorem dc_B_setGoal_1 : decode bc_B_setGoal 1 = .ok (.iload_n 1, 1) := by decide +kernel
theorem dc_B_setGoal_2 : decode bc_B_setGoal 2 = .ok (.iload_n 2, 1) := by decide +kernel
theorem dc_B_setGoal_3 : decode bc_B_setGoal 3 = .ok (.invokevirtual 41, 3) := by decide +kernel
theorem dc_B_setGoal_6 : decode bc_B_setGoal 6 = .ok (.ifCond .eq 17, 3) := by decide +kernel
theorem dc_B_setGoal_23 : decode bc_B_setGoal 23 = .ok (.return_, 1) := by decide +kernel
theorem dc_B_setGoal_9 : decode bc_B_setGoal 9 = .ok (.aload_n 0, 1) := by decide +kernel
theorem dc_B_setGoal_10 : decode bc_B_setGoal 10 = .ok (.getfield 34, 3) := by decide +kernel
theorem dc_B_setGoal_13 : decode bc_B_setGoal 13 = .ok (.iload_n 1, 1) := by decide +kernel
theorem dc_B_setGoal_14 : decode bc_B_setGoal 14 = .ok (.aload_n 0, 1) := by decide +kernel
theorem dc_B_setGoal_15 : decode bc_B_setGoal 15 = .ok (.getfield 28, 3) := by decide +kernel
theorem dc_B_setGoal_18 : decode bc_B_setGoal 18 = .ok (.imul, 1) := by decide +kernel
theorem dc_B_setGoal_19 : decode bc_B_setGoal 19 = .ok (.iload_n 2, 1) := by decide +kernel
theorem dc_B_setGoal_20 : decode bc_B_setGoal 20 = .ok (.iadd, 1) := by decide +kernel
theorem dc_B_setGoal_21 : decode bc_B_setGoal 21 = .ok (.iload_n 3, 1) := by decide +kernel
theorem dc_B_setGoal_22 : decode bc_B_setGoal 22 = .ok (.iastore, 1) := by decide +kernel
theorem dc_B_setKey_0 : decode bc_B_setKey 0 = .ok (.aload_n 0, 1) := by decide +kernel
theorem dc_B_setKey_1 : decode bc_B_setKey 1 = .ok (.iload_n 1, 1) := by decide +kernel
theorem dc_B_setKey_2 : decode bc_B_setKey 2 = .ok (.iload_n 2, 1) := by decide +kernel
theorem dc_B_setKey_3 : decode bc_B_setKey 3 = .ok (.invokevirtual 41, 3) := by decide +kernel
theorem dc_B_setKey_6 : decode bc_B_setKey 6 = .ok (.ifCond .eq 17, 3) := by decide +kernel
theorem dc_B_setKey_23 : decode bc_B_setKey 23 = .ok (.return_, 1) := by decide +kernel
theorem dc_B_setKey_9 : decode bc_B_setKey 9 = .ok (.aload_n 0, 1) := by decide +kernel
theorem dc_B_setKey_10 : decode bc_B_setKey 10 = .ok (.getfield 31, 3) := by decide +kernel
theorem dc_B_setKey_13 : decode bc_B_setKey 13 = .ok (.iload_n 1, 1) := by decide +kernel
theorem dc_B_setKey_14 : decode bc_B_setKey 14 = .ok (.aload_n 0, 1) := by decide +kernel
theorem dc_B_setKey_15 : decode bc_B_setKey 15 = .ok (.getfield 28, 3) := by decide +kernel
theorem dc_B_setKey_18 : decode bc_B_setKey 18 = .ok (.imul, 1) := by decide +kernel
theorem dc_B_setKey_19 : decode bc_B_setKey 19 = .ok (.iload_n 2, 1) := by decide +kernel
theorem dc_B_setKey_20 : decode bc_B_setKey 20 = .ok (.iadd, 1) := by decide +kernel
theorem dc_B_setKey_21 : decode bc_B_setKey 21 = .ok (.iload_n 3, 1) := by decide +kernel
theorem dc_B_setKey_22 : decode bc_B_setKey 22 = .ok (.iastore, 1) := by decide +kernel
theorem dc_T_split_0 : decode bc_T_split 0 = .ok (.aload_n 0, 1) := by decide +kernel
theorem dc_T_split_1 : decode bc_T_split 1 = .ok (.getfield 9, 3) := by decide +kernel
theorem dc_T_split_4 : decode bc_T_split 4 = .ok (.iload_n 1, 1) := by decide +kernel
theorem dc_T_split_5 : decode bc_T_split 5 = .ok (.iload_n 2, 1) := by decide +kernel
theorem dc_T_split_6 : decode bc_T_split 6 = .ok (.invokevirtual 35, 3) := by decide +kernel
theorem dc_T_split_9 : decode bc_T_split 9 = .ok (.istore_n 3, 1) := by decide +kernel
theorem dc_T_split_10 : decode bc_T_split 10 = .ok (.aload_n 0, 1) := by decide +kernel
theorem dc_T_split_11 : decode bc_T_split 11 = .ok (.getfield 9, 3) := by decide +kernel
theorem dc_T_split_14 : decode bc_T_split 14 = .ok (.aload_n 0, 1) := by decide +kernel
theorem dc_T_split_15 : decode bc_T_split 15 = .ok (.getfield 9, 3) := by decide +kernel
theorem dc_T_split_18 : decode bc_T_split 18 = .ok (.iload_n 3, 1) := by decide +kernel
theorem dc_T_split_19 : decode bc_T_split 19 = .ok (.invokevirtual 26, 3) := by decide +kernel
theorem dc_T_split_22 : decode bc_T_split 22 = .ok (.invokevirtual 56, 3) := by decide +kernel
theorem dc_T_split_25 : decode bc_T_split 25 = .ok (.istore 4, 2) := by decide +kernel
theorem dc_T_split_27 : decode bc_T_split 27 = .ok (.aload_n 0, 1) := by decide +kernel
theorem dc_T_split_28 : decode bc_T_split 28 = .ok (.getfield 9, 3) := by decide +kernel
theorem dc_T_split_31 : decode bc_T_split 31 = .ok (.iload_n 3, 1) := by decide +kernel
theorem dc_T_split_32 : decode bc_T_split 32 = .ok (.aload_n 0, 1) := by decide +kernel
theorem dc_T_split_33 : decode bc_T_split 33 = .ok (.getfield 23, 3) := by decide +kernel
theorem dc_T_split_36 : decode bc_T_split 36 = .ok (.iload 4, 2) := by decide +kernel
theorem dc_T_split_38 : decode bc_T_split 38 = .ok (.invokevirtual 89, 3) := by decide +kernel
theorem dc_T_split_41 : decode bc_T_split 41 = .ok (.aload_n 0, 1) := by decide +kernel
theorem dc_T_split_42 : decode bc_T_split 42 = .ok (.getfield 9, 3) := by decide +kernel
theorem dc_T_split_45 : decode bc_T_split 45 = .ok (.iload_n 1, 1) := by decide +kernel
theorem dc_T_split_46 : decode bc_T_split 46 = .ok (.iload_n 2, 1) := by decide +kernel
theorem dc_T_split_47 : decode bc_T_split 47 = .ok (.iconst 1, 1) := by decide +kernel
theorem dc_T_split_48 : decode bc_T_split 48 = .ok (.iadd, 1) := by decide +kernel
theorem dc_T_split_49 : decode bc_T_split 49 = .ok (.aload_n 0, 1) := by decide +kernel
theorem dc_T_split_50 : decode bc_T_split 50 = .ok (.getfield 9, 3) := by decide +kernel
theorem dc_T_split_53 : decode bc_T_split 53 = .ok (.iload 4, 2) := by decide +kernel
theorem dc_T_split_55 : decode bc_T_split 55 = .ok (.iconst 0, 1) := by decide +kernel
theorem dc_T_split_56 : decode bc_T_split 56 = .ok (.invokevirtual 41, 3) := by decide +kernel
theorem dc_T_split_59 : decode bc_T_split 59 = .ok (.iload 4, 2) := by decide +kernel
theorem dc_T_split_61 : decode bc_T_split 61 = .ok (.invokevirtual 86, 3) := by decide +kernel
theorem dc_T_split_64 : decode bc_T_split 64 = .ok (.return_, 1) := by decide +kernel
theorem dc_B_moveTail_0 : decode bc_B_moveTail 0 = .ok (.iload_n 2, 1) := by decide +kernel
theorem dc_B_moveTail_1 : decode bc_B_moveTail 1 = .ok (.istore 4, 2) := by decide +kernel
theorem dc_B_moveTail_3 : decode bc_B_moveTail 3 = .ok (.iload 4, 2) := by decide +kernel
theorem dc_B_moveTail_5 : decode bc_B_moveTail 5 = .ok (.aload_n 0, 1) := by decide +kernel
theorem dc_B_moveTail_6 : decode bc_B_moveTail 6 = .ok (.iload_n 1, 1) := by decide +kernel
theorem dc_B_moveTail_7 : decode bc_B_moveTail 7 = .ok (.invokevirtual 45, 3) := by decide +kernel
theorem dc_B_moveTail_10 : decode bc_B_moveTail 10 = .ok (.if_icmp .ge 33, 3) := by decide +kernel
theorem dc_B_moveTail_43 : decode bc_B_moveTail 43 = .ok (.aload_n 0, 1) := by decide +kernel
theorem dc_B_moveTail_44 : decode bc_B_moveTail 44 = .ok (.iload_n 1, 1) := by decide +kernel
theorem dc_B_moveTail_45 : decode bc_B_moveTail 45 = .ok (.invokevirtual 37, 3) := by decide +kernel
theorem dc_B_moveTail_48 : decode bc_B_moveTail 48 = .ok (.ifCond .eq 24, 3) := by decide +kernel
theorem dc_B_moveTail_72 : decode bc_B_moveTail 72 = .ok (.return_, 1) := by decide +kernel
theorem dc_B_moveTail_51 : decode bc_B_moveTail 51 = .ok (.iload_n 2, 1) := by decide +kernel
theorem dc_B_moveTail_52 : decode bc_B_moveTail 52 = .ok (.ifCond .lt 20, 3) := by decide +kernel
theorem dc_B_moveTail_55 : decode bc_B_moveTail 55 = .ok (.iload_n 2, 1) := by decide +kernel
theorem dc_B_moveTail_56 : decode bc_B_moveTail 56 = .ok (.aload_n 0, 1) := by decide +kernel
theorem dc_B_moveTail_57 : decode bc_B_moveTail 57 = .ok (.getfield 18, 3) := by decide +kernel
theorem dc_B_moveTail_60 : decode bc_B_moveTail 60 = .ok (.iload_n 1, 1) := by decide +kernel
theorem dc_B_moveTail_61 : decode bc_B_moveTail 61 = .ok (.iaload, 1) := by decide +kernel
theorem dc_B_moveTail_62 : decode bc_B_moveTail 62 = .ok (.if_icmp .ge 10, 3) := by decide +kernel
theorem dc_B_moveTail_65 : decode bc_B_moveTail 65 = .ok (.aload_n 0, 1) := by decide +kernel
theorem dc_B_moveTail_66 : decode bc_B_moveTail 66 = .ok (.getfield 18, 3) := by decide +kernel
theorem dc_B_moveTail_69 : decode bc_B_moveTail 69 = .ok (.iload_n 1, 1) := by decide +kernel
theorem dc_B_moveTail_70 : decode bc_B_moveTail 70 = .ok (.iload_n 2, 1) := by decide +kernel
theorem dc_B_moveTail_71 : decode bc_B_moveTail 71 = .ok (.iastore, 1) := by decide +kernel
theorem dc_B_moveTail_13 : decode bc_B_moveTail 13 = .ok (.aload_n 0, 1) := by decide +kernel
theorem dc_B_moveTail_14 : decode bc_B_moveTail 14 = .ok (.iload_n 3, 1) := by decide +kernel
theorem dc_B_moveTail_15 : decode bc_B_moveTail 15 = .ok (.aload_n 0, 1) := by decide +kernel
theorem dc_B_moveTail_16 : decode bc_B_moveTail 16 = .ok (.iload_n 3, 1) := by decide +kernel
theorem dc_B_moveTail_17 : decode bc_B_moveTail 17 = .ok (.invokevirtual 45, 3) := by decide +kernel
theorem dc_B_moveTail_20 : decode bc_B_moveTail 20 = .ok (.aload_n 0, 1) := by decide +kernel
theorem dc_B_moveTail_21 : decode bc_B_moveTail 21 = .ok (.iload_n 1, 1) := by decide +kernel
theorem dc_B_moveTail_22 : decode bc_B_moveTail 22 = .ok (.iload 4, 2) := by decide +kernel
theorem dc_B_moveTail_24 : decode bc_B_moveTail 24 = .ok (.invokevirtual 83, 3) := by decide +kernel
theorem dc_B_moveTail_27 : decode bc_B_moveTail 27 = .ok (.aload_n 0, 1) := by decide +kernel
theorem dc_B_moveTail_28 : decode bc_B_moveTail 28 = .ok (.iload_n 1, 1) := by decide +kernel
theorem dc_B_moveTail_29 : decode bc_B_moveTail 29 = .ok (.iload 4, 2) := by decide +kernel
theorem dc_B_moveTail_31 : decode bc_B_moveTail 31 = .ok (.invokevirtual 67, 3) := by decide +kernel
theorem dc_B_moveTail_34 : decode bc_B_moveTail 34 = .ok (.invokevirtual 86, 3) := by decide +kernel
theorem dc_B_moveTail_37 : decode bc_B_moveTail 37 = .ok (.iinc 4 1, 3) := by decide +kernel
theorem dc_B_moveTail_40 : decode bc_B_moveTail 40 = .ok (.goto (-37), 3) := by decide +kernel
theorem dc_B_insert_0 : decode bc_B_insert 0 = .ok (.aload_n 0, 1) := by decide +kernel
theorem dc_B_insert_1 : decode bc_B_insert 1 = .ok (.iload_n 1, 1) := by decide +kernel
theorem dc_B_insert_2 : decode bc_B_insert 2 = .ok (.invokevirtual 37, 3) := by decide +kernel
theorem dc_B_insert_5 : decode bc_B_insert 5 = .ok (.ifCond .eq 30, 3) := by decide +kernel
theorem dc_B_insert_35 : decode bc_B_insert 35 = .ok (.return_, 1) := by decide +kernel
theorem dc_B_insert_8 : decode bc_B_insert 8 = .ok (.iload_n 2, 1) := by decide +kernel
theorem dc_B_insert_9 : decode bc_B_insert 9 = .ok (.ifCond .lt 26, 3) := by decide +kernel
theorem dc_B_insert_12 : decode bc_B_insert 12 = .ok (.iload_n 2, 1) := by decide +kernel
theorem dc_B_insert_13 : decode bc_B_insert 13 = .ok (.aload_n 0, 1) := by decide +kernel
theorem dc_B_insert_14 : decode bc_B_insert 14 = .ok (.getfield 18, 3) := by decide +kernel
theorem dc_B_insert_17 : decode bc_B_insert 17 = .ok (.iload_n 1, 1) := by decide +kernel
theorem dc_B_insert_18 : decode bc_B_insert 18 = .ok (.iaload, 1) := by decide +kernel
theorem dc_B_insert_19 : decode bc_B_insert 19 = .ok (.if_icmp .gt 16, 3) := by decide +kernel
theorem dc_B_insert_22 : decode bc_B_insert 22 = .ok (.aload_n 0, 1) := by decide +kernel
theorem dc_B_insert_23 : decode bc_B_insert 23 = .ok (.getfield 18, 3) := by decide +kernel
theorem dc_B_insert_26 : decode bc_B_insert 26 = .ok (.iload_n 1, 1) := by decide +kernel
theorem dc_B_insert_27 : decode bc_B_insert 27 = .ok (.iaload, 1) := by decide +kernel
theorem dc_B_insert_28 : decode bc_B_insert 28 = .ok (.aload_n 0, 1) := by decide +kernel
theorem dc_B_insert_29 : decode bc_B_insert 29 = .ok (.getfield 28, 3) := by decide +kernel
theorem dc_B_insert_32 : decode bc_B_insert 32 = .ok (.if_icmp .lt 4, 3) := by decide +kernel
theorem dc_B_insert_36 : decode bc_B_insert 36 = .ok (.aload_n 0, 1) := by decide +kernel
theorem dc_B_insert_37 : decode bc_B_insert 37 = .ok (.getfield 18, 3) := by decide +kernel
theorem dc_B_insert_40 : decode bc_B_insert 40 = .ok (.iload_n 1, 1) := by decide +kernel
theorem dc_B_insert_41 : decode bc_B_insert 41 = .ok (.iaload, 1) := by decide +kernel
theorem dc_B_insert_42 : decode bc_B_insert 42 = .ok (.istore 5, 2) := by decide +kernel
theorem dc_B_insert_44 : decode bc_B_insert 44 = .ok (.iload_n 1, 1) := by decide +kernel
theorem dc_B_insert_45 : decode bc_B_insert 45 = .ok (.aload_n 0, 1) := by decide +kernel
theorem dc_B_insert_46 : decode bc_B_insert 46 = .ok (.getfield 28, 3) := by decide +kernel
theorem dc_B_insert_49 : decode bc_B_insert 49 = .ok (.imul, 1) := by decide +kernel
theorem dc_B_insert_50 : decode bc_B_insert 50 = .ok (.iload_n 2, 1) := by decide +kernel
theorem dc_B_insert_51 : decode bc_B_insert 51 = .ok (.iadd, 1) := by decide +kernel
theorem dc_B_insert_52 : decode bc_B_insert 52 = .ok (.istore 6, 2) := by decide +kernel
theorem dc_B_insert_54 : decode bc_B_insert 54 = .ok (.aload_n 0, 1) := by decide +kernel
theorem dc_B_insert_55 : decode bc_B_insert 55 = .ok (.getfield 31, 3) := by decide +kernel
theorem dc_B_insert_58 : decode bc_B_insert 58 = .ok (.iload 6, 2) := by decide +kernel
theorem dc_B_insert_60 : decode bc_B_insert 60 = .ok (.aload_n 0, 1) := by decide +kernel
theorem dc_B_insert_61 : decode bc_B_insert 61 = .ok (.getfield 31, 3) := by decide +kernel
theorem dc_B_insert_64 : decode bc_B_insert 64 = .ok (.iload 6, 2) := by decide +kernel
theorem dc_B_insert_66 : decode bc_B_insert 66 = .ok (.iconst 1, 1) := by decide +kernel
theorem dc_B_insert_67 : decode bc_B_insert 67 = .ok (.iadd, 1) := by decide +kernel
theorem dc_B_insert_68 : decode bc_B_insert 68 = .ok (.iload 5, 2) := by decide +kernel
theorem dc_B_insert_70 : decode bc_B_insert 70 = .ok (.iload_n 2, 1) := by decide +kernel
theorem dc_B_insert_71 : decode bc_B_insert 71 = .ok (.isub, 1) := by decide +kernel
theorem dc_B_insert_72 : decode bc_B_insert 72 = .ok (.invokestatic 77, 3) := by decide +kernel
theorem dc_B_insert_75 : decode bc_B_insert 75 = .ok (.aload_n 0, 1) := by decide +kernel
theorem dc_B_insert_76 : decode bc_B_insert 76 = .ok (.getfield 34, 3) := by decide +kernel
theorem dc_B_insert_79 : decode bc_B_insert 79 = .ok (.iload 6, 2) := by decide +kernel
theorem dc_B_insert_81 : decode bc_B_insert 81 = .ok (.aload_n 0, 1) := by decide +kernel
theorem dc_B_insert_82 : decode bc_B_insert 82 = .ok (.getfield 34, 3) := by decide +kernel
theorem dc_B_insert_85 : decode bc_B_insert 85 = .ok (.iload 6, 2) := by decide +kernel
theorem dc_B_insert_87 : decode bc_B_insert 87 = .ok (.iconst 1, 1) := by decide +kernel
theorem dc_B_insert_88 : decode bc_B_insert 88 = .ok (.iadd, 1) := by decide +kernel
theorem dc_B_insert_89 : decode bc_B_insert 89 = .ok (.iload 5, 2) := by decide +kernel
theorem dc_B_insert_91 : decode bc_B_insert 91 = .ok (.iload_n 2, 1) := by decide +kernel
theorem dc_B_insert_92 : decode bc_B_insert 92 = .ok (.isub, 1) := by decide +kernel
theorem dc_B_insert_93 : decode bc_B_insert 93 = .ok (.invokestatic 77, 3) := by decide +kernel
theorem dc_B_insert_96 : decode bc_B_insert 96 = .ok (.aload_n 0, 1) := by decide +kernel
theorem dc_B_insert_97 : decode bc_B_insert 97 = .ok (.getfield 31, 3) := by decide +kernel
theorem dc_B_insert_100 : decode bc_B_insert 100 = .ok (.iload 6, 2) := by decide +kernel
theorem dc_B_insert_102 : decode bc_B_insert 102 = .ok (.iload_n 3, 1) := by decide +kernel
theorem dc_B_insert_103 : decode bc_B_insert 103 = .ok (.iastore, 1) := by decide +kernel
theorem dc_B_insert_104 : decode bc_B_insert 104 = .ok (.aload_n 0, 1) := by decide +kernel
theorem dc_B_insert_105 : decode bc_B_insert 105 = .ok (.getfield 34, 3) := by decide +kernel
theorem dc_B_insert_108 : decode bc_B_insert 108 = .ok (.iload 6, 2) := by decide +kernel
theorem dc_B_insert_110 : decode bc_B_insert 110 = .ok (.iload 4, 2) := by decide +kernel
theorem dc_B_insert_112 : decode bc_B_insert 112 = .ok (.iastore, 1) := by decide +kernel
theorem dc_B_insert_113 : decode bc_B_insert 113 = .ok (.aload_n 0, 1) := by decide +kernel
theorem dc_B_insert_114 : decode bc_B_insert 114 = .ok (.getfield 18, 3) := by decide +kernel
theorem dc_B_insert_117 : decode bc_B_insert 117 = .ok (.iload_n 1, 1) := by decide +kernel
theorem dc_B_insert_118 : decode bc_B_insert 118 = .ok (.iload 5, 2) := by decide +kernel
theorem dc_B_insert_120 : decode bc_B_insert 120 = .ok (.iconst 1, 1) := by decide +kernel
theorem dc_B_insert_121 : decode bc_B_insert 121 = .ok (.iadd, 1) := by decide +kernel
theorem dc_B_insert_122 : decode bc_B_insert 122 = .ok (.iastore, 1) := by decide +kernel
theorem dc_B_insert_123 : decode bc_B_insert 123 = .ok (.return_, 1) := by decide +kernel
theorem dc_T_putInLeaf_0 : decode bc_T_putInLeaf 0 = .ok (.aload_n 0, 1) := by decide +kernel
theorem dc_T_putInLeaf_1 : decode bc_T_putInLeaf 1 = .ok (.getfield 9, 3) := by decide +kernel
theorem dc_T_putInLeaf_4 : decode bc_T_putInLeaf 4 = .ok (.iload_n 1, 1) := by decide +kernel
theorem dc_T_putInLeaf_5 : decode bc_T_putInLeaf 5 = .ok (.iload_n 2, 1) := by decide +kernel
theorem dc_T_putInLeaf_6 : decode bc_T_putInLeaf 6 = .ok (.invokevirtual 38, 3) := by decide +kernel
theorem dc_T_putInLeaf_9 : decode bc_T_putInLeaf 9 = .ok (.istore 4, 2) := by decide +kernel
theorem dc_T_putInLeaf_11 : decode bc_T_putInLeaf 11 = .ok (.aload_n 0, 1) := by decide +kernel
theorem dc_T_putInLeaf_12 : decode bc_T_putInLeaf 12 = .ok (.getfield 9, 3) := by decide +kernel
theorem dc_T_putInLeaf_15 : decode bc_T_putInLeaf 15 = .ok (.iload_n 1, 1) := by decide +kernel
theorem dc_T_putInLeaf_16 : decode bc_T_putInLeaf 16 = .ok (.iload 4, 2) := by decide +kernel
theorem dc_T_putInLeaf_18 : decode bc_T_putInLeaf 18 = .ok (.invokevirtual 41, 3) := by decide +kernel
theorem dc_T_putInLeaf_21 : decode bc_T_putInLeaf 21 = .ok (.iload_n 2, 1) := by decide +kernel
theorem dc_T_putInLeaf_22 : decode bc_T_putInLeaf 22 = .ok (.if_icmp .ne 17, 3) := by decide +kernel
theorem dc_T_putInLeaf_39 : decode bc_T_putInLeaf 39 = .ok (.aload_n 0, 1) := by decide +kernel
theorem dc_T_putInLeaf_40 : decode bc_T_putInLeaf 40 = .ok (.getfield 9, 3) := by decide +kernel
theorem dc_T_putInLeaf_43 : decode bc_T_putInLeaf 43 = .ok (.iload_n 1, 1) := by decide +kernel
theorem dc_T_putInLeaf_44 : decode bc_T_putInLeaf 44 = .ok (.iload 4, 2) := by decide +kernel
theorem dc_T_putInLeaf_46 : decode bc_T_putInLeaf 46 = .ok (.iconst 1, 1) := by decide +kernel
theorem dc_T_putInLeaf_47 : decode bc_T_putInLeaf 47 = .ok (.iadd, 1) := by decide +kernel
theorem dc_T_putInLeaf_48 : decode bc_T_putInLeaf 48 = .ok (.iload_n 2, 1) := by decide +kernel
theorem dc_T_putInLeaf_49 : decode bc_T_putInLeaf 49 = .ok (.iload_n 3, 1) := by decide +kernel
theorem dc_T_putInLeaf_50 : decode bc_T_putInLeaf 50 = .ok (.invokevirtual 86, 3) := by decide +kernel
theorem dc_T_putInLeaf_53 : decode bc_T_putInLeaf 53 = .ok (.return_, 1) := by decide +kernel
theorem dc_T_putInLeaf_25 : decode bc_T_putInLeaf 25 = .ok (.aload_n 0, 1) := by decide +kernel
theorem dc_T_putInLeaf_26 : decode bc_T_putInLeaf 26 = .ok (.getfield 9, 3) := by decide +kernel
theorem dc_T_putInLeaf_29 : decode bc_T_putInLeaf 29 = .ok (.iload_n 1, 1) := by decide +kernel
theorem dc_T_putInLeaf_30 : decode bc_T_putInLeaf 30 = .ok (.iload 4, 2) := by decide +kernel
theorem dc_T_putInLeaf_32 : decode bc_T_putInLeaf 32 = .ok (.iload_n 3, 1) := by decide +kernel
theorem dc_T_putInLeaf_33 : decode bc_T_putInLeaf 33 = .ok (.invokevirtual 83, 3) := by decide +kernel
theorem dc_T_putInLeaf_36 : decode bc_T_putInLeaf 36 = .ok (.goto 17, 3) := by decide +kernel
theorem dc_T_grown_0 : decode bc_T_grown 0 = .ok (.aload_n 0, 1) := by decide +kernel
theorem dc_T_grown_1 : decode bc_T_grown 1 = .ok (.getfield 9, 3) := by decide +kernel
theorem dc_T_grown_4 : decode bc_T_grown 4 = .ok (.aload_n 0, 1) := by decide +kernel
theorem dc_T_grown_5 : decode bc_T_grown 5 = .ok (.getfield 9, 3) := by decide +kernel
theorem dc_T_grown_8 : decode bc_T_grown 8 = .ok (.iload_n 1, 1) := by decide +kernel
theorem dc_T_grown_9 : decode bc_T_grown 9 = .ok (.invokevirtual 26, 3) := by decide +kernel
theorem dc_T_grown_12 : decode bc_T_grown 12 = .ok (.iconst 1, 1) := by decide +kernel
theorem dc_T_grown_13 : decode bc_T_grown 13 = .ok (.iadd, 1) := by decide +kernel
theorem dc_T_grown_14 : decode bc_T_grown 14 = .ok (.invokevirtual 56, 3) := by decide +kernel
theorem dc_T_grown_17 : decode bc_T_grown 17 = .ok (.istore_n 2, 1) := by decide +kernel
theorem dc_T_grown_18 : decode bc_T_grown 18 = .ok (.aload_n 0, 1) := by decide +kernel
theorem dc_T_grown_19 : decode bc_T_grown 19 = .ok (.getfield 9, 3) := by decide +kernel
theorem dc_T_grown_22 : decode bc_T_grown 22 = .ok (.iload_n 2, 1) := by decide +kernel
theorem dc_T_grown_23 : decode bc_T_grown 23 = .ok (.iconst 0, 1) := by decide +kernel
theorem dc_T_grown_24 : decode bc_T_grown 24 = .ok (.aload_n 0, 1) := by decide +kernel
theorem dc_T_grown_25 : decode bc_T_grown 25 = .ok (.getfield 9, 3) := by decide +kernel
theorem dc_T_grown_28 : decode bc_T_grown 28 = .ok (.iload_n 1, 1) := by decide +kernel
theorem dc_T_grown_29 : decode bc_T_grown 29 = .ok (.iconst 0, 1) := by decide +kernel
theorem dc_T_grown_30 : decode bc_T_grown 30 = .ok (.invokevirtual 41, 3) := by decide +kernel
theorem dc_T_grown_33 : decode bc_T_grown 33 = .ok (.iload_n 1, 1) := by decide +kernel
theorem dc_T_grown_34 : decode bc_T_grown 34 = .ok (.invokevirtual 86, 3) := by decide +kernel
theorem dc_T_grown_37 : decode bc_T_grown 37 = .ok (.aload_n 0, 1) := by decide +kernel
theorem dc_T_grown_38 : decode bc_T_grown 38 = .ok (.iload_n 2, 1) := by decide +kernel
theorem dc_T_grown_39 : decode bc_T_grown 39 = .ok (.iconst 0, 1) := by decide +kernel
theorem dc_T_grown_40 : decode bc_T_grown 40 = .ok (.invokevirtual 79, 3) := by decide +kernel
theorem dc_T_grown_43 : decode bc_T_grown 43 = .ok (.iload_n 2, 1) := by decide +kernel
theorem dc_T_grown_44 : decode bc_T_grown 44 = .ok (.ireturn, 1) := by decide +kernel
theorem dc_S_changeCount_0 : decode bc_S_changeCount 0 = .ok (.aload_n 0, 1) := by decide +kernel
theorem dc_S_changeCount_1 : decode bc_S_changeCount 1 = .ok (.getfield 82, 3) := by decide +kernel
theorem dc_S_changeCount_4 : decode bc_S_changeCount 4 = .ok (.iload_n 1, 1) := by decide +kernel
theorem dc_S_changeCount_5 : decode bc_S_changeCount 5 = .ok (.dup2, 1) := by decide +kernel
theorem dc_S_changeCount_6 : decode bc_S_changeCount 6 = .ok (.iaload, 1) := by decide +kernel
theorem dc_S_changeCount_7 : decode bc_S_changeCount 7 = .ok (.iload_n 2, 1) := by decide +kernel
theorem dc_S_changeCount_8 : decode bc_S_changeCount 8 = .ok (.iadd, 1) := by decide +kernel
theorem dc_S_changeCount_9 : decode bc_S_changeCount 9 = .ok (.iastore, 1) := by decide +kernel
theorem dc_S_changeCount_10 : decode bc_S_changeCount 10 = .ok (.aload_n 0, 1) := by decide +kernel
theorem dc_S_changeCount_11 : decode bc_S_changeCount 11 = .ok (.dup, 1) := by decide +kernel
theorem dc_S_changeCount_12 : decode bc_S_changeCount 12 = .ok (.getfield 70, 3) := by decide +kernel
theorem dc_S_changeCount_15 : decode bc_S_changeCount 15 = .ok (.iload_n 2, 1) := by decide +kernel
theorem dc_S_changeCount_16 : decode bc_S_changeCount 16 = .ok (.iadd, 1) := by decide +kernel
theorem dc_S_changeCount_17 : decode bc_S_changeCount 17 = .ok (.putfield 70, 3) := by decide +kernel
theorem dc_S_changeCount_20 : decode bc_S_changeCount 20 = .ok (.return_, 1) := by decide +kernel
theorem dc_R_write_0 : decode bc_R_write 0 = .ok (.iload_n 1, 1) := by decide +kernel
theorem dc_R_write_1 : decode bc_R_write 1 = .ok (.invokestatic 24, 3) := by decide +kernel
