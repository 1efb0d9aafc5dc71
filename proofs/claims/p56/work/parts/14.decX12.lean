theorem dX12_init_0 : decode cX12_init 0 = .ok (.aload_n 0, 1) := by decide +kernel
theorem dX12_init_1 : decode cX12_init 1 = .ok (.invokespecial 1, 3) := by decide +kernel
theorem dX12_init_4 : decode cX12_init 4 = .ok (.aload_n 0, 1) := by decide +kernel
theorem dX12_init_5 : decode cX12_init 5 = .ok (.new 7, 3) := by decide +kernel
theorem dX12_init_8 : decode cX12_init 8 = .ok (.dup, 1) := by decide +kernel
theorem dX12_init_9 : decode cX12_init 9 = .ok (.invokespecial 9, 3) := by decide +kernel
theorem dX12_init_12 : decode cX12_init 12 = .ok (.putfield 10, 3) := by decide +kernel
theorem dX12_init_15 : decode cX12_init 15 = .ok (.aload_n 0, 1) := by decide +kernel
theorem dX12_init_16 : decode cX12_init 16 = .ok (.aload_n 0, 1) := by decide +kernel
theorem dX12_init_17 : decode cX12_init 17 = .ok (.getfield 10, 3) := by decide +kernel
theorem dX12_init_20 : decode cX12_init 20 = .ok (.getfield 16, 3) := by decide +kernel
theorem dX12_init_23 : decode cX12_init 23 = .ok (.putfield 20, 3) := by decide +kernel
theorem dX12_init_26 : decode cX12_init 26 = .ok (.aload_n 0, 1) := by decide +kernel
theorem dX12_init_27 : decode cX12_init 27 = .ok (.new 21, 3) := by decide +kernel
theorem dX12_init_30 : decode cX12_init 30 = .ok (.dup, 1) := by decide +kernel
theorem dX12_init_31 : decode cX12_init 31 = .ok (.invokespecial 23, 3) := by decide +kernel
theorem dX12_init_34 : decode cX12_init 34 = .ok (.putfield 24, 3) := by decide +kernel
theorem dX12_init_37 : decode cX12_init 37 = .ok (.aload_n 0, 1) := by decide +kernel
theorem dX12_init_38 : decode cX12_init 38 = .ok (.new 21, 3) := by decide +kernel
theorem dX12_init_41 : decode cX12_init 41 = .ok (.dup, 1) := by decide +kernel
theorem dX12_init_42 : decode cX12_init 42 = .ok (.invokespecial 23, 3) := by decide +kernel
theorem dX12_init_45 : decode cX12_init 45 = .ok (.putfield 27, 3) := by decide +kernel
theorem dX12_init_48 : decode cX12_init 48 = .ok (.aload_n 0, 1) := by decide +kernel
theorem dX12_init_49 : decode cX12_init 49 = .ok (.new 30, 3) := by decide +kernel
theorem dX12_init_52 : decode cX12_init 52 = .ok (.dup, 1) := by decide +kernel
theorem dX12_init_53 : decode cX12_init 53 = .ok (.invokespecial 32, 3) := by decide +kernel
theorem dX12_init_56 : decode cX12_init 56 = .ok (.putfield 33, 3) := by decide +kernel
theorem dX12_init_59 : decode cX12_init 59 = .ok (.aload_n 0, 1) := by decide +kernel
theorem dX12_init_60 : decode cX12_init 60 = .ok (.new 37, 3) := by decide +kernel
theorem dX12_init_63 : decode cX12_init 63 = .ok (.dup, 1) := by decide +kernel
theorem dX12_init_64 : decode cX12_init 64 = .ok (.invokespecial 39, 3) := by decide +kernel
theorem dX12_init_67 : decode cX12_init 67 = .ok (.putfield 40, 3) := by decide +kernel
theorem dX12_init_70 : decode cX12_init 70 = .ok (.aload_n 0, 1) := by decide +kernel
theorem dX12_init_71 : decode cX12_init 71 = .ok (.new 44, 3) := by decide +kernel
theorem dX12_init_74 : decode cX12_init 74 = .ok (.dup, 1) := by decide +kernel
theorem dX12_init_75 : decode cX12_init 75 = .ok (.invokespecial 46, 3) := by decide +kernel
theorem dX12_init_78 : decode cX12_init 78 = .ok (.putfield 47, 3) := by decide +kernel
theorem dX12_init_81 : decode cX12_init 81 = .ok (.aload_n 0, 1) := by decide +kernel
theorem dX12_init_82 : decode cX12_init 82 = .ok (.new 51, 3) := by decide +kernel
theorem dX12_init_85 : decode cX12_init 85 = .ok (.dup, 1) := by decide +kernel
theorem dX12_init_86 : decode cX12_init 86 = .ok (.invokespecial 53, 3) := by decide +kernel
theorem dX12_init_89 : decode cX12_init 89 = .ok (.putfield 54, 3) := by decide +kernel
theorem dX12_init_92 : decode cX12_init 92 = .ok (.aload_n 0, 1) := by decide +kernel
theorem dX12_init_93 : decode cX12_init 93 = .ok (.new 58, 3) := by decide +kernel
theorem dX12_init_96 : decode cX12_init 96 = .ok (.dup, 1) := by decide +kernel
theorem dX12_init_97 : decode cX12_init 97 = .ok (.invokespecial 60, 3) := by decide +kernel
theorem dX12_init_100 : decode cX12_init 100 = .ok (.putfield 61, 3) := by decide +kernel
theorem dX12_init_103 : decode cX12_init 103 = .ok (.return_, 1) := by decide +kernel
theorem dX12_addMember_0 : decode cX12_addMember 0 = .ok (.aload_n 0, 1) := by decide +kernel
theorem dX12_addMember_1 : decode cX12_addMember 1 = .ok (.getstatic 65, 3) := by decide +kernel
theorem dX12_addMember_4 : decode cX12_addMember 4 = .ok (.iload_n 1, 1) := by decide +kernel
theorem dX12_addMember_5 : decode cX12_addMember 5 = .ok (.iload_n 2, 1) := by decide +kernel
theorem dX12_addMember_6 : decode cX12_addMember 6 = .ok (.invokevirtual 71, 3) := by decide +kernel
theorem dX12_addMember_9 : decode cX12_addMember 9 = .ok (.ireturn, 1) := by decide +kernel
theorem dX12_pardon_0 : decode cX12_pardon 0 = .ok (.aload_n 0, 1) := by decide +kernel
theorem dX12_pardon_1 : decode cX12_pardon 1 = .ok (.getstatic 75, 3) := by decide +kernel
theorem dX12_pardon_4 : decode cX12_pardon 4 = .ok (.iload_n 1, 1) := by decide +kernel
theorem dX12_pardon_5 : decode cX12_pardon 5 = .ok (.iconst 0, 1) := by decide +kernel
theorem dX12_pardon_6 : decode cX12_pardon 6 = .ok (.invokevirtual 71, 3) := by decide +kernel
theorem dX12_pardon_9 : decode cX12_pardon 9 = .ok (.ireturn, 1) := by decide +kernel
theorem dX12_memberCount_0 : decode cX12_memberCount 0 = .ok (.aload_n 0, 1) := by decide +kernel
theorem dX12_memberCount_1 : decode cX12_memberCount 1 = .ok (.getfield 20, 3) := by decide +kernel
theorem dX12_memberCount_4 : decode cX12_memberCount 4 = .ok (.getfield 78, 3) := by decide +kernel
theorem dX12_memberCount_7 : decode cX12_memberCount 7 = .ok (.ireturn, 1) := by decide +kernel
theorem dX12_capacity_0 : decode cX12_capacity 0 = .ok (.aload_n 0, 1) := by decide +kernel
theorem dX12_capacity_1 : decode cX12_capacity 1 = .ok (.iload_n 1, 1) := by decide +kernel
theorem dX12_capacity_2 : decode cX12_capacity 2 = .ok (.invokevirtual 82, 3) := by decide +kernel
theorem dX12_capacity_5 : decode cX12_capacity 5 = .ok (.aload_n 0, 1) := by decide +kernel
theorem dX12_capacity_6 : decode cX12_capacity 6 = .ok (.getfield 20, 3) := by decide +kernel
theorem dX12_capacity_9 : decode cX12_capacity 9 = .ok (.getfield 86, 3) := by decide +kernel
theorem dX12_capacity_12 : decode cX12_capacity 12 = .ok (.iload_n 1, 1) := by decide +kernel
theorem dX12_capacity_13 : decode cX12_capacity 13 = .ok (.aaload, 1) := by decide +kernel
theorem dX12_capacity_14 : decode cX12_capacity 14 = .ok (.getfield 90, 3) := by decide +kernel
theorem dX12_capacity_17 : decode cX12_capacity 17 = .ok (.ireturn, 1) := by decide +kernel
theorem dX12_votes_0 : decode cX12_votes 0 = .ok (.aload_n 0, 1) := by decide +kernel
theorem dX12_votes_1 : decode cX12_votes 1 = .ok (.iload_n 1, 1) := by decide +kernel
theorem dX12_votes_2 : decode cX12_votes 2 = .ok (.invokevirtual 82, 3) := by decide +kernel
theorem dX12_votes_5 : decode cX12_votes 5 = .ok (.aload_n 0, 1) := by decide +kernel
theorem dX12_votes_6 : decode cX12_votes 6 = .ok (.getfield 20, 3) := by decide +kernel
theorem dX12_votes_9 : decode cX12_votes 9 = .ok (.getfield 86, 3) := by decide +kernel
theorem dX12_votes_12 : decode cX12_votes 12 = .ok (.iload_n 1, 1) := by decide +kernel
theorem dX12_votes_13 : decode cX12_votes 13 = .ok (.aaload, 1) := by decide +kernel
theorem dX12_votes_14 : decode cX12_votes 14 = .ok (.getfield 95, 3) := by decide +kernel
theorem dX12_votes_17 : decode cX12_votes 17 = .ok (.ireturn, 1) := by decide +kernel
theorem dX12_standing_0 : decode cX12_standing 0 = .ok (.aload_n 0, 1) := by decide +kernel
theorem dX12_standing_1 : decode cX12_standing 1 = .ok (.iload_n 1, 1) := by decide +kernel
theorem dX12_standing_2 : decode cX12_standing 2 = .ok (.invokevirtual 82, 3) := by decide +kernel
theorem dX12_standing_5 : decode cX12_standing 5 = .ok (.aload_n 0, 1) := by decide +kernel
theorem dX12_standing_6 : decode cX12_standing 6 = .ok (.getfield 20, 3) := by decide +kernel
theorem dX12_standing_9 : decode cX12_standing 9 = .ok (.getfield 86, 3) := by decide +kernel
theorem dX12_standing_12 : decode cX12_standing 12 = .ok (.iload_n 1, 1) := by decide +kernel
theorem dX12_standing_13 : decode cX12_standing 13 = .ok (.aaload, 1) := by decide +kernel
theorem dX12_standing_14 : decode cX12_standing 14 = .ok (.astore_n 2, 1) := by decide +kernel
theorem dX12_standing_15 : decode cX12_standing 15 = .ok (.aload_n 2, 1) := by decide +kernel
theorem dX12_standing_16 : decode cX12_standing 16 = .ok (.invokevirtual 98, 3) := by decide +kernel
theorem dX12_standing_19 : decode cX12_standing 19 = .ok (.ifCond .eq 6, 3) := by decide +kernel
theorem dX12_standing_22 : decode cX12_standing 22 = .ok (.bipush 108, 2) := by decide +kernel
theorem dX12_standing_24 : decode cX12_standing 24 = .ok (.ireturn, 1) := by decide +kernel
theorem dX12_standing_25 : decode cX12_standing 25 = .ok (.aload_n 2, 1) := by decide +kernel
theorem dX12_standing_26 : decode cX12_standing 26 = .ok (.invokevirtual 102, 3) := by decide +kernel
theorem dX12_standing_29 : decode cX12_standing 29 = .ok (.ifCond .eq 8, 3) := by decide +kernel
theorem dX12_standing_32 : decode cX12_standing 32 = .ok (.bipush 119, 2) := by decide +kernel
theorem dX12_standing_34 : decode cX12_standing 34 = .ok (.goto 5, 3) := by decide +kernel
theorem dX12_standing_37 : decode cX12_standing 37 = .ok (.bipush 98, 2) := by decide +kernel
theorem dX12_standing_39 : decode cX12_standing 39 = .ok (.ireturn, 1) := by decide +kernel
theorem dX12_warnings_0 : decode cX12_warnings 0 = .ok (.aload_n 0, 1) := by decide +kernel
theorem dX12_warnings_1 : decode cX12_warnings 1 = .ok (.iload_n 1, 1) := by decide +kernel
theorem dX12_warnings_2 : decode cX12_warnings 2 = .ok (.invokevirtual 82, 3) := by decide +kernel
theorem dX12_warnings_5 : decode cX12_warnings 5 = .ok (.aload_n 0, 1) := by decide +kernel
theorem dX12_warnings_6 : decode cX12_warnings 6 = .ok (.getfield 20, 3) := by decide +kernel
theorem dX12_warnings_9 : decode cX12_warnings 9 = .ok (.getfield 86, 3) := by decide +kernel
theorem dX12_warnings_12 : decode cX12_warnings 12 = .ok (.iload_n 1, 1) := by decide +kernel
theorem dX12_warnings_13 : decode cX12_warnings 13 = .ok (.aaload, 1) := by decide +kernel
theorem dX12_warnings_14 : decode cX12_warnings 14 = .ok (.getfield 105, 3) := by decide +kernel
theorem dX12_warnings_17 : decode cX12_warnings 17 = .ok (.istore_n 2, 1) := by decide +kernel
theorem dX12_warnings_18 : decode cX12_warnings 18 = .ok (.iload_n 2, 1) := by decide +kernel
theorem dX12_warnings_19 : decode cX12_warnings 19 = .ok (.ifCond .ne 13, 3) := by decide +kernel
theorem dX12_warnings_22 : decode cX12_warnings 22 = .ok (.new 108, 3) := by decide +kernel
theorem dX12_warnings_25 : decode cX12_warnings 25 = .ok (.dup, 1) := by decide +kernel
theorem dX12_warnings_26 : decode cX12_warnings 26 = .ok (.ldc 110, 2) := by decide +kernel
theorem dX12_warnings_28 : decode cX12_warnings 28 = .ok (.invokespecial 112, 3) := by decide +kernel
theorem dX12_warnings_31 : decode cX12_warnings 31 = .ok (.athrow, 1) := by decide +kernel
theorem dX12_warnings_32 : decode cX12_warnings 32 = .ok (.iload_n 2, 1) := by decide +kernel
theorem dX12_warnings_33 : decode cX12_warnings 33 = .ok (.ireturn, 1) := by decide +kernel
theorem dX12_barredMonths_0 : decode cX12_barredMonths 0 = .ok (.aload_n 0, 1) := by decide +kernel
theorem dX12_barredMonths_1 : decode cX12_barredMonths 1 = .ok (.iload_n 1, 1) := by decide +kernel
theorem dX12_barredMonths_2 : decode cX12_barredMonths 2 = .ok (.invokevirtual 82, 3) := by decide +kernel
theorem dX12_barredMonths_5 : decode cX12_barredMonths 5 = .ok (.aload_n 0, 1) := by decide +kernel
theorem dX12_barredMonths_6 : decode cX12_barredMonths 6 = .ok (.getfield 20, 3) := by decide +kernel
theorem dX12_barredMonths_9 : decode cX12_barredMonths 9 = .ok (.getfield 86, 3) := by decide +kernel
theorem dX12_barredMonths_12 : decode cX12_barredMonths 12 = .ok (.iload_n 1, 1) := by decide +kernel
theorem dX12_barredMonths_13 : decode cX12_barredMonths 13 = .ok (.aaload, 1) := by decide +kernel
theorem dX12_barredMonths_14 : decode cX12_barredMonths 14 = .ok (.getfield 115, 3) := by decide +kernel
theorem dX12_barredMonths_17 : decode cX12_barredMonths 17 = .ok (.istore_n 2, 1) := by decide +kernel
theorem dX12_barredMonths_18 : decode cX12_barredMonths 18 = .ok (.iload_n 2, 1) := by decide +kernel
theorem dX12_barredMonths_19 : decode cX12_barredMonths 19 = .ok (.ifCond .ne 13, 3) := by decide +kernel
theorem dX12_barredMonths_22 : decode cX12_barredMonths 22 = .ok (.new 108, 3) := by decide +kernel
theorem dX12_barredMonths_25 : decode cX12_barredMonths 25 = .ok (.dup, 1) := by decide +kernel
theorem dX12_barredMonths_26 : decode cX12_barredMonths 26 = .ok (.ldc 118, 2) := by decide +kernel
theorem dX12_barredMonths_28 : decode cX12_barredMonths 28 = .ok (.invokespecial 112, 3) := by decide +kernel
theorem dX12_barredMonths_31 : decode cX12_barredMonths 31 = .ok (.athrow, 1) := by decide +kernel
theorem dX12_barredMonths_32 : decode cX12_barredMonths 32 = .ok (.iload_n 2, 1) := by decide +kernel
theorem dX12_barredMonths_33 : decode cX12_barredMonths 33 = .ok (.ireturn, 1) := by decide +kernel
theorem dX12_memberByExcess_0 : decode cX12_memberByExcess 0 = .ok (.iconst 0, 1) := by decide +kernel
theorem dX12_memberByExcess_1 : decode cX12_memberByExcess 1 = .ok (.istore_n 2, 1) := by decide +kernel
theorem dX12_memberByExcess_2 : decode cX12_memberByExcess 2 = .ok (.iload_n 2, 1) := by decide +kernel
theorem dX12_memberByExcess_3 : decode cX12_memberByExcess 3 = .ok (.aload_n 0, 1) := by decide +kernel
theorem dX12_memberByExcess_4 : decode cX12_memberByExcess 4 = .ok (.getfield 20, 3) := by decide +kernel
theorem dX12_memberByExcess_7 : decode cX12_memberByExcess 7 = .ok (.getfield 78, 3) := by decide +kernel
theorem dX12_memberByExcess_10 : decode cX12_memberByExcess 10 = .ok (.if_icmp .ge 23, 3) := by decide +kernel
theorem dX12_memberByExcess_13 : decode cX12_memberByExcess 13 = .ok (.aload_n 0, 1) := by decide +kernel
theorem dX12_memberByExcess_14 : decode cX12_memberByExcess 14 = .ok (.getfield 20, 3) := by decide +kernel
theorem dX12_memberByExcess_17 : decode cX12_memberByExcess 17 = .ok (.iload_n 2, 1) := by decide +kernel
theorem dX12_memberByExcess_18 : decode cX12_memberByExcess 18 = .ok (.invokevirtual 120, 3) := by decide +kernel
theorem dX12_memberByExcess_21 : decode cX12_memberByExcess 21 = .ok (.iload_n 1, 1) := by decide +kernel
theorem dX12_memberByExcess_22 : decode cX12_memberByExcess 22 = .ok (.if_icmp .ne 5, 3) := by decide +kernel
theorem dX12_memberByExcess_25 : decode cX12_memberByExcess 25 = .ok (.iload_n 2, 1) := by decide +kernel
theorem dX12_memberByExcess_26 : decode cX12_memberByExcess 26 = .ok (.ireturn, 1) := by decide +kernel
theorem dX12_memberByExcess_27 : decode cX12_memberByExcess 27 = .ok (.iinc 2 1, 3) := by decide +kernel
theorem dX12_memberByExcess_30 : decode cX12_memberByExcess 30 = .ok (.goto (-28), 3) := by decide +kernel
theorem dX12_memberByExcess_33 : decode cX12_memberByExcess 33 = .ok (.new 108, 3) := by decide +kernel
theorem dX12_memberByExcess_36 : decode cX12_memberByExcess 36 = .ok (.dup, 1) := by decide +kernel
theorem dX12_memberByExcess_37 : decode cX12_memberByExcess 37 = .ok (.ldc 124, 2) := by decide +kernel
theorem dX12_memberByExcess_39 : decode cX12_memberByExcess 39 = .ok (.invokespecial 112, 3) := by decide +kernel
theorem dX12_memberByExcess_42 : decode cX12_memberByExcess 42 = .ok (.athrow, 1) := by decide +kernel
theorem dX12_setRule_0 : decode cX12_setRule 0 = .ok (.aload_n 0, 1) := by decide +kernel
theorem dX12_setRule_1 : decode cX12_setRule 1 = .ok (.getstatic 126, 3) := by decide +kernel
theorem dX12_setRule_4 : decode cX12_setRule 4 = .ok (.iload_n 1, 1) := by decide +kernel
theorem dX12_setRule_5 : decode cX12_setRule 5 = .ok (.iconst 0, 1) := by decide +kernel
theorem dX12_setRule_6 : decode cX12_setRule 6 = .ok (.invokevirtual 71, 3) := by decide +kernel
theorem dX12_setRule_9 : decode cX12_setRule 9 = .ok (.ireturn, 1) := by decide +kernel
theorem dX12_assign_0 : decode cX12_assign 0 = .ok (.aload_n 0, 1) := by decide +kernel
theorem dX12_assign_1 : decode cX12_assign 1 = .ok (.getstatic 129, 3) := by decide +kernel
theorem dX12_assign_4 : decode cX12_assign 4 = .ok (.iload_n 1, 1) := by decide +kernel
theorem dX12_assign_5 : decode cX12_assign 5 = .ok (.iconst 0, 1) := by decide +kernel
theorem dX12_assign_6 : decode cX12_assign 6 = .ok (.invokevirtual 71, 3) := by decide +kernel
theorem dX12_assign_9 : decode cX12_assign 9 = .ok (.ireturn, 1) := by decide +kernel
theorem dX12_sell_0 : decode cX12_sell 0 = .ok (.aload_n 0, 1) := by decide +kernel
theorem dX12_sell_1 : decode cX12_sell 1 = .ok (.getstatic 132, 3) := by decide +kernel
theorem dX12_sell_4 : decode cX12_sell 4 = .ok (.iload_n 1, 1) := by decide +kernel
theorem dX12_sell_5 : decode cX12_sell 5 = .ok (.iload_n 2, 1) := by decide +kernel
theorem dX12_sell_6 : decode cX12_sell 6 = .ok (.invokevirtual 71, 3) := by decide +kernel
theorem dX12_sell_9 : decode cX12_sell 9 = .ok (.ireturn, 1) := by decide +kernel
theorem dX12_close_0 : decode cX12_close 0 = .ok (.aload_n 0, 1) := by decide +kernel
theorem dX12_close_1 : decode cX12_close 1 = .ok (.getstatic 135, 3) := by decide +kernel
theorem dX12_close_4 : decode cX12_close 4 = .ok (.iconst 0, 1) := by decide +kernel
theorem dX12_close_5 : decode cX12_close 5 = .ok (.iconst 0, 1) := by decide +kernel
theorem dX12_close_6 : decode cX12_close 6 = .ok (.invokevirtual 71, 3) := by decide +kernel
theorem dX12_close_9 : decode cX12_close 9 = .ok (.ireturn, 1) := by decide +kernel
theorem dX12_quotaBy_0 : decode cX12_quotaBy 0 = .ok (.aload_n 0, 1) := by decide +kernel
theorem dX12_quotaBy_1 : decode cX12_quotaBy 1 = .ok (.iload_n 1, 1) := by decide +kernel
theorem dX12_quotaBy_2 : decode cX12_quotaBy 2 = .ok (.invokevirtual 82, 3) := by decide +kernel
theorem dX12_quotaBy_5 : decode cX12_quotaBy 5 = .ok (.iload_n 2, 1) := by decide +kernel
theorem dX12_quotaBy_6 : decode cX12_quotaBy 6 = .ok (.iconst 0, 1) := by decide +kernel
theorem dX12_quotaBy_7 : decode cX12_quotaBy 7 = .ok (.sipush 300, 3) := by decide +kernel
theorem dX12_quotaBy_10 : decode cX12_quotaBy 10 = .ok (.invokestatic 138, 3) := by decide +kernel
theorem dX12_quotaBy_13 : decode cX12_quotaBy 13 = .ok (.ifCond .eq 12, 3) := by decide +kernel
theorem dX12_quotaBy_16 : decode cX12_quotaBy 16 = .ok (.iload_n 3, 1) := by decide +kernel
theorem dX12_quotaBy_17 : decode cX12_quotaBy 17 = .ok (.iconst 0, 1) := by decide +kernel
theorem dX12_quotaBy_18 : decode cX12_quotaBy 18 = .ok (.iconst 1, 1) := by decide +kernel
theorem dX12_quotaBy_19 : decode cX12_quotaBy 19 = .ok (.invokestatic 138, 3) := by decide +kernel
theorem dX12_quotaBy_22 : decode cX12_quotaBy 22 = .ok (.ifCond .ne 13, 3) := by decide +kernel
theorem dX12_quotaBy_25 : decode cX12_quotaBy 25 = .ok (.new 142, 3) := by decide +kernel
theorem dX12_quotaBy_28 : decode cX12_quotaBy 28 = .ok (.dup, 1) := by decide +kernel
theorem dX12_quotaBy_29 : decode cX12_quotaBy 29 = .ok (.ldc 144, 2) := by decide +kernel
theorem dX12_quotaBy_31 : decode cX12_quotaBy 31 = .ok (.invokespecial 146, 3) := by decide +kernel
theorem dX12_quotaBy_34 : decode cX12_quotaBy 34 = .ok (.athrow, 1) := by decide +kernel
theorem dX12_quotaBy_35 : decode cX12_quotaBy 35 = .ok (.aload_n 0, 1) := by decide +kernel
theorem dX12_quotaBy_36 : decode cX12_quotaBy 36 = .ok (.getfield 10, 3) := by decide +kernel
theorem dX12_quotaBy_39 : decode cX12_quotaBy 39 = .ok (.getfield 147, 3) := by decide +kernel
theorem dX12_quotaBy_42 : decode cX12_quotaBy 42 = .ok (.aload_n 0, 1) := by decide +kernel
theorem dX12_quotaBy_43 : decode cX12_quotaBy 43 = .ok (.getfield 20, 3) := by decide +kernel
theorem dX12_quotaBy_46 : decode cX12_quotaBy 46 = .ok (.iload_n 2, 1) := by decide +kernel
theorem dX12_quotaBy_47 : decode cX12_quotaBy 47 = .ok (.iload_n 3, 1) := by decide +kernel
theorem dX12_quotaBy_48 : decode cX12_quotaBy 48 = .ok (.invokevirtual 151, 3) := by decide +kernel
theorem dX12_quotaBy_51 : decode cX12_quotaBy 51 = .ok (.aload_n 0, 1) := by decide +kernel
theorem dX12_quotaBy_52 : decode cX12_quotaBy 52 = .ok (.getfield 10, 3) := by decide +kernel
theorem dX12_quotaBy_55 : decode cX12_quotaBy 55 = .ok (.getfield 147, 3) := by decide +kernel
theorem dX12_quotaBy_58 : decode cX12_quotaBy 58 = .ok (.getfield 157, 3) := by decide +kernel
theorem dX12_quotaBy_61 : decode cX12_quotaBy 61 = .ok (.iload_n 1, 1) := by decide +kernel
theorem dX12_quotaBy_62 : decode cX12_quotaBy 62 = .ok (.iaload, 1) := by decide +kernel
theorem dX12_quotaBy_63 : decode cX12_quotaBy 63 = .ok (.ireturn, 1) := by decide +kernel
theorem dX12_quota_0 : decode cX12_quota 0 = .ok (.aload_n 0, 1) := by decide +kernel
theorem dX12_quota_1 : decode cX12_quota 1 = .ok (.iload_n 1, 1) := by decide +kernel
theorem dX12_quota_2 : decode cX12_quota 2 = .ok (.invokevirtual 82, 3) := by decide +kernel
theorem dX12_quota_5 : decode cX12_quota 5 = .ok (.aload_n 0, 1) := by decide +kernel
theorem dX12_quota_6 : decode cX12_quota 6 = .ok (.getfield 20, 3) := by decide +kernel
theorem dX12_quota_9 : decode cX12_quota 9 = .ok (.getfield 86, 3) := by decide +kernel
theorem dX12_quota_12 : decode cX12_quota 12 = .ok (.iload_n 1, 1) := by decide +kernel
theorem dX12_quota_13 : decode cX12_quota 13 = .ok (.aaload, 1) := by decide +kernel
theorem dX12_quota_14 : decode cX12_quota 14 = .ok (.getfield 161, 3) := by decide +kernel
theorem dX12_quota_17 : decode cX12_quota 17 = .ok (.ireturn, 1) := by decide +kernel
theorem dX12_sales_0 : decode cX12_sales 0 = .ok (.aload_n 0, 1) := by decide +kernel
theorem dX12_sales_1 : decode cX12_sales 1 = .ok (.iload_n 1, 1) := by decide +kernel
theorem dX12_sales_2 : decode cX12_sales 2 = .ok (.invokevirtual 82, 3) := by decide +kernel
theorem dX12_sales_5 : decode cX12_sales 5 = .ok (.aload_n 0, 1) := by decide +kernel
theorem dX12_sales_6 : decode cX12_sales 6 = .ok (.getfield 20, 3) := by decide +kernel
theorem dX12_sales_9 : decode cX12_sales 9 = .ok (.getfield 86, 3) := by decide +kernel
theorem dX12_sales_12 : decode cX12_sales 12 = .ok (.iload_n 1, 1) := by decide +kernel
theorem dX12_sales_13 : decode cX12_sales 13 = .ok (.aaload, 1) := by decide +kernel
theorem dX12_sales_14 : decode cX12_sales 14 = .ok (.getfield 164, 3) := by decide +kernel
theorem dX12_sales_17 : decode cX12_sales 17 = .ok (.ireturn, 1) := by decide +kernel
theorem dX12_excess_0 : decode cX12_excess 0 = .ok (.aload_n 0, 1) := by decide +kernel
theorem dX12_excess_1 : decode cX12_excess 1 = .ok (.iload_n 1, 1) := by decide +kernel
theorem dX12_excess_2 : decode cX12_excess 2 = .ok (.invokevirtual 82, 3) := by decide +kernel
theorem dX12_excess_5 : decode cX12_excess 5 = .ok (.aload_n 0, 1) := by decide +kernel
theorem dX12_excess_6 : decode cX12_excess 6 = .ok (.getfield 20, 3) := by decide +kernel
theorem dX12_excess_9 : decode cX12_excess 9 = .ok (.getfield 86, 3) := by decide +kernel
theorem dX12_excess_12 : decode cX12_excess 12 = .ok (.iload_n 1, 1) := by decide +kernel
theorem dX12_excess_13 : decode cX12_excess 13 = .ok (.aaload, 1) := by decide +kernel
theorem dX12_excess_14 : decode cX12_excess 14 = .ok (.invokevirtual 167, 3) := by decide +kernel
theorem dX12_excess_17 : decode cX12_excess 17 = .ok (.ireturn, 1) := by decide +kernel
theorem dX12_audit_0 : decode cX12_audit 0 = .ok (.aload_n 0, 1) := by decide +kernel
theorem dX12_audit_1 : decode cX12_audit 1 = .ok (.getstatic 171, 3) := by decide +kernel
theorem dX12_audit_4 : decode cX12_audit 4 = .ok (.iload_n 1, 1) := by decide +kernel
theorem dX12_audit_5 : decode cX12_audit 5 = .ok (.iconst 0, 1) := by decide +kernel
theorem dX12_audit_6 : decode cX12_audit 6 = .ok (.invokevirtual 71, 3) := by decide +kernel
theorem dX12_audit_9 : decode cX12_audit 9 = .ok (.ireturn, 1) := by decide +kernel
theorem dX12_setSeed_0 : decode cX12_setSeed 0 = .ok (.aload_n 0, 1) := by decide +kernel
theorem dX12_setSeed_1 : decode cX12_setSeed 1 = .ok (.getstatic 174, 3) := by decide +kernel
theorem dX12_setSeed_4 : decode cX12_setSeed 4 = .ok (.iload_n 1, 1) := by decide +kernel
theorem dX12_setSeed_5 : decode cX12_setSeed 5 = .ok (.iconst 0, 1) := by decide +kernel
theorem dX12_setSeed_6 : decode cX12_setSeed 6 = .ok (.invokevirtual 71, 3) := by decide +kernel
theorem dX12_setSeed_9 : decode cX12_setSeed 9 = .ok (.ireturn, 1) := by decide +kernel
theorem dX12_drawnMember_0 : decode cX12_drawnMember 0 = .ok (.aload_n 0, 1) := by decide +kernel
theorem dX12_drawnMember_1 : decode cX12_drawnMember 1 = .ok (.getfield 20, 3) := by decide +kernel
theorem dX12_drawnMember_4 : decode cX12_drawnMember 4 = .ok (.iload_n 1, 1) := by decide +kernel
theorem dX12_drawnMember_5 : decode cX12_drawnMember 5 = .ok (.invokevirtual 177, 3) := by decide +kernel
theorem dX12_drawnMember_8 : decode cX12_drawnMember 8 = .ok (.ifCond .ne 13, 3) := by decide +kernel
theorem dX12_drawnMember_11 : decode cX12_drawnMember 11 = .ok (.new 108, 3) := by decide +kernel
theorem dX12_drawnMember_14 : decode cX12_drawnMember 14 = .ok (.dup, 1) := by decide +kernel
theorem dX12_drawnMember_15 : decode cX12_drawnMember 15 = .ok (.ldc 181, 2) := by decide +kernel
theorem dX12_drawnMember_17 : decode cX12_drawnMember 17 = .ok (.invokespecial 112, 3) := by decide +kernel
theorem dX12_drawnMember_20 : decode cX12_drawnMember 20 = .ok (.athrow, 1) := by decide +kernel
theorem dX12_drawnMember_21 : decode cX12_drawnMember 21 = .ok (.aload_n 0, 1) := by decide +kernel
theorem dX12_drawnMember_22 : decode cX12_drawnMember 22 = .ok (.getfield 10, 3) := by decide +kernel
theorem dX12_drawnMember_25 : decode cX12_drawnMember 25 = .ok (.iload_n 1, 1) := by decide +kernel
theorem dX12_drawnMember_26 : decode cX12_drawnMember 26 = .ok (.iconst 1, 1) := by decide +kernel
theorem dX12_drawnMember_27 : decode cX12_drawnMember 27 = .ok (.iadd, 1) := by decide +kernel
theorem dX12_drawnMember_28 : decode cX12_drawnMember 28 = .ok (.invokevirtual 183, 3) := by decide +kernel
theorem dX12_drawnMember_31 : decode cX12_drawnMember 31 = .ok (.pop, 1) := by decide +kernel
theorem dX12_drawnMember_32 : decode cX12_drawnMember 32 = .ok (.aload_n 0, 1) := by decide +kernel
theorem dX12_drawnMember_33 : decode cX12_drawnMember 33 = .ok (.getfield 10, 3) := by decide +kernel
theorem dX12_drawnMember_36 : decode cX12_drawnMember 36 = .ok (.getfield 186, 3) := by decide +kernel
theorem dX12_drawnMember_39 : decode cX12_drawnMember 39 = .ok (.iload_n 1, 1) := by decide +kernel
theorem dX12_drawnMember_40 : decode cX12_drawnMember 40 = .ok (.iaload, 1) := by decide +kernel
theorem dX12_drawnMember_41 : decode cX12_drawnMember 41 = .ok (.ireturn, 1) := by decide +kernel
theorem dX12_link_0 : decode cX12_link 0 = .ok (.aload_n 0, 1) := by decide +kernel
theorem dX12_link_1 : decode cX12_link 1 = .ok (.getstatic 189, 3) := by decide +kernel
theorem dX12_link_4 : decode cX12_link 4 = .ok (.iload_n 1, 1) := by decide +kernel
theorem dX12_link_5 : decode cX12_link 5 = .ok (.iload_n 2, 1) := by decide +kernel
theorem dX12_link_6 : decode cX12_link 6 = .ok (.invokevirtual 71, 3) := by decide +kernel
theorem dX12_link_9 : decode cX12_link 9 = .ok (.ireturn, 1) := by decide +kernel
theorem dX12_unlink_0 : decode cX12_unlink 0 = .ok (.aload_n 0, 1) := by decide +kernel
theorem dX12_unlink_1 : decode cX12_unlink 1 = .ok (.getstatic 192, 3) := by decide +kernel
theorem dX12_unlink_4 : decode cX12_unlink 4 = .ok (.iload_n 1, 1) := by decide +kernel
theorem dX12_unlink_5 : decode cX12_unlink 5 = .ok (.iload_n 2, 1) := by decide +kernel
theorem dX12_unlink_6 : decode cX12_unlink 6 = .ok (.invokevirtual 71, 3) := by decide +kernel
theorem dX12_unlink_9 : decode cX12_unlink 9 = .ok (.ireturn, 1) := by decide +kernel
theorem dX12_linkCount_0 : decode cX12_linkCount 0 = .ok (.aload_n 0, 1) := by decide +kernel
theorem dX12_linkCount_1 : decode cX12_linkCount 1 = .ok (.getfield 20, 3) := by decide +kernel
theorem dX12_linkCount_4 : decode cX12_linkCount 4 = .ok (.getfield 195, 3) := by decide +kernel
theorem dX12_linkCount_7 : decode cX12_linkCount 7 = .ok (.invokevirtual 199, 3) := by decide +kernel
theorem dX12_linkCount_10 : decode cX12_linkCount 10 = .ok (.ireturn, 1) := by decide +kernel
theorem dX12_areLinked_0 : decode cX12_areLinked 0 = .ok (.aload_n 0, 1) := by decide +kernel
theorem dX12_areLinked_1 : decode cX12_areLinked 1 = .ok (.iload_n 1, 1) := by decide +kernel
theorem dX12_areLinked_2 : decode cX12_areLinked 2 = .ok (.invokevirtual 82, 3) := by decide +kernel
theorem dX12_areLinked_5 : decode cX12_areLinked 5 = .ok (.aload_n 0, 1) := by decide +kernel
theorem dX12_areLinked_6 : decode cX12_areLinked 6 = .ok (.iload_n 2, 1) := by decide +kernel
theorem dX12_areLinked_7 : decode cX12_areLinked 7 = .ok (.invokevirtual 82, 3) := by decide +kernel
theorem dX12_areLinked_10 : decode cX12_areLinked 10 = .ok (.aload_n 0, 1) := by decide +kernel
theorem dX12_areLinked_11 : decode cX12_areLinked 11 = .ok (.getfield 20, 3) := by decide +kernel
theorem dX12_areLinked_14 : decode cX12_areLinked 14 = .ok (.getfield 195, 3) := by decide +kernel
theorem dX12_areLinked_17 : decode cX12_areLinked 17 = .ok (.iload_n 1, 1) := by decide +kernel
theorem dX12_areLinked_18 : decode cX12_areLinked 18 = .ok (.iload_n 2, 1) := by decide +kernel
theorem dX12_areLinked_19 : decode cX12_areLinked 19 = .ok (.invokevirtual 204, 3) := by decide +kernel
theorem dX12_areLinked_22 : decode cX12_areLinked 22 = .ok (.ireturn, 1) := by decide +kernel
theorem dX12_fewestWatchers_0 : decode cX12_fewestWatchers 0 = .ok (.aload_n 0, 1) := by decide +kernel
theorem dX12_fewestWatchers_1 : decode cX12_fewestWatchers 1 = .ok (.getfield 20, 3) := by decide +kernel
theorem dX12_fewestWatchers_4 : decode cX12_fewestWatchers 4 = .ok (.getfield 195, 3) := by decide +kernel
theorem dX12_fewestWatchers_7 : decode cX12_fewestWatchers 7 = .ok (.aload_n 0, 1) := by decide +kernel
theorem dX12_fewestWatchers_8 : decode cX12_fewestWatchers 8 = .ok (.getfield 20, 3) := by decide +kernel
theorem dX12_fewestWatchers_11 : decode cX12_fewestWatchers 11 = .ok (.getfield 78, 3) := by decide +kernel
theorem dX12_fewestWatchers_14 : decode cX12_fewestWatchers 14 = .ok (.invokevirtual 208, 3) := by decide +kernel
theorem dX12_fewestWatchers_17 : decode cX12_fewestWatchers 17 = .ok (.ireturn, 1) := by decide +kernel
theorem dX12_fewestWatchersByBranching_0 : decode cX12_fewestWatchersByBranching 0 = .ok (.aload_n 0, 1) := by decide +kernel
theorem dX12_fewestWatchersByBranching_1 : decode cX12_fewestWatchersByBranching 1 = .ok (.getfield 20, 3) := by decide +kernel
theorem dX12_fewestWatchersByBranching_4 : decode cX12_fewestWatchersByBranching 4 = .ok (.getfield 195, 3) := by decide +kernel
theorem dX12_fewestWatchersByBranching_7 : decode cX12_fewestWatchersByBranching 7 = .ok (.aload_n 0, 1) := by decide +kernel
theorem dX12_fewestWatchersByBranching_8 : decode cX12_fewestWatchersByBranching 8 = .ok (.getfield 20, 3) := by decide +kernel
theorem dX12_fewestWatchersByBranching_11 : decode cX12_fewestWatchersByBranching 11 = .ok (.getfield 78, 3) := by decide +kernel
theorem dX12_fewestWatchersByBranching_14 : decode cX12_fewestWatchersByBranching 14 = .ok (.iconst 0, 1) := by decide +kernel
theorem dX12_fewestWatchersByBranching_15 : decode cX12_fewestWatchersByBranching 15 = .ok (.iconst 0, 1) := by decide +kernel
theorem dX12_fewestWatchersByBranching_16 : decode cX12_fewestWatchersByBranching 16 = .ok (.invokestatic 211, 3) := by decide +kernel
theorem dX12_fewestWatchersByBranching_19 : decode cX12_fewestWatchersByBranching 19 = .ok (.ireturn, 1) := by decide +kernel
theorem dX12_setThreshold_0 : decode cX12_setThreshold 0 = .ok (.aload_n 0, 1) := by decide +kernel
theorem dX12_setThreshold_1 : decode cX12_setThreshold 1 = .ok (.getstatic 215, 3) := by decide +kernel
theorem dX12_setThreshold_4 : decode cX12_setThreshold 4 = .ok (.iload_n 1, 1) := by decide +kernel
theorem dX12_setThreshold_5 : decode cX12_setThreshold 5 = .ok (.iconst 0, 1) := by decide +kernel
theorem dX12_setThreshold_6 : decode cX12_setThreshold 6 = .ok (.invokevirtual 71, 3) := by decide +kernel
theorem dX12_setThreshold_9 : decode cX12_setThreshold 9 = .ok (.ireturn, 1) := by decide +kernel
theorem dX12_winningCoalitions_0 : decode cX12_winningCoalitions 0 = .ok (.aload_n 0, 1) := by decide +kernel
theorem dX12_winningCoalitions_1 : decode cX12_winningCoalitions 1 = .ok (.getfield 40, 3) := by decide +kernel
theorem dX12_winningCoalitions_4 : decode cX12_winningCoalitions 4 = .ok (.aload_n 0, 1) := by decide +kernel
theorem dX12_winningCoalitions_5 : decode cX12_winningCoalitions 5 = .ok (.getfield 20, 3) := by decide +kernel
theorem dX12_winningCoalitions_8 : decode cX12_winningCoalitions 8 = .ok (.invokevirtual 218, 3) := by decide +kernel
theorem dX12_winningCoalitions_11 : decode cX12_winningCoalitions 11 = .ok (.ireturn, 1) := by decide +kernel
theorem dX12_swings_0 : decode cX12_swings 0 = .ok (.aload_n 0, 1) := by decide +kernel
theorem dX12_swings_1 : decode cX12_swings 1 = .ok (.iload_n 1, 1) := by decide +kernel
theorem dX12_swings_2 : decode cX12_swings 2 = .ok (.invokevirtual 82, 3) := by decide +kernel
theorem dX12_swings_5 : decode cX12_swings 5 = .ok (.aload_n 0, 1) := by decide +kernel
theorem dX12_swings_6 : decode cX12_swings 6 = .ok (.getfield 20, 3) := by decide +kernel
theorem dX12_swings_9 : decode cX12_swings 9 = .ok (.getfield 86, 3) := by decide +kernel
theorem dX12_swings_12 : decode cX12_swings 12 = .ok (.iload_n 1, 1) := by decide +kernel
theorem dX12_swings_13 : decode cX12_swings 13 = .ok (.aaload, 1) := by decide +kernel
theorem dX12_swings_14 : decode cX12_swings 14 = .ok (.invokevirtual 102, 3) := by decide +kernel
theorem dX12_swings_17 : decode cX12_swings 17 = .ok (.ifCond .ne 13, 3) := by decide +kernel
theorem dX12_swings_20 : decode cX12_swings 20 = .ok (.new 108, 3) := by decide +kernel
theorem dX12_swings_23 : decode cX12_swings 23 = .ok (.dup, 1) := by decide +kernel
theorem dX12_swings_24 : decode cX12_swings 24 = .ok (.ldc 222, 2) := by decide +kernel
theorem dX12_swings_26 : decode cX12_swings 26 = .ok (.invokespecial 112, 3) := by decide +kernel
theorem dX12_swings_29 : decode cX12_swings 29 = .ok (.athrow, 1) := by decide +kernel
theorem dX12_swings_30 : decode cX12_swings 30 = .ok (.aload_n 0, 1) := by decide +kernel
theorem dX12_swings_31 : decode cX12_swings 31 = .ok (.getfield 40, 3) := by decide +kernel
theorem dX12_swings_34 : decode cX12_swings 34 = .ok (.aload_n 0, 1) := by decide +kernel
theorem dX12_swings_35 : decode cX12_swings 35 = .ok (.getfield 20, 3) := by decide +kernel
theorem dX12_swings_38 : decode cX12_swings 38 = .ok (.iload_n 1, 1) := by decide +kernel
theorem dX12_swings_39 : decode cX12_swings 39 = .ok (.invokevirtual 224, 3) := by decide +kernel
theorem dX12_swings_42 : decode cX12_swings 42 = .ok (.ireturn, 1) := by decide +kernel
theorem dX12_swingsByCounts_0 : decode cX12_swingsByCounts 0 = .ok (.aload_n 0, 1) := by decide +kernel
theorem dX12_swingsByCounts_1 : decode cX12_swingsByCounts 1 = .ok (.iload_n 1, 1) := by decide +kernel
theorem dX12_swingsByCounts_2 : decode cX12_swingsByCounts 2 = .ok (.invokevirtual 82, 3) := by decide +kernel
theorem dX12_swingsByCounts_5 : decode cX12_swingsByCounts 5 = .ok (.aload_n 0, 1) := by decide +kernel
theorem dX12_swingsByCounts_6 : decode cX12_swingsByCounts 6 = .ok (.getfield 20, 3) := by decide +kernel
theorem dX12_swingsByCounts_9 : decode cX12_swingsByCounts 9 = .ok (.getfield 86, 3) := by decide +kernel
theorem dX12_swingsByCounts_12 : decode cX12_swingsByCounts 12 = .ok (.iload_n 1, 1) := by decide +kernel
theorem dX12_swingsByCounts_13 : decode cX12_swingsByCounts 13 = .ok (.aaload, 1) := by decide +kernel
theorem dX12_swingsByCounts_14 : decode cX12_swingsByCounts 14 = .ok (.invokevirtual 102, 3) := by decide +kernel
theorem dX12_swingsByCounts_17 : decode cX12_swingsByCounts 17 = .ok (.ifCond .ne 13, 3) := by decide +kernel
theorem dX12_swingsByCounts_20 : decode cX12_swingsByCounts 20 = .ok (.new 108, 3) := by decide +kernel
theorem dX12_swingsByCounts_23 : decode cX12_swingsByCounts 23 = .ok (.dup, 1) := by decide +kernel
theorem dX12_swingsByCounts_24 : decode cX12_swingsByCounts 24 = .ok (.ldc 222, 2) := by decide +kernel
theorem dX12_swingsByCounts_26 : decode cX12_swingsByCounts 26 = .ok (.invokespecial 112, 3) := by decide +kernel
theorem dX12_swingsByCounts_29 : decode cX12_swingsByCounts 29 = .ok (.athrow, 1) := by decide +kernel
theorem dX12_swingsByCounts_30 : decode cX12_swingsByCounts 30 = .ok (.aload_n 0, 1) := by decide +kernel
theorem dX12_swingsByCounts_31 : decode cX12_swingsByCounts 31 = .ok (.getfield 40, 3) := by decide +kernel
theorem dX12_swingsByCounts_34 : decode cX12_swingsByCounts 34 = .ok (.aload_n 0, 1) := by decide +kernel
theorem dX12_swingsByCounts_35 : decode cX12_swingsByCounts 35 = .ok (.getfield 20, 3) := by decide +kernel
theorem dX12_swingsByCounts_38 : decode cX12_swingsByCounts 38 = .ok (.iload_n 1, 1) := by decide +kernel
theorem dX12_swingsByCounts_39 : decode cX12_swingsByCounts 39 = .ok (.invokevirtual 228, 3) := by decide +kernel
theorem dX12_swingsByCounts_42 : decode cX12_swingsByCounts 42 = .ok (.ireturn, 1) := by decide +kernel
theorem dX12_leastDifference_0 : decode cX12_leastDifference 0 = .ok (.aload_n 0, 1) := by decide +kernel
theorem dX12_leastDifference_1 : decode cX12_leastDifference 1 = .ok (.getfield 40, 3) := by decide +kernel
theorem dX12_leastDifference_4 : decode cX12_leastDifference 4 = .ok (.aload_n 0, 1) := by decide +kernel
theorem dX12_leastDifference_5 : decode cX12_leastDifference 5 = .ok (.getfield 20, 3) := by decide +kernel
theorem dX12_leastDifference_8 : decode cX12_leastDifference 8 = .ok (.invokevirtual 231, 3) := by decide +kernel
theorem dX12_leastDifference_11 : decode cX12_leastDifference 11 = .ok (.ireturn, 1) := by decide +kernel
theorem dX12_leastDifferenceBySums_0 : decode cX12_leastDifferenceBySums 0 = .ok (.aload_n 0, 1) := by decide +kernel
theorem dX12_leastDifferenceBySums_1 : decode cX12_leastDifferenceBySums 1 = .ok (.getfield 40, 3) := by decide +kernel
theorem dX12_leastDifferenceBySums_4 : decode cX12_leastDifferenceBySums 4 = .ok (.aload_n 0, 1) := by decide +kernel
theorem dX12_leastDifferenceBySums_5 : decode cX12_leastDifferenceBySums 5 = .ok (.getfield 20, 3) := by decide +kernel
theorem dX12_leastDifferenceBySums_8 : decode cX12_leastDifferenceBySums 8 = .ok (.invokevirtual 234, 3) := by decide +kernel
theorem dX12_leastDifferenceBySums_11 : decode cX12_leastDifferenceBySums 11 = .ok (.ireturn, 1) := by decide +kernel
theorem dX12_share_0 : decode cX12_share 0 = .ok (.aload_n 0, 1) := by decide +kernel
theorem dX12_share_1 : decode cX12_share 1 = .ok (.iload_n 1, 1) := by decide +kernel
theorem dX12_share_2 : decode cX12_share 2 = .ok (.invokevirtual 82, 3) := by decide +kernel
theorem dX12_share_5 : decode cX12_share 5 = .ok (.aload_n 0, 1) := by decide +kernel
theorem dX12_share_6 : decode cX12_share 6 = .ok (.getfield 47, 3) := by decide +kernel
theorem dX12_share_9 : decode cX12_share 9 = .ok (.aload_n 0, 1) := by decide +kernel
theorem dX12_share_10 : decode cX12_share 10 = .ok (.getfield 20, 3) := by decide +kernel
theorem dX12_share_13 : decode cX12_share 13 = .ok (.iload_n 1, 1) := by decide +kernel
theorem dX12_share_14 : decode cX12_share 14 = .ok (.invokevirtual 237, 3) := by decide +kernel
theorem dX12_share_17 : decode cX12_share 17 = .ok (.ireturn, 1) := by decide +kernel
theorem dX12_shareBySteps_0 : decode cX12_shareBySteps 0 = .ok (.aload_n 0, 1) := by decide +kernel
theorem dX12_shareBySteps_1 : decode cX12_shareBySteps 1 = .ok (.iload_n 1, 1) := by decide +kernel
theorem dX12_shareBySteps_2 : decode cX12_shareBySteps 2 = .ok (.invokevirtual 82, 3) := by decide +kernel
theorem dX12_shareBySteps_5 : decode cX12_shareBySteps 5 = .ok (.aload_n 0, 1) := by decide +kernel
theorem dX12_shareBySteps_6 : decode cX12_shareBySteps 6 = .ok (.getfield 47, 3) := by decide +kernel
theorem dX12_shareBySteps_9 : decode cX12_shareBySteps 9 = .ok (.aload_n 0, 1) := by decide +kernel
theorem dX12_shareBySteps_10 : decode cX12_shareBySteps 10 = .ok (.getfield 20, 3) := by decide +kernel
theorem dX12_shareBySteps_13 : decode cX12_shareBySteps 13 = .ok (.iload_n 1, 1) := by decide +kernel
theorem dX12_shareBySteps_14 : decode cX12_shareBySteps 14 = .ok (.invokevirtual 240, 3) := by decide +kernel
theorem dX12_shareBySteps_17 : decode cX12_shareBySteps 17 = .ok (.ireturn, 1) := by decide +kernel
theorem dX12_month_0 : decode cX12_month 0 = .ok (.aload_n 0, 1) := by decide +kernel
theorem dX12_month_1 : decode cX12_month 1 = .ok (.getfield 20, 3) := by decide +kernel
theorem dX12_month_4 : decode cX12_month 4 = .ok (.getfield 243, 3) := by decide +kernel
theorem dX12_month_7 : decode cX12_month 7 = .ok (.ireturn, 1) := by decide +kernel
theorem dX12_soldTotal_0 : decode cX12_soldTotal 0 = .ok (.aload_n 0, 1) := by decide +kernel
theorem dX12_soldTotal_1 : decode cX12_soldTotal 1 = .ok (.getfield 20, 3) := by decide +kernel
theorem dX12_soldTotal_4 : decode cX12_soldTotal 4 = .ok (.getfield 246, 3) := by decide +kernel
theorem dX12_soldTotal_7 : decode cX12_soldTotal 7 = .ok (.aload_n 0, 1) := by decide +kernel
theorem dX12_soldTotal_8 : decode cX12_soldTotal 8 = .ok (.getfield 20, 3) := by decide +kernel
theorem dX12_soldTotal_11 : decode cX12_soldTotal 11 = .ok (.getfield 249, 3) := by decide +kernel
theorem dX12_soldTotal_14 : decode cX12_soldTotal 14 = .ok (.iadd, 1) := by decide +kernel
theorem dX12_soldTotal_15 : decode cX12_soldTotal 15 = .ok (.ireturn, 1) := by decide +kernel
theorem dX12_withinTotal_0 : decode cX12_withinTotal 0 = .ok (.aload_n 0, 1) := by decide +kernel
theorem dX12_withinTotal_1 : decode cX12_withinTotal 1 = .ok (.getfield 20, 3) := by decide +kernel
theorem dX12_withinTotal_4 : decode cX12_withinTotal 4 = .ok (.getfield 246, 3) := by decide +kernel
theorem dX12_withinTotal_7 : decode cX12_withinTotal 7 = .ok (.ireturn, 1) := by decide +kernel
theorem dX12_finedTotal_0 : decode cX12_finedTotal 0 = .ok (.aload_n 0, 1) := by decide +kernel
theorem dX12_finedTotal_1 : decode cX12_finedTotal 1 = .ok (.getfield 20, 3) := by decide +kernel
theorem dX12_finedTotal_4 : decode cX12_finedTotal 4 = .ok (.getfield 249, 3) := by decide +kernel
theorem dX12_finedTotal_7 : decode cX12_finedTotal 7 = .ok (.ireturn, 1) := by decide +kernel
theorem dX12_fines_0 : decode cX12_fines 0 = .ok (.aload_n 0, 1) := by decide +kernel
theorem dX12_fines_1 : decode cX12_fines 1 = .ok (.getfield 20, 3) := by decide +kernel
theorem dX12_fines_4 : decode cX12_fines 4 = .ok (.getfield 249, 3) := by decide +kernel
theorem dX12_fines_7 : decode cX12_fines 7 = .ok (.iconst 3, 1) := by decide +kernel
theorem dX12_fines_8 : decode cX12_fines 8 = .ok (.imul, 1) := by decide +kernel
theorem dX12_fines_9 : decode cX12_fines 9 = .ok (.ireturn, 1) := by decide +kernel
theorem dX12_meanSales_0 : decode cX12_meanSales 0 = .ok (.aload_n 0, 1) := by decide +kernel
theorem dX12_meanSales_1 : decode cX12_meanSales 1 = .ok (.getfield 20, 3) := by decide +kernel
theorem dX12_meanSales_4 : decode cX12_meanSales 4 = .ok (.getfield 78, 3) := by decide +kernel
theorem dX12_meanSales_7 : decode cX12_meanSales 7 = .ok (.ifCond .ne 13, 3) := by decide +kernel
theorem dX12_meanSales_10 : decode cX12_meanSales 10 = .ok (.new 252, 3) := by decide +kernel
theorem dX12_meanSales_13 : decode cX12_meanSales 13 = .ok (.dup, 1) := by decide +kernel
theorem dX12_meanSales_14 : decode cX12_meanSales 14 = .ok (.ldc 254, 2) := by decide +kernel
theorem dX12_meanSales_16 : decode cX12_meanSales 16 = .ok (.invokespecial 256, 3) := by decide +kernel
theorem dX12_meanSales_19 : decode cX12_meanSales 19 = .ok (.athrow, 1) := by decide +kernel
theorem dX12_meanSales_20 : decode cX12_meanSales 20 = .ok (.iconst 0, 1) := by decide +kernel
theorem dX12_meanSales_21 : decode cX12_meanSales 21 = .ok (.istore_n 1, 1) := by decide +kernel
theorem dX12_meanSales_22 : decode cX12_meanSales 22 = .ok (.iconst 0, 1) := by decide +kernel
theorem dX12_meanSales_23 : decode cX12_meanSales 23 = .ok (.istore_n 2, 1) := by decide +kernel
theorem dX12_meanSales_24 : decode cX12_meanSales 24 = .ok (.iload_n 2, 1) := by decide +kernel
theorem dX12_meanSales_25 : decode cX12_meanSales 25 = .ok (.aload_n 0, 1) := by decide +kernel
theorem dX12_meanSales_26 : decode cX12_meanSales 26 = .ok (.getfield 20, 3) := by decide +kernel
theorem dX12_meanSales_29 : decode cX12_meanSales 29 = .ok (.getfield 78, 3) := by decide +kernel
theorem dX12_meanSales_32 : decode cX12_meanSales 32 = .ok (.if_icmp .ge 24, 3) := by decide +kernel
theorem dX12_meanSales_35 : decode cX12_meanSales 35 = .ok (.iload_n 1, 1) := by decide +kernel
theorem dX12_meanSales_36 : decode cX12_meanSales 36 = .ok (.aload_n 0, 1) := by decide +kernel
theorem dX12_meanSales_37 : decode cX12_meanSales 37 = .ok (.getfield 20, 3) := by decide +kernel
theorem dX12_meanSales_40 : decode cX12_meanSales 40 = .ok (.getfield 86, 3) := by decide +kernel
theorem dX12_meanSales_43 : decode cX12_meanSales 43 = .ok (.iload_n 2, 1) := by decide +kernel
theorem dX12_meanSales_44 : decode cX12_meanSales 44 = .ok (.aaload, 1) := by decide +kernel
theorem dX12_meanSales_45 : decode cX12_meanSales 45 = .ok (.getfield 164, 3) := by decide +kernel
theorem dX12_meanSales_48 : decode cX12_meanSales 48 = .ok (.iadd, 1) := by decide +kernel
theorem dX12_meanSales_49 : decode cX12_meanSales 49 = .ok (.istore_n 1, 1) := by decide +kernel
theorem dX12_meanSales_50 : decode cX12_meanSales 50 = .ok (.iinc 2 1, 3) := by decide +kernel
theorem dX12_meanSales_53 : decode cX12_meanSales 53 = .ok (.goto (-29), 3) := by decide +kernel
theorem dX12_meanSales_56 : decode cX12_meanSales 56 = .ok (.iload_n 1, 1) := by decide +kernel
theorem dX12_meanSales_57 : decode cX12_meanSales 57 = .ok (.i2d, 1) := by decide +kernel
theorem dX12_meanSales_58 : decode cX12_meanSales 58 = .ok (.aload_n 0, 1) := by decide +kernel
theorem dX12_meanSales_59 : decode cX12_meanSales 59 = .ok (.getfield 20, 3) := by decide +kernel
theorem dX12_meanSales_62 : decode cX12_meanSales 62 = .ok (.getfield 78, 3) := by decide +kernel
theorem dX12_meanSales_65 : decode cX12_meanSales 65 = .ok (.i2d, 1) := by decide +kernel
theorem dX12_meanSales_66 : decode cX12_meanSales 66 = .ok (.ddiv, 1) := by decide +kernel
theorem dX12_meanSales_67 : decode cX12_meanSales 67 = .ok (.dreturn, 1) := by decide +kernel
theorem dX12_finedShare_0 : decode cX12_finedShare 0 = .ok (.aload_n 0, 1) := by decide +kernel
theorem dX12_finedShare_1 : decode cX12_finedShare 1 = .ok (.getfield 20, 3) := by decide +kernel
theorem dX12_finedShare_4 : decode cX12_finedShare 4 = .ok (.getfield 246, 3) := by decide +kernel
theorem dX12_finedShare_7 : decode cX12_finedShare 7 = .ok (.aload_n 0, 1) := by decide +kernel
theorem dX12_finedShare_8 : decode cX12_finedShare 8 = .ok (.getfield 20, 3) := by decide +kernel
theorem dX12_finedShare_11 : decode cX12_finedShare 11 = .ok (.getfield 249, 3) := by decide +kernel
theorem dX12_finedShare_14 : decode cX12_finedShare 14 = .ok (.iadd, 1) := by decide +kernel
theorem dX12_finedShare_15 : decode cX12_finedShare 15 = .ok (.istore_n 1, 1) := by decide +kernel
theorem dX12_finedShare_16 : decode cX12_finedShare 16 = .ok (.iload_n 1, 1) := by decide +kernel
theorem dX12_finedShare_17 : decode cX12_finedShare 17 = .ok (.ifCond .ne 14, 3) := by decide +kernel
theorem dX12_finedShare_20 : decode cX12_finedShare 20 = .ok (.new 252, 3) := by decide +kernel
theorem dX12_finedShare_23 : decode cX12_finedShare 23 = .ok (.dup, 1) := by decide +kernel
theorem dX12_finedShare_24 : decode cX12_finedShare 24 = .ok (.ldc_w 257, 3) := by decide +kernel
theorem dX12_finedShare_27 : decode cX12_finedShare 27 = .ok (.invokespecial 256, 3) := by decide +kernel
theorem dX12_finedShare_30 : decode cX12_finedShare 30 = .ok (.athrow, 1) := by decide +kernel
theorem dX12_finedShare_31 : decode cX12_finedShare 31 = .ok (.aload_n 0, 1) := by decide +kernel
theorem dX12_finedShare_32 : decode cX12_finedShare 32 = .ok (.getfield 20, 3) := by decide +kernel
theorem dX12_finedShare_35 : decode cX12_finedShare 35 = .ok (.getfield 249, 3) := by decide +kernel
theorem dX12_finedShare_38 : decode cX12_finedShare 38 = .ok (.i2f, 1) := by decide +kernel
theorem dX12_finedShare_39 : decode cX12_finedShare 39 = .ok (.iload_n 1, 1) := by decide +kernel
theorem dX12_finedShare_40 : decode cX12_finedShare 40 = .ok (.i2f, 1) := by decide +kernel
theorem dX12_finedShare_41 : decode cX12_finedShare 41 = .ok (.fdiv, 1) := by decide +kernel
theorem dX12_finedShare_42 : decode cX12_finedShare 42 = .ok (.freturn, 1) := by decide +kernel
theorem dX12_feed_0 : decode cX12_feed 0 = .ok (.aload_n 0, 1) := by decide +kernel
theorem dX12_feed_1 : decode cX12_feed 1 = .ok (.getfield 54, 3) := by decide +kernel
theorem dX12_feed_4 : decode cX12_feed 4 = .ok (.invokevirtual 259, 3) := by decide +kernel
theorem dX12_feed_7 : decode cX12_feed 7 = .ok (.ifCond .eq 14, 3) := by decide +kernel
theorem dX12_feed_10 : decode cX12_feed 10 = .ok (.new 262, 3) := by decide +kernel
theorem dX12_feed_13 : decode cX12_feed 13 = .ok (.dup, 1) := by decide +kernel
theorem dX12_feed_14 : decode cX12_feed 14 = .ok (.ldc_w 264, 3) := by decide +kernel
theorem dX12_feed_17 : decode cX12_feed 17 = .ok (.invokespecial 266, 3) := by decide +kernel
theorem dX12_feed_20 : decode cX12_feed 20 = .ok (.athrow, 1) := by decide +kernel
theorem dX12_feed_21 : decode cX12_feed 21 = .ok (.aload_n 0, 1) := by decide +kernel
theorem dX12_feed_22 : decode cX12_feed 22 = .ok (.getfield 54, 3) := by decide +kernel
theorem dX12_feed_25 : decode cX12_feed 25 = .ok (.iload_n 1, 1) := by decide +kernel
theorem dX12_feed_26 : decode cX12_feed 26 = .ok (.invokevirtual 267, 3) := by decide +kernel
theorem dX12_feed_29 : decode cX12_feed 29 = .ok (.ireturn, 1) := by decide +kernel
theorem dX12_execute_0 : decode cX12_execute 0 = .ok (.aload_n 0, 1) := by decide +kernel
theorem dX12_execute_1 : decode cX12_execute 1 = .ok (.getfield 54, 3) := by decide +kernel
theorem dX12_execute_4 : decode cX12_execute 4 = .ok (.invokevirtual 271, 3) := by decide +kernel
theorem dX12_execute_7 : decode cX12_execute 7 = .ok (.istore_n 1, 1) := by decide +kernel
theorem dX12_execute_8 : decode cX12_execute 8 = .ok (.aload_n 0, 1) := by decide +kernel
theorem dX12_execute_9 : decode cX12_execute 9 = .ok (.getfield 54, 3) := by decide +kernel
theorem dX12_execute_12 : decode cX12_execute 12 = .ok (.invokevirtual 274, 3) := by decide +kernel
theorem dX12_execute_15 : decode cX12_execute 15 = .ok (.iload_n 1, 1) := by decide +kernel
theorem dX12_execute_16 : decode cX12_execute 16 = .ok (.ifCond .ne 30, 3) := by decide +kernel
theorem dX12_execute_19 : decode cX12_execute 19 = .ok (.aload_n 0, 1) := by decide +kernel
theorem dX12_execute_20 : decode cX12_execute 20 = .ok (.iconst 1, 1) := by decide +kernel
theorem dX12_execute_21 : decode cX12_execute 21 = .ok (.putfield 277, 3) := by decide +kernel
theorem dX12_execute_24 : decode cX12_execute 24 = .ok (.aload_n 0, 1) := by decide +kernel
theorem dX12_execute_25 : decode cX12_execute 25 = .ok (.aload_n 0, 1) := by decide +kernel
theorem dX12_execute_26 : decode cX12_execute 26 = .ok (.getfield 54, 3) := by decide +kernel
theorem dX12_execute_29 : decode cX12_execute 29 = .ok (.getfield 281, 3) := by decide +kernel
theorem dX12_execute_32 : decode cX12_execute 32 = .ok (.putfield 284, 3) := by decide +kernel
theorem dX12_execute_35 : decode cX12_execute 35 = .ok (.new 142, 3) := by decide +kernel
theorem dX12_execute_38 : decode cX12_execute 38 = .ok (.dup, 1) := by decide +kernel
theorem dX12_execute_39 : decode cX12_execute 39 = .ok (.ldc_w 287, 3) := by decide +kernel
theorem dX12_execute_42 : decode cX12_execute 42 = .ok (.invokespecial 146, 3) := by decide +kernel
theorem dX12_execute_45 : decode cX12_execute 45 = .ok (.athrow, 1) := by decide +kernel
theorem dX12_execute_46 : decode cX12_execute 46 = .ok (.aload_n 0, 1) := by decide +kernel
theorem dX12_execute_47 : decode cX12_execute 47 = .ok (.getfield 24, 3) := by decide +kernel
theorem dX12_execute_50 : decode cX12_execute 50 = .ok (.aload_n 0, 1) := by decide +kernel
theorem dX12_execute_51 : decode cX12_execute 51 = .ok (.getfield 20, 3) := by decide +kernel
theorem dX12_execute_54 : decode cX12_execute 54 = .ok (.invokevirtual 289, 3) := by decide +kernel
theorem dX12_execute_57 : decode cX12_execute 57 = .ok (.aload_n 0, 1) := by decide +kernel
theorem dX12_execute_58 : decode cX12_execute 58 = .ok (.getfield 54, 3) := by decide +kernel
theorem dX12_execute_61 : decode cX12_execute 61 = .ok (.aload_n 0, 1) := by decide +kernel
theorem dX12_execute_62 : decode cX12_execute 62 = .ok (.getfield 10, 3) := by decide +kernel
theorem dX12_execute_65 : decode cX12_execute 65 = .ok (.invokevirtual 293, 3) := by decide +kernel
theorem dX12_execute_68 : decode cX12_execute 68 = .ok (.astore_n 2, 1) := by decide +kernel
theorem dX12_execute_69 : decode cX12_execute 69 = .ok (.aload_n 2, 1) := by decide +kernel
theorem dX12_execute_70 : decode cX12_execute 70 = .ok (.ifnull 30, 3) := by decide +kernel
theorem dX12_execute_73 : decode cX12_execute 73 = .ok (.aload_n 0, 1) := by decide +kernel
theorem dX12_execute_74 : decode cX12_execute 74 = .ok (.getfield 20, 3) := by decide +kernel
theorem dX12_execute_77 : decode cX12_execute 77 = .ok (.aload_n 0, 1) := by decide +kernel
theorem dX12_execute_78 : decode cX12_execute 78 = .ok (.getfield 24, 3) := by decide +kernel
theorem dX12_execute_81 : decode cX12_execute 81 = .ok (.invokevirtual 289, 3) := by decide +kernel
theorem dX12_execute_84 : decode cX12_execute 84 = .ok (.aload_n 0, 1) := by decide +kernel
theorem dX12_execute_85 : decode cX12_execute 85 = .ok (.aload_n 2, 1) := by decide +kernel
theorem dX12_execute_86 : decode cX12_execute 86 = .ok (.putfield 297, 3) := by decide +kernel
theorem dX12_execute_89 : decode cX12_execute 89 = .ok (.new 301, 3) := by decide +kernel
theorem dX12_execute_92 : decode cX12_execute 92 = .ok (.dup, 1) := by decide +kernel
theorem dX12_execute_93 : decode cX12_execute 93 = .ok (.ldc_w 303, 3) := by decide +kernel
theorem dX12_execute_96 : decode cX12_execute 96 = .ok (.invokespecial 305, 3) := by decide +kernel
theorem dX12_execute_99 : decode cX12_execute 99 = .ok (.athrow, 1) := by decide +kernel
theorem dX12_execute_100 : decode cX12_execute 100 = .ok (.aload_n 0, 1) := by decide +kernel
theorem dX12_execute_101 : decode cX12_execute 101 = .ok (.getfield 33, 3) := by decide +kernel
theorem dX12_execute_104 : decode cX12_execute 104 = .ok (.aload_n 0, 1) := by decide +kernel
theorem dX12_execute_105 : decode cX12_execute 105 = .ok (.getfield 24, 3) := by decide +kernel
theorem dX12_execute_108 : decode cX12_execute 108 = .ok (.invokevirtual 306, 3) := by decide +kernel
theorem dX12_execute_111 : decode cX12_execute 111 = .ok (.aload_n 0, 1) := by decide +kernel
theorem dX12_execute_112 : decode cX12_execute 112 = .ok (.getfield 54, 3) := by decide +kernel
theorem dX12_execute_115 : decode cX12_execute 115 = .ok (.getfield 309, 3) := by decide +kernel
theorem dX12_execute_118 : decode cX12_execute 118 = .ok (.ireturn, 1) := by decide +kernel
theorem dX12_writeMember_0 : decode cX12_writeMember 0 = .ok (.aload_n 0, 1) := by decide +kernel
theorem dX12_writeMember_1 : decode cX12_writeMember 1 = .ok (.iload_n 1, 1) := by decide +kernel
theorem dX12_writeMember_2 : decode cX12_writeMember 2 = .ok (.invokevirtual 82, 3) := by decide +kernel
theorem dX12_writeMember_5 : decode cX12_writeMember 5 = .ok (.aload_n 0, 1) := by decide +kernel
theorem dX12_writeMember_6 : decode cX12_writeMember 6 = .ok (.getfield 20, 3) := by decide +kernel
theorem dX12_writeMember_9 : decode cX12_writeMember 9 = .ok (.getfield 86, 3) := by decide +kernel
theorem dX12_writeMember_12 : decode cX12_writeMember 12 = .ok (.iload_n 1, 1) := by decide +kernel
theorem dX12_writeMember_13 : decode cX12_writeMember 13 = .ok (.aaload, 1) := by decide +kernel
theorem dX12_writeMember_14 : decode cX12_writeMember 14 = .ok (.astore_n 2, 1) := by decide +kernel
theorem dX12_writeMember_15 : decode cX12_writeMember 15 = .ok (.aload_n 0, 1) := by decide +kernel
theorem dX12_writeMember_16 : decode cX12_writeMember 16 = .ok (.getfield 61, 3) := by decide +kernel
theorem dX12_writeMember_19 : decode cX12_writeMember 19 = .ok (.iconst 0, 1) := by decide +kernel
theorem dX12_writeMember_20 : decode cX12_writeMember 20 = .ok (.invokevirtual 314, 3) := by decide +kernel
theorem dX12_writeMember_23 : decode cX12_writeMember 23 = .ok (.aload_n 0, 1) := by decide +kernel
theorem dX12_writeMember_24 : decode cX12_writeMember 24 = .ok (.getfield 61, 3) := by decide +kernel
theorem dX12_writeMember_27 : decode cX12_writeMember 27 = .ok (.iload_n 1, 1) := by decide +kernel
theorem dX12_writeMember_28 : decode cX12_writeMember 28 = .ok (.invokevirtual 317, 3) := by decide +kernel
theorem dX12_writeMember_31 : decode cX12_writeMember 31 = .ok (.bipush 58, 2) := by decide +kernel
theorem dX12_writeMember_33 : decode cX12_writeMember 33 = .ok (.invokevirtual 320, 3) := by decide +kernel
theorem dX12_writeMember_36 : decode cX12_writeMember 36 = .ok (.aload_n 2, 1) := by decide +kernel
theorem dX12_writeMember_37 : decode cX12_writeMember 37 = .ok (.getfield 164, 3) := by decide +kernel
theorem dX12_writeMember_40 : decode cX12_writeMember 40 = .ok (.invokevirtual 317, 3) := by decide +kernel
theorem dX12_writeMember_43 : decode cX12_writeMember 43 = .ok (.pop, 1) := by decide +kernel
theorem dX12_writeMember_44 : decode cX12_writeMember 44 = .ok (.aload_n 0, 1) := by decide +kernel
theorem dX12_writeMember_45 : decode cX12_writeMember 45 = .ok (.getfield 61, 3) := by decide +kernel
theorem dX12_writeMember_48 : decode cX12_writeMember 48 = .ok (.bipush 47, 2) := by decide +kernel
theorem dX12_writeMember_50 : decode cX12_writeMember 50 = .ok (.invokevirtual 320, 3) := by decide +kernel
theorem dX12_writeMember_53 : decode cX12_writeMember 53 = .ok (.aload_n 2, 1) := by decide +kernel
theorem dX12_writeMember_54 : decode cX12_writeMember 54 = .ok (.getfield 161, 3) := by decide +kernel
theorem dX12_writeMember_57 : decode cX12_writeMember 57 = .ok (.invokevirtual 317, 3) := by decide +kernel
theorem dX12_writeMember_60 : decode cX12_writeMember 60 = .ok (.pop, 1) := by decide +kernel
theorem dX12_writeMember_61 : decode cX12_writeMember 61 = .ok (.aload_n 0, 1) := by decide +kernel
theorem dX12_writeMember_62 : decode cX12_writeMember 62 = .ok (.getfield 61, 3) := by decide +kernel
theorem dX12_writeMember_65 : decode cX12_writeMember 65 = .ok (.bipush 47, 2) := by decide +kernel
theorem dX12_writeMember_67 : decode cX12_writeMember 67 = .ok (.invokevirtual 320, 3) := by decide +kernel
theorem dX12_writeMember_70 : decode cX12_writeMember 70 = .ok (.aload_n 2, 1) := by decide +kernel
theorem dX12_writeMember_71 : decode cX12_writeMember 71 = .ok (.getfield 90, 3) := by decide +kernel
theorem dX12_writeMember_74 : decode cX12_writeMember 74 = .ok (.invokevirtual 317, 3) := by decide +kernel
theorem dX12_writeMember_77 : decode cX12_writeMember 77 = .ok (.pop, 1) := by decide +kernel
theorem dX12_writeMember_78 : decode cX12_writeMember 78 = .ok (.aload_n 0, 1) := by decide +kernel
theorem dX12_writeMember_79 : decode cX12_writeMember 79 = .ok (.getfield 61, 3) := by decide +kernel
theorem dX12_writeMember_82 : decode cX12_writeMember 82 = .ok (.bipush 118, 2) := by decide +kernel
theorem dX12_writeMember_84 : decode cX12_writeMember 84 = .ok (.invokevirtual 320, 3) := by decide +kernel
theorem dX12_writeMember_87 : decode cX12_writeMember 87 = .ok (.aload_n 2, 1) := by decide +kernel
theorem dX12_writeMember_88 : decode cX12_writeMember 88 = .ok (.getfield 95, 3) := by decide +kernel
theorem dX12_writeMember_91 : decode cX12_writeMember 91 = .ok (.invokevirtual 317, 3) := by decide +kernel
theorem dX12_writeMember_94 : decode cX12_writeMember 94 = .ok (.pop, 1) := by decide +kernel
theorem dX12_writeMember_95 : decode cX12_writeMember 95 = .ok (.iconst 0, 1) := by decide +kernel
theorem dX12_writeMember_96 : decode cX12_writeMember 96 = .ok (.istore_n 3, 1) := by decide +kernel
theorem dX12_writeMember_97 : decode cX12_writeMember 97 = .ok (.iload_n 3, 1) := by decide +kernel
theorem dX12_writeMember_98 : decode cX12_writeMember 98 = .ok (.aload_n 2, 1) := by decide +kernel
theorem dX12_writeMember_99 : decode cX12_writeMember 99 = .ok (.getfield 105, 3) := by decide +kernel
theorem dX12_writeMember_102 : decode cX12_writeMember 102 = .ok (.if_icmp .ge 19, 3) := by decide +kernel
theorem dX12_writeMember_105 : decode cX12_writeMember 105 = .ok (.aload_n 0, 1) := by decide +kernel
theorem dX12_writeMember_106 : decode cX12_writeMember 106 = .ok (.getfield 61, 3) := by decide +kernel
theorem dX12_writeMember_109 : decode cX12_writeMember 109 = .ok (.bipush 33, 2) := by decide +kernel
theorem dX12_writeMember_111 : decode cX12_writeMember 111 = .ok (.invokevirtual 320, 3) := by decide +kernel
theorem dX12_writeMember_114 : decode cX12_writeMember 114 = .ok (.pop, 1) := by decide +kernel
theorem dX12_writeMember_115 : decode cX12_writeMember 115 = .ok (.iinc 3 1, 3) := by decide +kernel
theorem dX12_writeMember_118 : decode cX12_writeMember 118 = .ok (.goto (-21), 3) := by decide +kernel
theorem dX12_writeMember_121 : decode cX12_writeMember 121 = .ok (.iconst 0, 1) := by decide +kernel
theorem dX12_writeMember_122 : decode cX12_writeMember 122 = .ok (.istore_n 3, 1) := by decide +kernel
theorem dX12_writeMember_123 : decode cX12_writeMember 123 = .ok (.iload_n 3, 1) := by decide +kernel
theorem dX12_writeMember_124 : decode cX12_writeMember 124 = .ok (.aload_n 2, 1) := by decide +kernel
theorem dX12_writeMember_125 : decode cX12_writeMember 125 = .ok (.getfield 115, 3) := by decide +kernel
theorem dX12_writeMember_128 : decode cX12_writeMember 128 = .ok (.if_icmp .ge 19, 3) := by decide +kernel
theorem dX12_writeMember_131 : decode cX12_writeMember 131 = .ok (.aload_n 0, 1) := by decide +kernel
theorem dX12_writeMember_132 : decode cX12_writeMember 132 = .ok (.getfield 61, 3) := by decide +kernel
theorem dX12_writeMember_135 : decode cX12_writeMember 135 = .ok (.bipush 120, 2) := by decide +kernel
theorem dX12_writeMember_137 : decode cX12_writeMember 137 = .ok (.invokevirtual 320, 3) := by decide +kernel
theorem dX12_writeMember_140 : decode cX12_writeMember 140 = .ok (.pop, 1) := by decide +kernel
theorem dX12_writeMember_141 : decode cX12_writeMember 141 = .ok (.iinc 3 1, 3) := by decide +kernel
theorem dX12_writeMember_144 : decode cX12_writeMember 144 = .ok (.goto (-21), 3) := by decide +kernel
theorem dX12_writeMember_147 : decode cX12_writeMember 147 = .ok (.aload_n 0, 1) := by decide +kernel
theorem dX12_writeMember_148 : decode cX12_writeMember 148 = .ok (.getfield 61, 3) := by decide +kernel
theorem dX12_writeMember_151 : decode cX12_writeMember 151 = .ok (.invokevirtual 323, 3) := by decide +kernel
theorem dX12_writeMember_154 : decode cX12_writeMember 154 = .ok (.ireturn, 1) := by decide +kernel
theorem dX12_lineCharacter_0 : decode cX12_lineCharacter 0 = .ok (.iload_n 1, 1) := by decide +kernel
theorem dX12_lineCharacter_1 : decode cX12_lineCharacter 1 = .ok (.ifCond .lt 14, 3) := by decide +kernel
theorem dX12_lineCharacter_4 : decode cX12_lineCharacter 4 = .ok (.iload_n 1, 1) := by decide +kernel
theorem dX12_lineCharacter_5 : decode cX12_lineCharacter 5 = .ok (.aload_n 0, 1) := by decide +kernel
theorem dX12_lineCharacter_6 : decode cX12_lineCharacter 6 = .ok (.getfield 61, 3) := by decide +kernel
theorem dX12_lineCharacter_9 : decode cX12_lineCharacter 9 = .ok (.invokevirtual 323, 3) := by decide +kernel
theorem dX12_lineCharacter_12 : decode cX12_lineCharacter 12 = .ok (.if_icmp .lt 14, 3) := by decide +kernel
theorem dX12_lineCharacter_15 : decode cX12_lineCharacter 15 = .ok (.new 326, 3) := by decide +kernel
theorem dX12_lineCharacter_18 : decode cX12_lineCharacter 18 = .ok (.dup, 1) := by decide +kernel
theorem dX12_lineCharacter_19 : decode cX12_lineCharacter 19 = .ok (.ldc_w 328, 3) := by decide +kernel
theorem dX12_lineCharacter_22 : decode cX12_lineCharacter 22 = .ok (.invokespecial 330, 3) := by decide +kernel
theorem dX12_lineCharacter_25 : decode cX12_lineCharacter 25 = .ok (.athrow, 1) := by decide +kernel
theorem dX12_lineCharacter_26 : decode cX12_lineCharacter 26 = .ok (.aload_n 0, 1) := by decide +kernel
theorem dX12_lineCharacter_27 : decode cX12_lineCharacter 27 = .ok (.getfield 61, 3) := by decide +kernel
theorem dX12_lineCharacter_30 : decode cX12_lineCharacter 30 = .ok (.iload_n 1, 1) := by decide +kernel
theorem dX12_lineCharacter_31 : decode cX12_lineCharacter 31 = .ok (.invokevirtual 331, 3) := by decide +kernel
theorem dX12_lineCharacter_34 : decode cX12_lineCharacter 34 = .ok (.ireturn, 1) := by decide +kernel
theorem dX12_undo_0 : decode cX12_undo 0 = .ok (.aload_n 0, 1) := by decide +kernel
theorem dX12_undo_1 : decode cX12_undo 1 = .ok (.getfield 33, 3) := by decide +kernel
theorem dX12_undo_4 : decode cX12_undo 4 = .ok (.getfield 350, 3) := by decide +kernel
theorem dX12_undo_7 : decode cX12_undo 7 = .ok (.ifCond .ne 14, 3) := by decide +kernel
theorem dX12_undo_10 : decode cX12_undo 10 = .ok (.new 262, 3) := by decide +kernel
theorem dX12_undo_13 : decode cX12_undo 13 = .ok (.dup, 1) := by decide +kernel
theorem dX12_undo_14 : decode cX12_undo 14 = .ok (.ldc_w 351, 3) := by decide +kernel
theorem dX12_undo_17 : decode cX12_undo 17 = .ok (.invokespecial 266, 3) := by decide +kernel
theorem dX12_undo_20 : decode cX12_undo 20 = .ok (.athrow, 1) := by decide +kernel
theorem dX12_undo_21 : decode cX12_undo 21 = .ok (.aload_n 0, 1) := by decide +kernel
theorem dX12_undo_22 : decode cX12_undo 22 = .ok (.getfield 33, 3) := by decide +kernel
theorem dX12_undo_25 : decode cX12_undo 25 = .ok (.aload_n 0, 1) := by decide +kernel
theorem dX12_undo_26 : decode cX12_undo 26 = .ok (.getfield 20, 3) := by decide +kernel
theorem dX12_undo_29 : decode cX12_undo 29 = .ok (.invokevirtual 353, 3) := by decide +kernel
theorem dX12_undo_32 : decode cX12_undo 32 = .ok (.aload_n 0, 1) := by decide +kernel
theorem dX12_undo_33 : decode cX12_undo 33 = .ok (.getfield 33, 3) := by decide +kernel
theorem dX12_undo_36 : decode cX12_undo 36 = .ok (.getfield 350, 3) := by decide +kernel
theorem dX12_undo_39 : decode cX12_undo 39 = .ok (.ireturn, 1) := by decide +kernel
theorem dX12_change_0 : decode cX12_change 0 = .ok (.aload_n 0, 1) := by decide +kernel
theorem dX12_change_1 : decode cX12_change 1 = .ok (.getfield 10, 3) := by decide +kernel
theorem dX12_change_4 : decode cX12_change 4 = .ok (.aload_n 1, 1) := by decide +kernel
theorem dX12_change_5 : decode cX12_change 5 = .ok (.iload_n 2, 1) := by decide +kernel
theorem dX12_change_6 : decode cX12_change 6 = .ok (.iload_n 3, 1) := by decide +kernel
theorem dX12_change_7 : decode cX12_change 7 = .ok (.invokevirtual 364, 3) := by decide +kernel
theorem dX12_change_10 : decode cX12_change 10 = .ok (.astore 4, 2) := by decide +kernel
theorem dX12_change_12 : decode cX12_change 12 = .ok (.aload 4, 2) := by decide +kernel
theorem dX12_change_14 : decode cX12_change 14 = .ok (.ifnull 61, 3) := by decide +kernel
theorem dX12_change_17 : decode cX12_change 17 = .ok (.aload 4, 2) := by decide +kernel
theorem dX12_change_19 : decode cX12_change 19 = .ok (.getfield 337, 3) := by decide +kernel
theorem dX12_change_22 : decode cX12_change 22 = .ok (.iconst (-1), 1) := by decide +kernel
theorem dX12_change_23 : decode cX12_change 23 = .ok (.if_icmp .ne 14, 3) := by decide +kernel
theorem dX12_change_26 : decode cX12_change 26 = .ok (.new 326, 3) := by decide +kernel
theorem dX12_change_29 : decode cX12_change 29 = .ok (.dup, 1) := by decide +kernel
theorem dX12_change_30 : decode cX12_change 30 = .ok (.ldc_w 368, 3) := by decide +kernel
theorem dX12_change_33 : decode cX12_change 33 = .ok (.invokespecial 330, 3) := by decide +kernel
theorem dX12_change_36 : decode cX12_change 36 = .ok (.athrow, 1) := by decide +kernel
theorem dX12_change_37 : decode cX12_change 37 = .ok (.aload 4, 2) := by decide +kernel
theorem dX12_change_39 : decode cX12_change 39 = .ok (.getfield 337, 3) := by decide +kernel
theorem dX12_change_42 : decode cX12_change 42 = .ok (.bipush (-2), 2) := by decide +kernel
theorem dX12_change_44 : decode cX12_change 44 = .ok (.if_icmp .ne 14, 3) := by decide +kernel
theorem dX12_change_47 : decode cX12_change 47 = .ok (.new 142, 3) := by decide +kernel
theorem dX12_change_50 : decode cX12_change 50 = .ok (.dup, 1) := by decide +kernel
theorem dX12_change_51 : decode cX12_change 51 = .ok (.ldc_w 370, 3) := by decide +kernel
theorem dX12_change_54 : decode cX12_change 54 = .ok (.invokespecial 146, 3) := by decide +kernel
theorem dX12_change_57 : decode cX12_change 57 = .ok (.athrow, 1) := by decide +kernel
theorem dX12_change_58 : decode cX12_change 58 = .ok (.aload_n 0, 1) := by decide +kernel
theorem dX12_change_59 : decode cX12_change 59 = .ok (.aload 4, 2) := by decide +kernel
theorem dX12_change_61 : decode cX12_change 61 = .ok (.putfield 297, 3) := by decide +kernel
theorem dX12_change_64 : decode cX12_change 64 = .ok (.new 301, 3) := by decide +kernel
theorem dX12_change_67 : decode cX12_change 67 = .ok (.dup, 1) := by decide +kernel
theorem dX12_change_68 : decode cX12_change 68 = .ok (.ldc_w 372, 3) := by decide +kernel
theorem dX12_change_71 : decode cX12_change 71 = .ok (.invokespecial 305, 3) := by decide +kernel
theorem dX12_change_74 : decode cX12_change 74 = .ok (.athrow, 1) := by decide +kernel
theorem dX12_change_75 : decode cX12_change 75 = .ok (.aload_n 0, 1) := by decide +kernel
theorem dX12_change_76 : decode cX12_change 76 = .ok (.getfield 33, 3) := by decide +kernel
theorem dX12_change_79 : decode cX12_change 79 = .ok (.aload_n 0, 1) := by decide +kernel
theorem dX12_change_80 : decode cX12_change 80 = .ok (.getfield 20, 3) := by decide +kernel
theorem dX12_change_83 : decode cX12_change 83 = .ok (.invokevirtual 306, 3) := by decide +kernel
theorem dX12_change_86 : decode cX12_change 86 = .ok (.aload_n 0, 1) := by decide +kernel
theorem dX12_change_87 : decode cX12_change 87 = .ok (.getfield 10, 3) := by decide +kernel
theorem dX12_change_90 : decode cX12_change 90 = .ok (.aload_n 1, 1) := by decide +kernel
theorem dX12_change_91 : decode cX12_change 91 = .ok (.iload_n 2, 1) := by decide +kernel
theorem dX12_change_92 : decode cX12_change 92 = .ok (.iload_n 3, 1) := by decide +kernel
theorem dX12_change_93 : decode cX12_change 93 = .ok (.invokevirtual 374, 3) := by decide +kernel
theorem dX12_change_96 : decode cX12_change 96 = .ok (.ireturn, 1) := by decide +kernel
theorem dX12_demandMember_0 : decode cX12_demandMember 0 = .ok (.aload_n 0, 1) := by decide +kernel
theorem dX12_demandMember_1 : decode cX12_demandMember 1 = .ok (.getfield 20, 3) := by decide +kernel
theorem dX12_demandMember_4 : decode cX12_demandMember 4 = .ok (.iload_n 1, 1) := by decide +kernel
theorem dX12_demandMember_5 : decode cX12_demandMember 5 = .ok (.invokevirtual 177, 3) := by decide +kernel
theorem dX12_demandMember_8 : decode cX12_demandMember 8 = .ok (.ifCond .ne 14, 3) := by decide +kernel
theorem dX12_demandMember_11 : decode cX12_demandMember 11 = .ok (.new 326, 3) := by decide +kernel
theorem dX12_demandMember_14 : decode cX12_demandMember 14 = .ok (.dup, 1) := by decide +kernel
theorem dX12_demandMember_15 : decode cX12_demandMember 15 = .ok (.ldc_w 368, 3) := by decide +kernel
theorem dX12_demandMember_18 : decode cX12_demandMember 18 = .ok (.invokespecial 330, 3) := by decide +kernel
theorem dX12_demandMember_21 : decode cX12_demandMember 21 = .ok (.athrow, 1) := by decide +kernel
theorem dX12_demandMember_22 : decode cX12_demandMember 22 = .ok (.return_, 1) := by decide +kernel
theorem dX12_isWithin_0 : decode cX12_isWithin 0 = .ok (.iload_n 0, 1) := by decide +kernel
theorem dX12_isWithin_1 : decode cX12_isWithin 1 = .ok (.iload_n 1, 1) := by decide +kernel
theorem dX12_isWithin_2 : decode cX12_isWithin 2 = .ok (.if_icmp .lt 12, 3) := by decide +kernel
theorem dX12_isWithin_5 : decode cX12_isWithin 5 = .ok (.iload_n 0, 1) := by decide +kernel
theorem dX12_isWithin_6 : decode cX12_isWithin 6 = .ok (.iload_n 2, 1) := by decide +kernel
theorem dX12_isWithin_7 : decode cX12_isWithin 7 = .ok (.if_icmp .gt 7, 3) := by decide +kernel
theorem dX12_isWithin_10 : decode cX12_isWithin 10 = .ok (.iconst 1, 1) := by decide +kernel
theorem dX12_isWithin_11 : decode cX12_isWithin 11 = .ok (.goto 4, 3) := by decide +kernel
theorem dX12_isWithin_14 : decode cX12_isWithin 14 = .ok (.iconst 0, 1) := by decide +kernel
theorem dX12_isWithin_15 : decode cX12_isWithin 15 = .ok (.ireturn, 1) := by decide +kernel
