theorem dX13_init_0 : decode cX13_init 0 = .ok (.aload_n 0, 1) := by decide +kernel
theorem dX13_init_1 : decode cX13_init 1 = .ok (.invokespecial 3, 3) := by decide +kernel
theorem dX13_init_4 : decode cX13_init 4 = .ok (.aload_n 0, 1) := by decide +kernel
theorem dX13_init_5 : decode cX13_init 5 = .ok (.bipush 91, 2) := by decide +kernel
theorem dX13_init_7 : decode cX13_init 7 = .ok (.newarray .int, 2) := by decide +kernel
theorem dX13_init_9 : decode cX13_init 9 = .ok (.putfield 9, 3) := by decide +kernel
theorem dX13_init_12 : decode cX13_init 12 = .ok (.aload_n 0, 1) := by decide +kernel
theorem dX13_init_13 : decode cX13_init 13 = .ok (.bipush 91, 2) := by decide +kernel
theorem dX13_init_15 : decode cX13_init 15 = .ok (.newarray .int, 2) := by decide +kernel
theorem dX13_init_17 : decode cX13_init 17 = .ok (.putfield 13, 3) := by decide +kernel
theorem dX13_init_20 : decode cX13_init 20 = .ok (.aload_n 0, 1) := by decide +kernel
theorem dX13_init_21 : decode cX13_init 21 = .ok (.bipush 91, 2) := by decide +kernel
theorem dX13_init_23 : decode cX13_init 23 = .ok (.newarray .int, 2) := by decide +kernel
theorem dX13_init_25 : decode cX13_init 25 = .ok (.putfield 16, 3) := by decide +kernel
theorem dX13_init_28 : decode cX13_init 28 = .ok (.aload_n 0, 1) := by decide +kernel
theorem dX13_init_29 : decode cX13_init 29 = .ok (.sipush 728, 3) := by decide +kernel
theorem dX13_init_32 : decode cX13_init 32 = .ok (.newarray .int, 2) := by decide +kernel
theorem dX13_init_34 : decode cX13_init 34 = .ok (.putfield 19, 3) := by decide +kernel
theorem dX13_init_37 : decode cX13_init 37 = .ok (.aload_n 0, 1) := by decide +kernel
theorem dX13_init_38 : decode cX13_init 38 = .ok (.bipush 7, 2) := by decide +kernel
theorem dX13_init_40 : decode cX13_init 40 = .ok (.newarray .int, 2) := by decide +kernel
theorem dX13_init_42 : decode cX13_init 42 = .ok (.putfield 22, 3) := by decide +kernel
theorem dX13_init_45 : decode cX13_init 45 = .ok (.aload_n 0, 1) := by decide +kernel
theorem dX13_init_46 : decode cX13_init 46 = .ok (.bipush 60, 2) := by decide +kernel
theorem dX13_init_48 : decode cX13_init 48 = .ok (.newarray .char, 2) := by decide +kernel
theorem dX13_init_50 : decode cX13_init 50 = .ok (.putfield 25, 3) := by decide +kernel
theorem dX13_init_53 : decode cX13_init 53 = .ok (.aload_n 0, 1) := by decide +kernel
theorem dX13_init_54 : decode cX13_init 54 = .ok (.iconst (-1), 1) := by decide +kernel
theorem dX13_init_55 : decode cX13_init 55 = .ok (.putfield 29, 3) := by decide +kernel
theorem dX13_init_58 : decode cX13_init 58 = .ok (.aload_n 0, 1) := by decide +kernel
theorem dX13_init_59 : decode cX13_init 59 = .ok (.sipush 180, 3) := by decide +kernel
theorem dX13_init_62 : decode cX13_init 62 = .ok (.newarray .int, 2) := by decide +kernel
theorem dX13_init_64 : decode cX13_init 64 = .ok (.putfield 33, 3) := by decide +kernel
theorem dX13_init_67 : decode cX13_init 67 = .ok (.aload_n 0, 1) := by decide +kernel
theorem dX13_init_68 : decode cX13_init 68 = .ok (.bipush 30, 2) := by decide +kernel
theorem dX13_init_70 : decode cX13_init 70 = .ok (.newarray .char, 2) := by decide +kernel
theorem dX13_init_72 : decode cX13_init 72 = .ok (.putfield 36, 3) := by decide +kernel
theorem dX13_init_75 : decode cX13_init 75 = .ok (.aload_n 0, 1) := by decide +kernel
theorem dX13_init_76 : decode cX13_init 76 = .ok (.getfield 9, 3) := by decide +kernel
theorem dX13_init_79 : decode cX13_init 79 = .ok (.iconst 3, 1) := by decide +kernel
theorem dX13_init_80 : decode cX13_init 80 = .ok (.bipush 10, 2) := by decide +kernel
theorem dX13_init_82 : decode cX13_init 82 = .ok (.iastore, 1) := by decide +kernel
theorem dX13_init_83 : decode cX13_init 83 = .ok (.return_, 1) := by decide +kernel
theorem dX13_thrown_0 : decode cX13_thrown 0 = .ok (.aload_n 0, 1) := by decide +kernel
theorem dX13_thrown_1 : decode cX13_thrown 1 = .ok (.getfield 39, 3) := by decide +kernel
theorem dX13_thrown_4 : decode cX13_thrown 4 = .ok (.ireturn, 1) := by decide +kernel
theorem dX13_in_0 : decode cX13_in 0 = .ok (.iload_n 0, 1) := by decide +kernel
theorem dX13_in_1 : decode cX13_in 1 = .ok (.iload_n 1, 1) := by decide +kernel
theorem dX13_in_2 : decode cX13_in 2 = .ok (.if_icmp .lt 12, 3) := by decide +kernel
theorem dX13_in_5 : decode cX13_in 5 = .ok (.iload_n 0, 1) := by decide +kernel
theorem dX13_in_6 : decode cX13_in 6 = .ok (.iload_n 2, 1) := by decide +kernel
theorem dX13_in_7 : decode cX13_in 7 = .ok (.if_icmp .gt 7, 3) := by decide +kernel
theorem dX13_in_10 : decode cX13_in 10 = .ok (.iconst 1, 1) := by decide +kernel
theorem dX13_in_11 : decode cX13_in 11 = .ok (.goto 4, 3) := by decide +kernel
theorem dX13_in_14 : decode cX13_in 14 = .ok (.iconst 0, 1) := by decide +kernel
theorem dX13_in_15 : decode cX13_in 15 = .ok (.ireturn, 1) := by decide +kernel
theorem dX13_keep_0 : decode cX13_keep 0 = .ok (.aload_n 0, 1) := by decide +kernel
theorem dX13_keep_1 : decode cX13_keep 1 = .ok (.iconst 0, 1) := by decide +kernel
theorem dX13_keep_2 : decode cX13_keep 2 = .ok (.putfield 39, 3) := by decide +kernel
theorem dX13_keep_5 : decode cX13_keep 5 = .ok (.aload_n 0, 1) := by decide +kernel
theorem dX13_keep_6 : decode cX13_keep 6 = .ok (.iconst 0, 1) := by decide +kernel
theorem dX13_keep_7 : decode cX13_keep 7 = .ok (.putfield 42, 3) := by decide +kernel
theorem dX13_keep_10 : decode cX13_keep 10 = .ok (.aload_n 0, 1) := by decide +kernel
theorem dX13_keep_11 : decode cX13_keep 11 = .ok (.getfield 9, 3) := by decide +kernel
theorem dX13_keep_14 : decode cX13_keep 14 = .ok (.iconst 0, 1) := by decide +kernel
theorem dX13_keep_15 : decode cX13_keep 15 = .ok (.aload_n 0, 1) := by decide +kernel
theorem dX13_keep_16 : decode cX13_keep 16 = .ok (.getfield 13, 3) := by decide +kernel
theorem dX13_keep_19 : decode cX13_keep 19 = .ok (.iconst 0, 1) := by decide +kernel
theorem dX13_keep_20 : decode cX13_keep 20 = .ok (.bipush 91, 2) := by decide +kernel
theorem dX13_keep_22 : decode cX13_keep 22 = .ok (.invokestatic 45, 3) := by decide +kernel
theorem dX13_keep_25 : decode cX13_keep 25 = .ok (.return_, 1) := by decide +kernel
theorem dX13_ends_0 : decode cX13_ends 0 = .ok (.aload_n 0, 1) := by decide +kernel
theorem dX13_ends_1 : decode cX13_ends 1 = .ok (.getfield 42, 3) := by decide +kernel
theorem dX13_ends_4 : decode cX13_ends 4 = .ok (.ifCond .le 24, 3) := by decide +kernel
theorem dX13_ends_7 : decode cX13_ends 7 = .ok (.aload_n 0, 1) := by decide +kernel
theorem dX13_ends_8 : decode cX13_ends 8 = .ok (.aload_n 0, 1) := by decide +kernel
theorem dX13_ends_9 : decode cX13_ends 9 = .ok (.getfield 42, 3) := by decide +kernel
theorem dX13_ends_12 : decode cX13_ends 12 = .ok (.putfield 51, 3) := by decide +kernel
theorem dX13_ends_15 : decode cX13_ends 15 = .ok (.aload_n 0, 1) := by decide +kernel
theorem dX13_ends_16 : decode cX13_ends 16 = .ok (.aload_n 0, 1) := by decide +kernel
theorem dX13_ends_17 : decode cX13_ends 17 = .ok (.getfield 54, 3) := by decide +kernel
theorem dX13_ends_20 : decode cX13_ends 20 = .ok (.putfield 57, 3) := by decide +kernel
theorem dX13_ends_23 : decode cX13_ends 23 = .ok (.aload_n 0, 1) := by decide +kernel
theorem dX13_ends_24 : decode cX13_ends 24 = .ok (.iload_n 2, 1) := by decide +kernel
theorem dX13_ends_25 : decode cX13_ends 25 = .ok (.putfield 60, 3) := by decide +kernel
theorem dX13_ends_28 : decode cX13_ends 28 = .ok (.aload_n 0, 1) := by decide +kernel
theorem dX13_ends_29 : decode cX13_ends 29 = .ok (.getfield 39, 3) := by decide +kernel
theorem dX13_ends_32 : decode cX13_ends 32 = .ok (.ifCond .le 20, 3) := by decide +kernel
theorem dX13_ends_35 : decode cX13_ends 35 = .ok (.aload_n 0, 1) := by decide +kernel
theorem dX13_ends_36 : decode cX13_ends 36 = .ok (.getfield 13, 3) := by decide +kernel
theorem dX13_ends_39 : decode cX13_ends 39 = .ok (.iconst 0, 1) := by decide +kernel
theorem dX13_ends_40 : decode cX13_ends 40 = .ok (.aload_n 0, 1) := by decide +kernel
theorem dX13_ends_41 : decode cX13_ends 41 = .ok (.getfield 9, 3) := by decide +kernel
theorem dX13_ends_44 : decode cX13_ends 44 = .ok (.iconst 0, 1) := by decide +kernel
theorem dX13_ends_45 : decode cX13_ends 45 = .ok (.bipush 91, 2) := by decide +kernel
theorem dX13_ends_47 : decode cX13_ends 47 = .ok (.invokestatic 45, 3) := by decide +kernel
theorem dX13_ends_50 : decode cX13_ends 50 = .ok (.iconst 0, 1) := by decide +kernel
theorem dX13_ends_51 : decode cX13_ends 51 = .ok (.ireturn, 1) := by decide +kernel
theorem dX13_ends_52 : decode cX13_ends 52 = .ok (.aload_n 0, 1) := by decide +kernel
theorem dX13_ends_53 : decode cX13_ends 53 = .ok (.getfield 63, 3) := by decide +kernel
theorem dX13_ends_56 : decode cX13_ends 56 = .ok (.bipush 8, 2) := by decide +kernel
theorem dX13_ends_58 : decode cX13_ends 58 = .ok (.if_icmp .ne 30, 3) := by decide +kernel
theorem dX13_ends_61 : decode cX13_ends 61 = .ok (.aload_n 0, 1) := by decide +kernel
theorem dX13_ends_62 : decode cX13_ends 62 = .ok (.getfield 19, 3) := by decide +kernel
theorem dX13_ends_65 : decode cX13_ends 65 = .ok (.bipush 91, 2) := by decide +kernel
theorem dX13_ends_67 : decode cX13_ends 67 = .ok (.aload_n 0, 1) := by decide +kernel
theorem dX13_ends_68 : decode cX13_ends 68 = .ok (.getfield 19, 3) := by decide +kernel
theorem dX13_ends_71 : decode cX13_ends 71 = .ok (.iconst 0, 1) := by decide +kernel
theorem dX13_ends_72 : decode cX13_ends 72 = .ok (.sipush 637, 3) := by decide +kernel
theorem dX13_ends_75 : decode cX13_ends 75 = .ok (.invokestatic 45, 3) := by decide +kernel
theorem dX13_ends_78 : decode cX13_ends 78 = .ok (.aload_n 0, 1) := by decide +kernel
theorem dX13_ends_79 : decode cX13_ends 79 = .ok (.dup, 1) := by decide +kernel
theorem dX13_ends_80 : decode cX13_ends 80 = .ok (.getfield 63, 3) := by decide +kernel
theorem dX13_ends_83 : decode cX13_ends 83 = .ok (.iconst 1, 1) := by decide +kernel
theorem dX13_ends_84 : decode cX13_ends 84 = .ok (.isub, 1) := by decide +kernel
theorem dX13_ends_85 : decode cX13_ends 85 = .ok (.putfield 63, 3) := by decide +kernel
theorem dX13_ends_88 : decode cX13_ends 88 = .ok (.aload_n 0, 1) := by decide +kernel
theorem dX13_ends_89 : decode cX13_ends 89 = .ok (.getfield 13, 3) := by decide +kernel
theorem dX13_ends_92 : decode cX13_ends 92 = .ok (.iconst 0, 1) := by decide +kernel
theorem dX13_ends_93 : decode cX13_ends 93 = .ok (.aload_n 0, 1) := by decide +kernel
theorem dX13_ends_94 : decode cX13_ends 94 = .ok (.getfield 19, 3) := by decide +kernel
theorem dX13_ends_97 : decode cX13_ends 97 = .ok (.bipush 91, 2) := by decide +kernel
theorem dX13_ends_99 : decode cX13_ends 99 = .ok (.aload_n 0, 1) := by decide +kernel
theorem dX13_ends_100 : decode cX13_ends 100 = .ok (.getfield 63, 3) := by decide +kernel
theorem dX13_ends_103 : decode cX13_ends 103 = .ok (.imul, 1) := by decide +kernel
theorem dX13_ends_104 : decode cX13_ends 104 = .ok (.bipush 91, 2) := by decide +kernel
theorem dX13_ends_106 : decode cX13_ends 106 = .ok (.invokestatic 45, 3) := by decide +kernel
theorem dX13_ends_109 : decode cX13_ends 109 = .ok (.aload_n 0, 1) := by decide +kernel
theorem dX13_ends_110 : decode cX13_ends 110 = .ok (.dup, 1) := by decide +kernel
theorem dX13_ends_111 : decode cX13_ends 111 = .ok (.getfield 63, 3) := by decide +kernel
theorem dX13_ends_114 : decode cX13_ends 114 = .ok (.iconst 1, 1) := by decide +kernel
theorem dX13_ends_115 : decode cX13_ends 115 = .ok (.iadd, 1) := by decide +kernel
theorem dX13_ends_116 : decode cX13_ends 116 = .ok (.putfield 63, 3) := by decide +kernel
theorem dX13_ends_119 : decode cX13_ends 119 = .ok (.iload_n 1, 1) := by decide +kernel
theorem dX13_ends_120 : decode cX13_ends 120 = .ok (.ireturn, 1) := by decide +kernel
theorem dX13_fails_0 : decode cX13_fails 0 = .ok (.aload_n 0, 1) := by decide +kernel
theorem dX13_fails_1 : decode cX13_fails 1 = .ok (.iload_n 1, 1) := by decide +kernel
theorem dX13_fails_2 : decode cX13_fails 2 = .ok (.putfield 39, 3) := by decide +kernel
theorem dX13_fails_5 : decode cX13_fails 5 = .ok (.iconst 0, 1) := by decide +kernel
theorem dX13_fails_6 : decode cX13_fails 6 = .ok (.ireturn, 1) := by decide +kernel
theorem dX13_denies_0 : decode cX13_denies 0 = .ok (.aload_n 0, 1) := by decide +kernel
theorem dX13_denies_1 : decode cX13_denies 1 = .ok (.iload_n 2, 1) := by decide +kernel
theorem dX13_denies_2 : decode cX13_denies 2 = .ok (.putfield 42, 3) := by decide +kernel
theorem dX13_denies_5 : decode cX13_denies 5 = .ok (.aload_n 0, 1) := by decide +kernel
theorem dX13_denies_6 : decode cX13_denies 6 = .ok (.iload_n 3, 1) := by decide +kernel
theorem dX13_denies_7 : decode cX13_denies 7 = .ok (.putfield 54, 3) := by decide +kernel
theorem dX13_denies_10 : decode cX13_denies 10 = .ok (.aload_n 0, 1) := by decide +kernel
theorem dX13_denies_11 : decode cX13_denies 11 = .ok (.iload_n 1, 1) := by decide +kernel
theorem dX13_denies_12 : decode cX13_denies 12 = .ok (.invokevirtual 66, 3) := by decide +kernel
theorem dX13_denies_15 : decode cX13_denies 15 = .ok (.ireturn, 1) := by decide +kernel
theorem dX13_isThere_0 : decode cX13_isThere 0 = .ok (.aload_n 0, 1) := by decide +kernel
theorem dX13_isThere_1 : decode cX13_isThere 1 = .ok (.iload_n 1, 1) := by decide +kernel
theorem dX13_isThere_2 : decode cX13_isThere 2 = .ok (.ifCond .eq 7, 3) := by decide +kernel
theorem dX13_isThere_5 : decode cX13_isThere 5 = .ok (.iconst 0, 1) := by decide +kernel
theorem dX13_isThere_6 : decode cX13_isThere 6 = .ok (.goto 4, 3) := by decide +kernel
theorem dX13_isThere_9 : decode cX13_isThere 9 = .ok (.iconst 1, 1) := by decide +kernel
theorem dX13_isThere_10 : decode cX13_isThere 10 = .ok (.putfield 39, 3) := by decide +kernel
theorem dX13_isThere_13 : decode cX13_isThere 13 = .ok (.iload_n 1, 1) := by decide +kernel
theorem dX13_isThere_14 : decode cX13_isThere 14 = .ok (.ireturn, 1) := by decide +kernel
theorem dX13_isMember_0 : decode cX13_isMember 0 = .ok (.iload_n 1, 1) := by decide +kernel
theorem dX13_isMember_1 : decode cX13_isMember 1 = .ok (.iconst 0, 1) := by decide +kernel
theorem dX13_isMember_2 : decode cX13_isMember 2 = .ok (.aload_n 0, 1) := by decide +kernel
theorem dX13_isMember_3 : decode cX13_isMember 3 = .ok (.getfield 9, 3) := by decide +kernel
theorem dX13_isMember_6 : decode cX13_isMember 6 = .ok (.iconst 0, 1) := by decide +kernel
theorem dX13_isMember_7 : decode cX13_isMember 7 = .ok (.iaload, 1) := by decide +kernel
theorem dX13_isMember_8 : decode cX13_isMember 8 = .ok (.iconst 1, 1) := by decide +kernel
theorem dX13_isMember_9 : decode cX13_isMember 9 = .ok (.isub, 1) := by decide +kernel
theorem dX13_isMember_10 : decode cX13_isMember 10 = .ok (.invokestatic 70, 3) := by decide +kernel
theorem dX13_isMember_13 : decode cX13_isMember 13 = .ok (.ireturn, 1) := by decide +kernel
theorem dX13_of_0 : decode cX13_of 0 = .ok (.aload_n 0, 1) := by decide +kernel
theorem dX13_of_1 : decode cX13_of 1 = .ok (.getfield 9, 3) := by decide +kernel
theorem dX13_of_4 : decode cX13_of 4 = .ok (.bipush 7, 2) := by decide +kernel
theorem dX13_of_6 : decode cX13_of 6 = .ok (.iconst 5, 1) := by decide +kernel
theorem dX13_of_7 : decode cX13_of 7 = .ok (.iload_n 1, 1) := by decide +kernel
theorem dX13_of_8 : decode cX13_of 8 = .ok (.imul, 1) := by decide +kernel
theorem dX13_of_9 : decode cX13_of 9 = .ok (.iadd, 1) := by decide +kernel
theorem dX13_of_10 : decode cX13_of 10 = .ok (.iload_n 2, 1) := by decide +kernel
theorem dX13_of_11 : decode cX13_of 11 = .ok (.iadd, 1) := by decide +kernel
theorem dX13_of_12 : decode cX13_of 12 = .ok (.iaload, 1) := by decide +kernel
theorem dX13_of_13 : decode cX13_of 13 = .ok (.ireturn, 1) := by decide +kernel
theorem dX13_sets_0 : decode cX13_sets 0 = .ok (.aload_n 0, 1) := by decide +kernel
theorem dX13_sets_1 : decode cX13_sets 1 = .ok (.getfield 9, 3) := by decide +kernel
theorem dX13_sets_4 : decode cX13_sets 4 = .ok (.bipush 7, 2) := by decide +kernel
theorem dX13_sets_6 : decode cX13_sets 6 = .ok (.iconst 5, 1) := by decide +kernel
theorem dX13_sets_7 : decode cX13_sets 7 = .ok (.iload_n 1, 1) := by decide +kernel
theorem dX13_sets_8 : decode cX13_sets 8 = .ok (.imul, 1) := by decide +kernel
theorem dX13_sets_9 : decode cX13_sets 9 = .ok (.iadd, 1) := by decide +kernel
theorem dX13_sets_10 : decode cX13_sets 10 = .ok (.iload_n 2, 1) := by decide +kernel
theorem dX13_sets_11 : decode cX13_sets 11 = .ok (.iadd, 1) := by decide +kernel
theorem dX13_sets_12 : decode cX13_sets 12 = .ok (.iload_n 3, 1) := by decide +kernel
theorem dX13_sets_13 : decode cX13_sets 13 = .ok (.iastore, 1) := by decide +kernel
theorem dX13_sets_14 : decode cX13_sets 14 = .ok (.return_, 1) := by decide +kernel
theorem dX13_isBarred_0 : decode cX13_isBarred 0 = .ok (.aload_n 0, 1) := by decide +kernel
theorem dX13_isBarred_1 : decode cX13_isBarred 1 = .ok (.iload_n 1, 1) := by decide +kernel
theorem dX13_isBarred_2 : decode cX13_isBarred 2 = .ok (.iconst 4, 1) := by decide +kernel
theorem dX13_isBarred_3 : decode cX13_isBarred 3 = .ok (.invokevirtual 74, 3) := by decide +kernel
theorem dX13_isBarred_6 : decode cX13_isBarred 6 = .ok (.ifCond .ge 7, 3) := by decide +kernel
theorem dX13_isBarred_9 : decode cX13_isBarred 9 = .ok (.iconst 1, 1) := by decide +kernel
theorem dX13_isBarred_10 : decode cX13_isBarred 10 = .ok (.goto 4, 3) := by decide +kernel
theorem dX13_isBarred_13 : decode cX13_isBarred 13 = .ok (.iconst 0, 1) := by decide +kernel
theorem dX13_isBarred_14 : decode cX13_isBarred 14 = .ok (.ireturn, 1) := by decide +kernel
theorem dX13_over_0 : decode cX13_over 0 = .ok (.iconst 0, 1) := by decide +kernel
theorem dX13_over_1 : decode cX13_over 1 = .ok (.aload_n 0, 1) := by decide +kernel
theorem dX13_over_2 : decode cX13_over 2 = .ok (.iload_n 1, 1) := by decide +kernel
theorem dX13_over_3 : decode cX13_over 3 = .ok (.iconst 3, 1) := by decide +kernel
theorem dX13_over_4 : decode cX13_over 4 = .ok (.invokevirtual 74, 3) := by decide +kernel
theorem dX13_over_7 : decode cX13_over 7 = .ok (.aload_n 0, 1) := by decide +kernel
theorem dX13_over_8 : decode cX13_over 8 = .ok (.iload_n 1, 1) := by decide +kernel
theorem dX13_over_9 : decode cX13_over 9 = .ok (.iconst 2, 1) := by decide +kernel
theorem dX13_over_10 : decode cX13_over 10 = .ok (.invokevirtual 74, 3) := by decide +kernel
theorem dX13_over_13 : decode cX13_over 13 = .ok (.isub, 1) := by decide +kernel
theorem dX13_over_14 : decode cX13_over 14 = .ok (.invokestatic 78, 3) := by decide +kernel
theorem dX13_over_17 : decode cX13_over 17 = .ok (.ireturn, 1) := by decide +kernel
theorem dX13_doAddMember_0 : decode cX13_doAddMember 0 = .ok (.aload_n 0, 1) := by decide +kernel
theorem dX13_doAddMember_1 : decode cX13_doAddMember 1 = .ok (.getfield 9, 3) := by decide +kernel
theorem dX13_doAddMember_4 : decode cX13_doAddMember 4 = .ok (.iconst 0, 1) := by decide +kernel
theorem dX13_doAddMember_5 : decode cX13_doAddMember 5 = .ok (.iaload, 1) := by decide +kernel
theorem dX13_doAddMember_6 : decode cX13_doAddMember 6 = .ok (.istore_n 3, 1) := by decide +kernel
theorem dX13_doAddMember_7 : decode cX13_doAddMember 7 = .ok (.iload_n 1, 1) := by decide +kernel
theorem dX13_doAddMember_8 : decode cX13_doAddMember 8 = .ok (.iconst 1, 1) := by decide +kernel
theorem dX13_doAddMember_9 : decode cX13_doAddMember 9 = .ok (.bipush 99, 2) := by decide +kernel
theorem dX13_doAddMember_11 : decode cX13_doAddMember 11 = .ok (.invokestatic 70, 3) := by decide +kernel
theorem dX13_doAddMember_14 : decode cX13_doAddMember 14 = .ok (.ifCond .eq 13, 3) := by decide +kernel
theorem dX13_doAddMember_17 : decode cX13_doAddMember 17 = .ok (.iload_n 2, 1) := by decide +kernel
theorem dX13_doAddMember_18 : decode cX13_doAddMember 18 = .ok (.iconst 1, 1) := by decide +kernel
theorem dX13_doAddMember_19 : decode cX13_doAddMember 19 = .ok (.bipush 20, 2) := by decide +kernel
theorem dX13_doAddMember_21 : decode cX13_doAddMember 21 = .ok (.invokestatic 70, 3) := by decide +kernel
theorem dX13_doAddMember_24 : decode cX13_doAddMember 24 = .ok (.ifCond .ne 9, 3) := by decide +kernel
theorem dX13_doAddMember_27 : decode cX13_doAddMember 27 = .ok (.aload_n 0, 1) := by decide +kernel
theorem dX13_doAddMember_28 : decode cX13_doAddMember 28 = .ok (.iconst 1, 1) := by decide +kernel
theorem dX13_doAddMember_29 : decode cX13_doAddMember 29 = .ok (.invokevirtual 66, 3) := by decide +kernel
theorem dX13_doAddMember_32 : decode cX13_doAddMember 32 = .ok (.ireturn, 1) := by decide +kernel
theorem dX13_doAddMember_33 : decode cX13_doAddMember 33 = .ok (.iload_n 3, 1) := by decide +kernel
theorem dX13_doAddMember_34 : decode cX13_doAddMember 34 = .ok (.bipush 7, 2) := by decide +kernel
theorem dX13_doAddMember_36 : decode cX13_doAddMember 36 = .ok (.if_icmp .ne 12, 3) := by decide +kernel
theorem dX13_doAddMember_39 : decode cX13_doAddMember 39 = .ok (.aload_n 0, 1) := by decide +kernel
theorem dX13_doAddMember_40 : decode cX13_doAddMember 40 = .ok (.iconst 2, 1) := by decide +kernel
theorem dX13_doAddMember_41 : decode cX13_doAddMember 41 = .ok (.iconst 1, 1) := by decide +kernel
theorem dX13_doAddMember_42 : decode cX13_doAddMember 42 = .ok (.bipush 7, 2) := by decide +kernel
theorem dX13_doAddMember_44 : decode cX13_doAddMember 44 = .ok (.invokevirtual 83, 3) := by decide +kernel
theorem dX13_doAddMember_47 : decode cX13_doAddMember 47 = .ok (.ireturn, 1) := by decide +kernel
theorem dX13_doAddMember_48 : decode cX13_doAddMember 48 = .ok (.aload_n 0, 1) := by decide +kernel
theorem dX13_doAddMember_49 : decode cX13_doAddMember 49 = .ok (.iload_n 3, 1) := by decide +kernel
theorem dX13_doAddMember_50 : decode cX13_doAddMember 50 = .ok (.iconst 0, 1) := by decide +kernel
theorem dX13_doAddMember_51 : decode cX13_doAddMember 51 = .ok (.iload_n 1, 1) := by decide +kernel
theorem dX13_doAddMember_52 : decode cX13_doAddMember 52 = .ok (.invokevirtual 87, 3) := by decide +kernel
theorem dX13_doAddMember_55 : decode cX13_doAddMember 55 = .ok (.aload_n 0, 1) := by decide +kernel
theorem dX13_doAddMember_56 : decode cX13_doAddMember 56 = .ok (.iload_n 3, 1) := by decide +kernel
theorem dX13_doAddMember_57 : decode cX13_doAddMember 57 = .ok (.iconst 1, 1) := by decide +kernel
theorem dX13_doAddMember_58 : decode cX13_doAddMember 58 = .ok (.iload_n 2, 1) := by decide +kernel
theorem dX13_doAddMember_59 : decode cX13_doAddMember 59 = .ok (.invokevirtual 87, 3) := by decide +kernel
theorem dX13_doAddMember_62 : decode cX13_doAddMember 62 = .ok (.aload_n 0, 1) := by decide +kernel
theorem dX13_doAddMember_63 : decode cX13_doAddMember 63 = .ok (.iload_n 3, 1) := by decide +kernel
theorem dX13_doAddMember_64 : decode cX13_doAddMember 64 = .ok (.iconst 2, 1) := by decide +kernel
theorem dX13_doAddMember_65 : decode cX13_doAddMember 65 = .ok (.iconst 0, 1) := by decide +kernel
theorem dX13_doAddMember_66 : decode cX13_doAddMember 66 = .ok (.invokevirtual 87, 3) := by decide +kernel
theorem dX13_doAddMember_69 : decode cX13_doAddMember 69 = .ok (.aload_n 0, 1) := by decide +kernel
theorem dX13_doAddMember_70 : decode cX13_doAddMember 70 = .ok (.iload_n 3, 1) := by decide +kernel
theorem dX13_doAddMember_71 : decode cX13_doAddMember 71 = .ok (.iconst 3, 1) := by decide +kernel
theorem dX13_doAddMember_72 : decode cX13_doAddMember 72 = .ok (.iconst 0, 1) := by decide +kernel
theorem dX13_doAddMember_73 : decode cX13_doAddMember 73 = .ok (.invokevirtual 87, 3) := by decide +kernel
theorem dX13_doAddMember_76 : decode cX13_doAddMember 76 = .ok (.aload_n 0, 1) := by decide +kernel
theorem dX13_doAddMember_77 : decode cX13_doAddMember 77 = .ok (.iload_n 3, 1) := by decide +kernel
theorem dX13_doAddMember_78 : decode cX13_doAddMember 78 = .ok (.iconst 4, 1) := by decide +kernel
theorem dX13_doAddMember_79 : decode cX13_doAddMember 79 = .ok (.iconst 0, 1) := by decide +kernel
theorem dX13_doAddMember_80 : decode cX13_doAddMember 80 = .ok (.invokevirtual 87, 3) := by decide +kernel
theorem dX13_doAddMember_83 : decode cX13_doAddMember 83 = .ok (.aload_n 0, 1) := by decide +kernel
theorem dX13_doAddMember_84 : decode cX13_doAddMember 84 = .ok (.getfield 9, 3) := by decide +kernel
theorem dX13_doAddMember_87 : decode cX13_doAddMember 87 = .ok (.iconst 0, 1) := by decide +kernel
theorem dX13_doAddMember_88 : decode cX13_doAddMember 88 = .ok (.dup2, 1) := by decide +kernel
theorem dX13_doAddMember_89 : decode cX13_doAddMember 89 = .ok (.iaload, 1) := by decide +kernel
theorem dX13_doAddMember_90 : decode cX13_doAddMember 90 = .ok (.iconst 1, 1) := by decide +kernel
theorem dX13_doAddMember_91 : decode cX13_doAddMember 91 = .ok (.iadd, 1) := by decide +kernel
theorem dX13_doAddMember_92 : decode cX13_doAddMember 92 = .ok (.iastore, 1) := by decide +kernel
theorem dX13_doAddMember_93 : decode cX13_doAddMember 93 = .ok (.iload_n 3, 1) := by decide +kernel
theorem dX13_doAddMember_94 : decode cX13_doAddMember 94 = .ok (.ireturn, 1) := by decide +kernel
theorem dX13_addMember_0 : decode cX13_addMember 0 = .ok (.aload_n 0, 1) := by decide +kernel
theorem dX13_addMember_1 : decode cX13_addMember 1 = .ok (.invokevirtual 91, 3) := by decide +kernel
theorem dX13_addMember_4 : decode cX13_addMember 4 = .ok (.aload_n 0, 1) := by decide +kernel
theorem dX13_addMember_5 : decode cX13_addMember 5 = .ok (.aload_n 0, 1) := by decide +kernel
theorem dX13_addMember_6 : decode cX13_addMember 6 = .ok (.iload_n 1, 1) := by decide +kernel
theorem dX13_addMember_7 : decode cX13_addMember 7 = .ok (.iload_n 2, 1) := by decide +kernel
theorem dX13_addMember_8 : decode cX13_addMember 8 = .ok (.invokevirtual 94, 3) := by decide +kernel
theorem dX13_addMember_11 : decode cX13_addMember 11 = .ok (.iconst 0, 1) := by decide +kernel
theorem dX13_addMember_12 : decode cX13_addMember 12 = .ok (.invokevirtual 97, 3) := by decide +kernel
theorem dX13_addMember_15 : decode cX13_addMember 15 = .ok (.ireturn, 1) := by decide +kernel
theorem dX13_doPardon_0 : decode cX13_doPardon 0 = .ok (.aload_n 0, 1) := by decide +kernel
theorem dX13_doPardon_1 : decode cX13_doPardon 1 = .ok (.iload_n 1, 1) := by decide +kernel
theorem dX13_doPardon_2 : decode cX13_doPardon 2 = .ok (.invokevirtual 100, 3) := by decide +kernel
theorem dX13_doPardon_5 : decode cX13_doPardon 5 = .ok (.ifCond .ne 9, 3) := by decide +kernel
theorem dX13_doPardon_8 : decode cX13_doPardon 8 = .ok (.aload_n 0, 1) := by decide +kernel
theorem dX13_doPardon_9 : decode cX13_doPardon 9 = .ok (.iconst 1, 1) := by decide +kernel
theorem dX13_doPardon_10 : decode cX13_doPardon 10 = .ok (.invokevirtual 66, 3) := by decide +kernel
theorem dX13_doPardon_13 : decode cX13_doPardon 13 = .ok (.ireturn, 1) := by decide +kernel
theorem dX13_doPardon_14 : decode cX13_doPardon 14 = .ok (.aload_n 0, 1) := by decide +kernel
theorem dX13_doPardon_15 : decode cX13_doPardon 15 = .ok (.iload_n 1, 1) := by decide +kernel
theorem dX13_doPardon_16 : decode cX13_doPardon 16 = .ok (.iconst 4, 1) := by decide +kernel
theorem dX13_doPardon_17 : decode cX13_doPardon 17 = .ok (.invokevirtual 74, 3) := by decide +kernel
theorem dX13_doPardon_20 : decode cX13_doPardon 20 = .ok (.ifCond .ne 11, 3) := by decide +kernel
theorem dX13_doPardon_23 : decode cX13_doPardon 23 = .ok (.aload_n 0, 1) := by decide +kernel
theorem dX13_doPardon_24 : decode cX13_doPardon 24 = .ok (.iconst 2, 1) := by decide +kernel
theorem dX13_doPardon_25 : decode cX13_doPardon 25 = .ok (.iconst 5, 1) := by decide +kernel
theorem dX13_doPardon_26 : decode cX13_doPardon 26 = .ok (.iload_n 1, 1) := by decide +kernel
theorem dX13_doPardon_27 : decode cX13_doPardon 27 = .ok (.invokevirtual 83, 3) := by decide +kernel
theorem dX13_doPardon_30 : decode cX13_doPardon 30 = .ok (.ireturn, 1) := by decide +kernel
theorem dX13_doPardon_31 : decode cX13_doPardon 31 = .ok (.aload_n 0, 1) := by decide +kernel
theorem dX13_doPardon_32 : decode cX13_doPardon 32 = .ok (.iload_n 1, 1) := by decide +kernel
theorem dX13_doPardon_33 : decode cX13_doPardon 33 = .ok (.iconst 4, 1) := by decide +kernel
theorem dX13_doPardon_34 : decode cX13_doPardon 34 = .ok (.iconst 0, 1) := by decide +kernel
theorem dX13_doPardon_35 : decode cX13_doPardon 35 = .ok (.invokevirtual 87, 3) := by decide +kernel
theorem dX13_doPardon_38 : decode cX13_doPardon 38 = .ok (.iconst 0, 1) := by decide +kernel
theorem dX13_doPardon_39 : decode cX13_doPardon 39 = .ok (.istore_n 2, 1) := by decide +kernel
theorem dX13_doPardon_40 : decode cX13_doPardon 40 = .ok (.iconst 0, 1) := by decide +kernel
theorem dX13_doPardon_41 : decode cX13_doPardon 41 = .ok (.istore_n 3, 1) := by decide +kernel
theorem dX13_doPardon_42 : decode cX13_doPardon 42 = .ok (.iload_n 3, 1) := by decide +kernel
theorem dX13_doPardon_43 : decode cX13_doPardon 43 = .ok (.aload_n 0, 1) := by decide +kernel
theorem dX13_doPardon_44 : decode cX13_doPardon 44 = .ok (.getfield 9, 3) := by decide +kernel
theorem dX13_doPardon_47 : decode cX13_doPardon 47 = .ok (.iconst 0, 1) := by decide +kernel
theorem dX13_doPardon_48 : decode cX13_doPardon 48 = .ok (.iaload, 1) := by decide +kernel
theorem dX13_doPardon_49 : decode cX13_doPardon 49 = .ok (.if_icmp .ge 26, 3) := by decide +kernel
theorem dX13_doPardon_52 : decode cX13_doPardon 52 = .ok (.iload_n 2, 1) := by decide +kernel
theorem dX13_doPardon_53 : decode cX13_doPardon 53 = .ok (.aload_n 0, 1) := by decide +kernel
theorem dX13_doPardon_54 : decode cX13_doPardon 54 = .ok (.iload_n 3, 1) := by decide +kernel
theorem dX13_doPardon_55 : decode cX13_doPardon 55 = .ok (.iconst 4, 1) := by decide +kernel
theorem dX13_doPardon_56 : decode cX13_doPardon 56 = .ok (.invokevirtual 74, 3) := by decide +kernel
theorem dX13_doPardon_59 : decode cX13_doPardon 59 = .ok (.ifCond .ne 7, 3) := by decide +kernel
theorem dX13_doPardon_62 : decode cX13_doPardon 62 = .ok (.iconst 1, 1) := by decide +kernel
theorem dX13_doPardon_63 : decode cX13_doPardon 63 = .ok (.goto 4, 3) := by decide +kernel
theorem dX13_doPardon_66 : decode cX13_doPardon 66 = .ok (.iconst 0, 1) := by decide +kernel
theorem dX13_doPardon_67 : decode cX13_doPardon 67 = .ok (.iadd, 1) := by decide +kernel
theorem dX13_doPardon_68 : decode cX13_doPardon 68 = .ok (.istore_n 2, 1) := by decide +kernel
theorem dX13_doPardon_69 : decode cX13_doPardon 69 = .ok (.iinc 3 1, 3) := by decide +kernel
theorem dX13_doPardon_72 : decode cX13_doPardon 72 = .ok (.goto (-30), 3) := by decide +kernel
theorem dX13_doPardon_75 : decode cX13_doPardon 75 = .ok (.iload_n 2, 1) := by decide +kernel
theorem dX13_doPardon_76 : decode cX13_doPardon 76 = .ok (.ireturn, 1) := by decide +kernel
theorem dX13_pardon_0 : decode cX13_pardon 0 = .ok (.aload_n 0, 1) := by decide +kernel
theorem dX13_pardon_1 : decode cX13_pardon 1 = .ok (.invokevirtual 91, 3) := by decide +kernel
theorem dX13_pardon_4 : decode cX13_pardon 4 = .ok (.aload_n 0, 1) := by decide +kernel
theorem dX13_pardon_5 : decode cX13_pardon 5 = .ok (.aload_n 0, 1) := by decide +kernel
theorem dX13_pardon_6 : decode cX13_pardon 6 = .ok (.iload_n 1, 1) := by decide +kernel
theorem dX13_pardon_7 : decode cX13_pardon 7 = .ok (.invokevirtual 104, 3) := by decide +kernel
theorem dX13_pardon_10 : decode cX13_pardon 10 = .ok (.iconst 0, 1) := by decide +kernel
theorem dX13_pardon_11 : decode cX13_pardon 11 = .ok (.invokevirtual 97, 3) := by decide +kernel
theorem dX13_pardon_14 : decode cX13_pardon 14 = .ok (.ireturn, 1) := by decide +kernel
theorem dX13_memberCount_0 : decode cX13_memberCount 0 = .ok (.aload_n 0, 1) := by decide +kernel
theorem dX13_memberCount_1 : decode cX13_memberCount 1 = .ok (.iconst 0, 1) := by decide +kernel
theorem dX13_memberCount_2 : decode cX13_memberCount 2 = .ok (.putfield 39, 3) := by decide +kernel
theorem dX13_memberCount_5 : decode cX13_memberCount 5 = .ok (.aload_n 0, 1) := by decide +kernel
theorem dX13_memberCount_6 : decode cX13_memberCount 6 = .ok (.getfield 9, 3) := by decide +kernel
theorem dX13_memberCount_9 : decode cX13_memberCount 9 = .ok (.iconst 0, 1) := by decide +kernel
theorem dX13_memberCount_10 : decode cX13_memberCount 10 = .ok (.iaload, 1) := by decide +kernel
theorem dX13_memberCount_11 : decode cX13_memberCount 11 = .ok (.ireturn, 1) := by decide +kernel
theorem dX13_tells_0 : decode cX13_tells 0 = .ok (.aload_n 0, 1) := by decide +kernel
theorem dX13_tells_1 : decode cX13_tells 1 = .ok (.aload_n 0, 1) := by decide +kernel
theorem dX13_tells_2 : decode cX13_tells 2 = .ok (.iload_n 1, 1) := by decide +kernel
theorem dX13_tells_3 : decode cX13_tells 3 = .ok (.invokevirtual 100, 3) := by decide +kernel
theorem dX13_tells_6 : decode cX13_tells 6 = .ok (.invokevirtual 107, 3) := by decide +kernel
theorem dX13_tells_9 : decode cX13_tells 9 = .ok (.ifCond .eq 12, 3) := by decide +kernel
theorem dX13_tells_12 : decode cX13_tells 12 = .ok (.aload_n 0, 1) := by decide +kernel
theorem dX13_tells_13 : decode cX13_tells 13 = .ok (.iload_n 1, 1) := by decide +kernel
theorem dX13_tells_14 : decode cX13_tells 14 = .ok (.iload_n 2, 1) := by decide +kernel
theorem dX13_tells_15 : decode cX13_tells 15 = .ok (.invokevirtual 74, 3) := by decide +kernel
theorem dX13_tells_18 : decode cX13_tells 18 = .ok (.goto 4, 3) := by decide +kernel
theorem dX13_tells_21 : decode cX13_tells 21 = .ok (.iconst 0, 1) := by decide +kernel
theorem dX13_tells_22 : decode cX13_tells 22 = .ok (.ireturn, 1) := by decide +kernel
theorem dX13_capacity_0 : decode cX13_capacity 0 = .ok (.aload_n 0, 1) := by decide +kernel
theorem dX13_capacity_1 : decode cX13_capacity 1 = .ok (.iload_n 1, 1) := by decide +kernel
theorem dX13_capacity_2 : decode cX13_capacity 2 = .ok (.iconst 0, 1) := by decide +kernel
theorem dX13_capacity_3 : decode cX13_capacity 3 = .ok (.invokevirtual 111, 3) := by decide +kernel
theorem dX13_capacity_6 : decode cX13_capacity 6 = .ok (.ireturn, 1) := by decide +kernel
theorem dX13_votes_0 : decode cX13_votes 0 = .ok (.aload_n 0, 1) := by decide +kernel
theorem dX13_votes_1 : decode cX13_votes 1 = .ok (.iload_n 1, 1) := by decide +kernel
theorem dX13_votes_2 : decode cX13_votes 2 = .ok (.iconst 1, 1) := by decide +kernel
theorem dX13_votes_3 : decode cX13_votes 3 = .ok (.invokevirtual 111, 3) := by decide +kernel
theorem dX13_votes_6 : decode cX13_votes 6 = .ok (.ireturn, 1) := by decide +kernel
theorem dX13_standing_0 : decode cX13_standing 0 = .ok (.aload_n 0, 1) := by decide +kernel
theorem dX13_standing_1 : decode cX13_standing 1 = .ok (.iload_n 1, 1) := by decide +kernel
theorem dX13_standing_2 : decode cX13_standing 2 = .ok (.iconst 4, 1) := by decide +kernel
theorem dX13_standing_3 : decode cX13_standing 3 = .ok (.invokevirtual 111, 3) := by decide +kernel
theorem dX13_standing_6 : decode cX13_standing 6 = .ok (.istore_n 2, 1) := by decide +kernel
theorem dX13_standing_7 : decode cX13_standing 7 = .ok (.aload_n 0, 1) := by decide +kernel
theorem dX13_standing_8 : decode cX13_standing 8 = .ok (.getfield 39, 3) := by decide +kernel
theorem dX13_standing_11 : decode cX13_standing 11 = .ok (.ifCond .le 8, 3) := by decide +kernel
theorem dX13_standing_14 : decode cX13_standing 14 = .ok (.bipush 32, 2) := by decide +kernel
theorem dX13_standing_16 : decode cX13_standing 16 = .ok (.goto 23, 3) := by decide +kernel
theorem dX13_standing_19 : decode cX13_standing 19 = .ok (.iload_n 2, 1) := by decide +kernel
theorem dX13_standing_20 : decode cX13_standing 20 = .ok (.ifCond .ne 8, 3) := by decide +kernel
theorem dX13_standing_23 : decode cX13_standing 23 = .ok (.bipush 108, 2) := by decide +kernel
theorem dX13_standing_25 : decode cX13_standing 25 = .ok (.goto 14, 3) := by decide +kernel
theorem dX13_standing_28 : decode cX13_standing 28 = .ok (.iload_n 2, 1) := by decide +kernel
theorem dX13_standing_29 : decode cX13_standing 29 = .ok (.ifCond .le 8, 3) := by decide +kernel
theorem dX13_standing_32 : decode cX13_standing 32 = .ok (.bipush 119, 2) := by decide +kernel
theorem dX13_standing_34 : decode cX13_standing 34 = .ok (.goto 5, 3) := by decide +kernel
theorem dX13_standing_37 : decode cX13_standing 37 = .ok (.bipush 98, 2) := by decide +kernel
theorem dX13_standing_39 : decode cX13_standing 39 = .ok (.ireturn, 1) := by decide +kernel
theorem dX13_warnings_0 : decode cX13_warnings 0 = .ok (.aload_n 0, 1) := by decide +kernel
theorem dX13_warnings_1 : decode cX13_warnings 1 = .ok (.aload_n 0, 1) := by decide +kernel
theorem dX13_warnings_2 : decode cX13_warnings 2 = .ok (.iload_n 1, 1) := by decide +kernel
theorem dX13_warnings_3 : decode cX13_warnings 3 = .ok (.invokevirtual 100, 3) := by decide +kernel
theorem dX13_warnings_6 : decode cX13_warnings 6 = .ok (.ifCond .ne 7, 3) := by decide +kernel
theorem dX13_warnings_9 : decode cX13_warnings 9 = .ok (.iconst 1, 1) := by decide +kernel
theorem dX13_warnings_10 : decode cX13_warnings 10 = .ok (.goto 17, 3) := by decide +kernel
theorem dX13_warnings_13 : decode cX13_warnings 13 = .ok (.aload_n 0, 1) := by decide +kernel
theorem dX13_warnings_14 : decode cX13_warnings 14 = .ok (.iload_n 1, 1) := by decide +kernel
theorem dX13_warnings_15 : decode cX13_warnings 15 = .ok (.iconst 4, 1) := by decide +kernel
theorem dX13_warnings_16 : decode cX13_warnings 16 = .ok (.invokevirtual 74, 3) := by decide +kernel
theorem dX13_warnings_19 : decode cX13_warnings 19 = .ok (.ifCond .gt 7, 3) := by decide +kernel
theorem dX13_warnings_22 : decode cX13_warnings 22 = .ok (.iconst 2, 1) := by decide +kernel
theorem dX13_warnings_23 : decode cX13_warnings 23 = .ok (.goto 4, 3) := by decide +kernel
theorem dX13_warnings_26 : decode cX13_warnings 26 = .ok (.iconst 0, 1) := by decide +kernel
theorem dX13_warnings_27 : decode cX13_warnings 27 = .ok (.putfield 39, 3) := by decide +kernel
theorem dX13_warnings_30 : decode cX13_warnings 30 = .ok (.aload_n 0, 1) := by decide +kernel
theorem dX13_warnings_31 : decode cX13_warnings 31 = .ok (.getfield 39, 3) := by decide +kernel
theorem dX13_warnings_34 : decode cX13_warnings 34 = .ok (.ifCond .le 7, 3) := by decide +kernel
theorem dX13_warnings_37 : decode cX13_warnings 37 = .ok (.iconst 0, 1) := by decide +kernel
theorem dX13_warnings_38 : decode cX13_warnings 38 = .ok (.goto 9, 3) := by decide +kernel
theorem dX13_warnings_41 : decode cX13_warnings 41 = .ok (.aload_n 0, 1) := by decide +kernel
theorem dX13_warnings_42 : decode cX13_warnings 42 = .ok (.iload_n 1, 1) := by decide +kernel
theorem dX13_warnings_43 : decode cX13_warnings 43 = .ok (.iconst 4, 1) := by decide +kernel
theorem dX13_warnings_44 : decode cX13_warnings 44 = .ok (.invokevirtual 74, 3) := by decide +kernel
theorem dX13_warnings_47 : decode cX13_warnings 47 = .ok (.ireturn, 1) := by decide +kernel
theorem dX13_barredMonths_0 : decode cX13_barredMonths 0 = .ok (.aload_n 0, 1) := by decide +kernel
theorem dX13_barredMonths_1 : decode cX13_barredMonths 1 = .ok (.aload_n 0, 1) := by decide +kernel
theorem dX13_barredMonths_2 : decode cX13_barredMonths 2 = .ok (.iload_n 1, 1) := by decide +kernel
theorem dX13_barredMonths_3 : decode cX13_barredMonths 3 = .ok (.invokevirtual 100, 3) := by decide +kernel
theorem dX13_barredMonths_6 : decode cX13_barredMonths 6 = .ok (.ifCond .ne 7, 3) := by decide +kernel
theorem dX13_barredMonths_9 : decode cX13_barredMonths 9 = .ok (.iconst 1, 1) := by decide +kernel
theorem dX13_barredMonths_10 : decode cX13_barredMonths 10 = .ok (.goto 16, 3) := by decide +kernel
theorem dX13_barredMonths_13 : decode cX13_barredMonths 13 = .ok (.aload_n 0, 1) := by decide +kernel
theorem dX13_barredMonths_14 : decode cX13_barredMonths 14 = .ok (.iload_n 1, 1) := by decide +kernel
theorem dX13_barredMonths_15 : decode cX13_barredMonths 15 = .ok (.invokevirtual 114, 3) := by decide +kernel
theorem dX13_barredMonths_18 : decode cX13_barredMonths 18 = .ok (.ifCond .ne 7, 3) := by decide +kernel
theorem dX13_barredMonths_21 : decode cX13_barredMonths 21 = .ok (.iconst 2, 1) := by decide +kernel
theorem dX13_barredMonths_22 : decode cX13_barredMonths 22 = .ok (.goto 4, 3) := by decide +kernel
theorem dX13_barredMonths_25 : decode cX13_barredMonths 25 = .ok (.iconst 0, 1) := by decide +kernel
theorem dX13_barredMonths_26 : decode cX13_barredMonths 26 = .ok (.putfield 39, 3) := by decide +kernel
theorem dX13_barredMonths_29 : decode cX13_barredMonths 29 = .ok (.aload_n 0, 1) := by decide +kernel
theorem dX13_barredMonths_30 : decode cX13_barredMonths 30 = .ok (.getfield 39, 3) := by decide +kernel
theorem dX13_barredMonths_33 : decode cX13_barredMonths 33 = .ok (.ifCond .le 7, 3) := by decide +kernel
theorem dX13_barredMonths_36 : decode cX13_barredMonths 36 = .ok (.iconst 0, 1) := by decide +kernel
theorem dX13_barredMonths_37 : decode cX13_barredMonths 37 = .ok (.goto 10, 3) := by decide +kernel
theorem dX13_barredMonths_40 : decode cX13_barredMonths 40 = .ok (.aload_n 0, 1) := by decide +kernel
theorem dX13_barredMonths_41 : decode cX13_barredMonths 41 = .ok (.iload_n 1, 1) := by decide +kernel
theorem dX13_barredMonths_42 : decode cX13_barredMonths 42 = .ok (.iconst 4, 1) := by decide +kernel
theorem dX13_barredMonths_43 : decode cX13_barredMonths 43 = .ok (.invokevirtual 74, 3) := by decide +kernel
theorem dX13_barredMonths_46 : decode cX13_barredMonths 46 = .ok (.ineg, 1) := by decide +kernel
theorem dX13_barredMonths_47 : decode cX13_barredMonths 47 = .ok (.ireturn, 1) := by decide +kernel
theorem dX13_memberByExcess_0 : decode cX13_memberByExcess 0 = .ok (.iconst 0, 1) := by decide +kernel
theorem dX13_memberByExcess_1 : decode cX13_memberByExcess 1 = .ok (.istore_n 2, 1) := by decide +kernel
theorem dX13_memberByExcess_2 : decode cX13_memberByExcess 2 = .ok (.aload_n 0, 1) := by decide +kernel
theorem dX13_memberByExcess_3 : decode cX13_memberByExcess 3 = .ok (.aload_n 0, 1) := by decide +kernel
theorem dX13_memberByExcess_4 : decode cX13_memberByExcess 4 = .ok (.iload_n 1, 1) := by decide +kernel
theorem dX13_memberByExcess_5 : decode cX13_memberByExcess 5 = .ok (.invokevirtual 100, 3) := by decide +kernel
theorem dX13_memberByExcess_8 : decode cX13_memberByExcess 8 = .ok (.invokevirtual 107, 3) := by decide +kernel
theorem dX13_memberByExcess_11 : decode cX13_memberByExcess 11 = .ok (.istore_n 3, 1) := by decide +kernel
theorem dX13_memberByExcess_12 : decode cX13_memberByExcess 12 = .ok (.iconst 0, 1) := by decide +kernel
theorem dX13_memberByExcess_13 : decode cX13_memberByExcess 13 = .ok (.istore 4, 2) := by decide +kernel
theorem dX13_memberByExcess_15 : decode cX13_memberByExcess 15 = .ok (.iload 4, 2) := by decide +kernel
theorem dX13_memberByExcess_17 : decode cX13_memberByExcess 17 = .ok (.aload_n 0, 1) := by decide +kernel
theorem dX13_memberByExcess_18 : decode cX13_memberByExcess 18 = .ok (.getfield 9, 3) := by decide +kernel
theorem dX13_memberByExcess_21 : decode cX13_memberByExcess 21 = .ok (.iconst 0, 1) := by decide +kernel
theorem dX13_memberByExcess_22 : decode cX13_memberByExcess 22 = .ok (.iaload, 1) := by decide +kernel
theorem dX13_memberByExcess_23 : decode cX13_memberByExcess 23 = .ok (.if_icmp .ge 118, 3) := by decide +kernel
theorem dX13_memberByExcess_26 : decode cX13_memberByExcess 26 = .ok (.iload_n 3, 1) := by decide +kernel
theorem dX13_memberByExcess_27 : decode cX13_memberByExcess 27 = .ok (.ifCond .eq 114, 3) := by decide +kernel
theorem dX13_memberByExcess_30 : decode cX13_memberByExcess 30 = .ok (.iconst 0, 1) := by decide +kernel
theorem dX13_memberByExcess_31 : decode cX13_memberByExcess 31 = .ok (.istore 5, 2) := by decide +kernel
theorem dX13_memberByExcess_33 : decode cX13_memberByExcess 33 = .ok (.iconst 0, 1) := by decide +kernel
theorem dX13_memberByExcess_34 : decode cX13_memberByExcess 34 = .ok (.istore 6, 2) := by decide +kernel
theorem dX13_memberByExcess_36 : decode cX13_memberByExcess 36 = .ok (.iload 6, 2) := by decide +kernel
theorem dX13_memberByExcess_38 : decode cX13_memberByExcess 38 = .ok (.aload_n 0, 1) := by decide +kernel
theorem dX13_memberByExcess_39 : decode cX13_memberByExcess 39 = .ok (.getfield 9, 3) := by decide +kernel
theorem dX13_memberByExcess_42 : decode cX13_memberByExcess 42 = .ok (.iconst 0, 1) := by decide +kernel
theorem dX13_memberByExcess_43 : decode cX13_memberByExcess 43 = .ok (.iaload, 1) := by decide +kernel
theorem dX13_memberByExcess_44 : decode cX13_memberByExcess 44 = .ok (.if_icmp .ge 78, 3) := by decide +kernel
theorem dX13_memberByExcess_47 : decode cX13_memberByExcess 47 = .ok (.aload_n 0, 1) := by decide +kernel
theorem dX13_memberByExcess_48 : decode cX13_memberByExcess 48 = .ok (.iload 6, 2) := by decide +kernel
theorem dX13_memberByExcess_50 : decode cX13_memberByExcess 50 = .ok (.invokevirtual 117, 3) := by decide +kernel
theorem dX13_memberByExcess_53 : decode cX13_memberByExcess 53 = .ok (.aload_n 0, 1) := by decide +kernel
theorem dX13_memberByExcess_54 : decode cX13_memberByExcess 54 = .ok (.iload 4, 2) := by decide +kernel
theorem dX13_memberByExcess_56 : decode cX13_memberByExcess 56 = .ok (.invokevirtual 117, 3) := by decide +kernel
theorem dX13_memberByExcess_59 : decode cX13_memberByExcess 59 = .ok (.isub, 1) := by decide +kernel
theorem dX13_memberByExcess_60 : decode cX13_memberByExcess 60 = .ok (.istore 7, 2) := by decide +kernel
theorem dX13_memberByExcess_62 : decode cX13_memberByExcess 62 = .ok (.aload_n 0, 1) := by decide +kernel
theorem dX13_memberByExcess_63 : decode cX13_memberByExcess 63 = .ok (.iload 6, 2) := by decide +kernel
theorem dX13_memberByExcess_65 : decode cX13_memberByExcess 65 = .ok (.iconst 3, 1) := by decide +kernel
theorem dX13_memberByExcess_66 : decode cX13_memberByExcess 66 = .ok (.invokevirtual 74, 3) := by decide +kernel
theorem dX13_memberByExcess_69 : decode cX13_memberByExcess 69 = .ok (.aload_n 0, 1) := by decide +kernel
theorem dX13_memberByExcess_70 : decode cX13_memberByExcess 70 = .ok (.iload 4, 2) := by decide +kernel
theorem dX13_memberByExcess_72 : decode cX13_memberByExcess 72 = .ok (.iconst 3, 1) := by decide +kernel
theorem dX13_memberByExcess_73 : decode cX13_memberByExcess 73 = .ok (.invokevirtual 74, 3) := by decide +kernel
theorem dX13_memberByExcess_76 : decode cX13_memberByExcess 76 = .ok (.isub, 1) := by decide +kernel
theorem dX13_memberByExcess_77 : decode cX13_memberByExcess 77 = .ok (.istore 8, 2) := by decide +kernel
theorem dX13_memberByExcess_79 : decode cX13_memberByExcess 79 = .ok (.iload 5, 2) := by decide +kernel
theorem dX13_memberByExcess_81 : decode cX13_memberByExcess 81 = .ok (.iload 7, 2) := by decide +kernel
theorem dX13_memberByExcess_83 : decode cX13_memberByExcess 83 = .ok (.ifCond .gt 25, 3) := by decide +kernel
theorem dX13_memberByExcess_86 : decode cX13_memberByExcess 86 = .ok (.iload 7, 2) := by decide +kernel
theorem dX13_memberByExcess_88 : decode cX13_memberByExcess 88 = .ok (.ifCond .ne 24, 3) := by decide +kernel
theorem dX13_memberByExcess_91 : decode cX13_memberByExcess 91 = .ok (.iload 8, 2) := by decide +kernel
theorem dX13_memberByExcess_93 : decode cX13_memberByExcess 93 = .ok (.ifCond .gt 15, 3) := by decide +kernel
theorem dX13_memberByExcess_96 : decode cX13_memberByExcess 96 = .ok (.iload 8, 2) := by decide +kernel
theorem dX13_memberByExcess_98 : decode cX13_memberByExcess 98 = .ok (.ifCond .ne 14, 3) := by decide +kernel
theorem dX13_memberByExcess_101 : decode cX13_memberByExcess 101 = .ok (.iload 6, 2) := by decide +kernel
theorem dX13_memberByExcess_103 : decode cX13_memberByExcess 103 = .ok (.iload 4, 2) := by decide +kernel
theorem dX13_memberByExcess_105 : decode cX13_memberByExcess 105 = .ok (.if_icmp .ge 7, 3) := by decide +kernel
theorem dX13_memberByExcess_108 : decode cX13_memberByExcess 108 = .ok (.iconst 1, 1) := by decide +kernel
theorem dX13_memberByExcess_109 : decode cX13_memberByExcess 109 = .ok (.goto 4, 3) := by decide +kernel
theorem dX13_memberByExcess_112 : decode cX13_memberByExcess 112 = .ok (.iconst 0, 1) := by decide +kernel
theorem dX13_memberByExcess_113 : decode cX13_memberByExcess 113 = .ok (.iadd, 1) := by decide +kernel
theorem dX13_memberByExcess_114 : decode cX13_memberByExcess 114 = .ok (.istore 5, 2) := by decide +kernel
theorem dX13_memberByExcess_116 : decode cX13_memberByExcess 116 = .ok (.iinc 6 1, 3) := by decide +kernel
theorem dX13_memberByExcess_119 : decode cX13_memberByExcess 119 = .ok (.goto (-83), 3) := by decide +kernel
theorem dX13_memberByExcess_122 : decode cX13_memberByExcess 122 = .ok (.iload 5, 2) := by decide +kernel
theorem dX13_memberByExcess_124 : decode cX13_memberByExcess 124 = .ok (.iload_n 1, 1) := by decide +kernel
theorem dX13_memberByExcess_125 : decode cX13_memberByExcess 125 = .ok (.if_icmp .ne 8, 3) := by decide +kernel
theorem dX13_memberByExcess_128 : decode cX13_memberByExcess 128 = .ok (.iload 4, 2) := by decide +kernel
theorem dX13_memberByExcess_130 : decode cX13_memberByExcess 130 = .ok (.goto 4, 3) := by decide +kernel
theorem dX13_memberByExcess_133 : decode cX13_memberByExcess 133 = .ok (.iload_n 2, 1) := by decide +kernel
theorem dX13_memberByExcess_134 : decode cX13_memberByExcess 134 = .ok (.istore_n 2, 1) := by decide +kernel
theorem dX13_memberByExcess_135 : decode cX13_memberByExcess 135 = .ok (.iinc 4 1, 3) := by decide +kernel
theorem dX13_memberByExcess_138 : decode cX13_memberByExcess 138 = .ok (.goto (-123), 3) := by decide +kernel
theorem dX13_memberByExcess_141 : decode cX13_memberByExcess 141 = .ok (.iload_n 2, 1) := by decide +kernel
theorem dX13_memberByExcess_142 : decode cX13_memberByExcess 142 = .ok (.ireturn, 1) := by decide +kernel
theorem dX13_apportions_0 : decode cX13_apportions 0 = .ok (.iconst 0, 1) := by decide +kernel
theorem dX13_apportions_1 : decode cX13_apportions 1 = .ok (.istore_n 3, 1) := by decide +kernel
theorem dX13_apportions_2 : decode cX13_apportions 2 = .ok (.iconst 0, 1) := by decide +kernel
theorem dX13_apportions_3 : decode cX13_apportions 3 = .ok (.istore 4, 2) := by decide +kernel
theorem dX13_apportions_5 : decode cX13_apportions 5 = .ok (.iload 4, 2) := by decide +kernel
theorem dX13_apportions_7 : decode cX13_apportions 7 = .ok (.aload_n 0, 1) := by decide +kernel
theorem dX13_apportions_8 : decode cX13_apportions 8 = .ok (.getfield 9, 3) := by decide +kernel
theorem dX13_apportions_11 : decode cX13_apportions 11 = .ok (.iconst 0, 1) := by decide +kernel
theorem dX13_apportions_12 : decode cX13_apportions 12 = .ok (.iaload, 1) := by decide +kernel
theorem dX13_apportions_13 : decode cX13_apportions 13 = .ok (.if_icmp .ge 40, 3) := by decide +kernel
theorem dX13_apportions_16 : decode cX13_apportions 16 = .ok (.aload_n 0, 1) := by decide +kernel
theorem dX13_apportions_17 : decode cX13_apportions 17 = .ok (.getfield 22, 3) := by decide +kernel
theorem dX13_apportions_20 : decode cX13_apportions 20 = .ok (.iload 4, 2) := by decide +kernel
theorem dX13_apportions_22 : decode cX13_apportions 22 = .ok (.iconst 0, 1) := by decide +kernel
theorem dX13_apportions_23 : decode cX13_apportions 23 = .ok (.iastore, 1) := by decide +kernel
theorem dX13_apportions_24 : decode cX13_apportions 24 = .ok (.iload_n 3, 1) := by decide +kernel
theorem dX13_apportions_25 : decode cX13_apportions 25 = .ok (.aload_n 0, 1) := by decide +kernel
theorem dX13_apportions_26 : decode cX13_apportions 26 = .ok (.iload 4, 2) := by decide +kernel
theorem dX13_apportions_28 : decode cX13_apportions 28 = .ok (.invokevirtual 114, 3) := by decide +kernel
theorem dX13_apportions_31 : decode cX13_apportions 31 = .ok (.ifCond .eq 7, 3) := by decide +kernel
theorem dX13_apportions_34 : decode cX13_apportions 34 = .ok (.iconst 0, 1) := by decide +kernel
theorem dX13_apportions_35 : decode cX13_apportions 35 = .ok (.goto 10, 3) := by decide +kernel
theorem dX13_apportions_38 : decode cX13_apportions 38 = .ok (.aload_n 0, 1) := by decide +kernel
theorem dX13_apportions_39 : decode cX13_apportions 39 = .ok (.iload 4, 2) := by decide +kernel
theorem dX13_apportions_41 : decode cX13_apportions 41 = .ok (.iconst 0, 1) := by decide +kernel
theorem dX13_apportions_42 : decode cX13_apportions 42 = .ok (.invokevirtual 74, 3) := by decide +kernel
theorem dX13_apportions_45 : decode cX13_apportions 45 = .ok (.iadd, 1) := by decide +kernel
theorem dX13_apportions_46 : decode cX13_apportions 46 = .ok (.istore_n 3, 1) := by decide +kernel
theorem dX13_apportions_47 : decode cX13_apportions 47 = .ok (.iinc 4 1, 3) := by decide +kernel
theorem dX13_apportions_50 : decode cX13_apportions 50 = .ok (.goto (-45), 3) := by decide +kernel
theorem dX13_apportions_53 : decode cX13_apportions 53 = .ok (.iload_n 3, 1) := by decide +kernel
theorem dX13_apportions_54 : decode cX13_apportions 54 = .ok (.ifCond .ne 4, 3) := by decide +kernel
theorem dX13_apportions_57 : decode cX13_apportions 57 = .ok (.return_, 1) := by decide +kernel
theorem dX13_apportions_58 : decode cX13_apportions 58 = .ok (.iload_n 1, 1) := by decide +kernel
theorem dX13_apportions_59 : decode cX13_apportions 59 = .ok (.istore 4, 2) := by decide +kernel
theorem dX13_apportions_61 : decode cX13_apportions 61 = .ok (.iconst 0, 1) := by decide +kernel
theorem dX13_apportions_62 : decode cX13_apportions 62 = .ok (.istore 5, 2) := by decide +kernel
theorem dX13_apportions_64 : decode cX13_apportions 64 = .ok (.iload 5, 2) := by decide +kernel
theorem dX13_apportions_66 : decode cX13_apportions 66 = .ok (.aload_n 0, 1) := by decide +kernel
theorem dX13_apportions_67 : decode cX13_apportions 67 = .ok (.getfield 9, 3) := by decide +kernel
theorem dX13_apportions_70 : decode cX13_apportions 70 = .ok (.iconst 0, 1) := by decide +kernel
theorem dX13_apportions_71 : decode cX13_apportions 71 = .ok (.iaload, 1) := by decide +kernel
theorem dX13_apportions_72 : decode cX13_apportions 72 = .ok (.if_icmp .ge 56, 3) := by decide +kernel
theorem dX13_apportions_75 : decode cX13_apportions 75 = .ok (.iload_n 2, 1) := by decide +kernel
theorem dX13_apportions_76 : decode cX13_apportions 76 = .ok (.ifCond .ne 52, 3) := by decide +kernel
theorem dX13_apportions_79 : decode cX13_apportions 79 = .ok (.aload_n 0, 1) := by decide +kernel
theorem dX13_apportions_80 : decode cX13_apportions 80 = .ok (.getfield 22, 3) := by decide +kernel
theorem dX13_apportions_83 : decode cX13_apportions 83 = .ok (.iload 5, 2) := by decide +kernel
theorem dX13_apportions_85 : decode cX13_apportions 85 = .ok (.aload_n 0, 1) := by decide +kernel
theorem dX13_apportions_86 : decode cX13_apportions 86 = .ok (.iload 5, 2) := by decide +kernel
theorem dX13_apportions_88 : decode cX13_apportions 88 = .ok (.invokevirtual 114, 3) := by decide +kernel
theorem dX13_apportions_91 : decode cX13_apportions 91 = .ok (.ifCond .eq 7, 3) := by decide +kernel
theorem dX13_apportions_94 : decode cX13_apportions 94 = .ok (.iconst 0, 1) := by decide +kernel
theorem dX13_apportions_95 : decode cX13_apportions 95 = .ok (.goto 14, 3) := by decide +kernel
theorem dX13_apportions_98 : decode cX13_apportions 98 = .ok (.iload_n 1, 1) := by decide +kernel
theorem dX13_apportions_99 : decode cX13_apportions 99 = .ok (.aload_n 0, 1) := by decide +kernel
theorem dX13_apportions_100 : decode cX13_apportions 100 = .ok (.iload 5, 2) := by decide +kernel
theorem dX13_apportions_102 : decode cX13_apportions 102 = .ok (.iconst 0, 1) := by decide +kernel
theorem dX13_apportions_103 : decode cX13_apportions 103 = .ok (.invokevirtual 74, 3) := by decide +kernel
theorem dX13_apportions_106 : decode cX13_apportions 106 = .ok (.imul, 1) := by decide +kernel
theorem dX13_apportions_107 : decode cX13_apportions 107 = .ok (.iload_n 3, 1) := by decide +kernel
theorem dX13_apportions_108 : decode cX13_apportions 108 = .ok (.idiv, 1) := by decide +kernel
theorem dX13_apportions_109 : decode cX13_apportions 109 = .ok (.iastore, 1) := by decide +kernel
theorem dX13_apportions_110 : decode cX13_apportions 110 = .ok (.iload 4, 2) := by decide +kernel
theorem dX13_apportions_112 : decode cX13_apportions 112 = .ok (.aload_n 0, 1) := by decide +kernel
theorem dX13_apportions_113 : decode cX13_apportions 113 = .ok (.getfield 22, 3) := by decide +kernel
theorem dX13_apportions_116 : decode cX13_apportions 116 = .ok (.iload 5, 2) := by decide +kernel
theorem dX13_apportions_118 : decode cX13_apportions 118 = .ok (.iaload, 1) := by decide +kernel
theorem dX13_apportions_119 : decode cX13_apportions 119 = .ok (.isub, 1) := by decide +kernel
theorem dX13_apportions_120 : decode cX13_apportions 120 = .ok (.istore 4, 2) := by decide +kernel
theorem dX13_apportions_122 : decode cX13_apportions 122 = .ok (.iinc 5 1, 3) := by decide +kernel
theorem dX13_apportions_125 : decode cX13_apportions 125 = .ok (.goto (-61), 3) := by decide +kernel
theorem dX13_apportions_128 : decode cX13_apportions 128 = .ok (.iconst 0, 1) := by decide +kernel
theorem dX13_apportions_129 : decode cX13_apportions 129 = .ok (.istore 5, 2) := by decide +kernel
theorem dX13_apportions_131 : decode cX13_apportions 131 = .ok (.iload 4, 2) := by decide +kernel
theorem dX13_apportions_133 : decode cX13_apportions 133 = .ok (.ifCond .le 119, 3) := by decide +kernel
theorem dX13_apportions_136 : decode cX13_apportions 136 = .ok (.iconst (-1), 1) := by decide +kernel
theorem dX13_apportions_137 : decode cX13_apportions 137 = .ok (.istore 6, 2) := by decide +kernel
theorem dX13_apportions_139 : decode cX13_apportions 139 = .ok (.iconst 0, 1) := by decide +kernel
theorem dX13_apportions_140 : decode cX13_apportions 140 = .ok (.istore 7, 2) := by decide +kernel
theorem dX13_apportions_142 : decode cX13_apportions 142 = .ok (.iload 7, 2) := by decide +kernel
theorem dX13_apportions_144 : decode cX13_apportions 144 = .ok (.aload_n 0, 1) := by decide +kernel
theorem dX13_apportions_145 : decode cX13_apportions 145 = .ok (.getfield 9, 3) := by decide +kernel
theorem dX13_apportions_148 : decode cX13_apportions 148 = .ok (.iconst 0, 1) := by decide +kernel
theorem dX13_apportions_149 : decode cX13_apportions 149 = .ok (.iaload, 1) := by decide +kernel
theorem dX13_apportions_150 : decode cX13_apportions 150 = .ok (.if_icmp .ge 68, 3) := by decide +kernel
theorem dX13_apportions_153 : decode cX13_apportions 153 = .ok (.aload_n 0, 1) := by decide +kernel
theorem dX13_apportions_154 : decode cX13_apportions 154 = .ok (.iload 7, 2) := by decide +kernel
theorem dX13_apportions_156 : decode cX13_apportions 156 = .ok (.invokevirtual 114, 3) := by decide +kernel
theorem dX13_apportions_159 : decode cX13_apportions 159 = .ok (.ifCond .ne 17, 3) := by decide +kernel
theorem dX13_apportions_162 : decode cX13_apportions 162 = .ok (.iload 5, 2) := by decide +kernel
theorem dX13_apportions_164 : decode cX13_apportions 164 = .ok (.iload 7, 2) := by decide +kernel
theorem dX13_apportions_166 : decode cX13_apportions 166 = .ok (.ishr, 1) := by decide +kernel
theorem dX13_apportions_167 : decode cX13_apportions 167 = .ok (.iconst 1, 1) := by decide +kernel
theorem dX13_apportions_168 : decode cX13_apportions 168 = .ok (.iand, 1) := by decide +kernel
theorem dX13_apportions_169 : decode cX13_apportions 169 = .ok (.ifCond .ne 7, 3) := by decide +kernel
theorem dX13_apportions_172 : decode cX13_apportions 172 = .ok (.iconst 1, 1) := by decide +kernel
theorem dX13_apportions_173 : decode cX13_apportions 173 = .ok (.goto 4, 3) := by decide +kernel
theorem dX13_apportions_176 : decode cX13_apportions 176 = .ok (.iconst 0, 1) := by decide +kernel
theorem dX13_apportions_177 : decode cX13_apportions 177 = .ok (.istore 8, 2) := by decide +kernel
theorem dX13_apportions_179 : decode cX13_apportions 179 = .ok (.iload 8, 2) := by decide +kernel
theorem dX13_apportions_181 : decode cX13_apportions 181 = .ok (.ifCond .eq 27, 3) := by decide +kernel
theorem dX13_apportions_184 : decode cX13_apportions 184 = .ok (.iload 6, 2) := by decide +kernel
theorem dX13_apportions_186 : decode cX13_apportions 186 = .ok (.ifCond .lt 17, 3) := by decide +kernel
theorem dX13_apportions_189 : decode cX13_apportions 189 = .ok (.aload_n 0, 1) := by decide +kernel
theorem dX13_apportions_190 : decode cX13_apportions 190 = .ok (.iload 7, 2) := by decide +kernel
theorem dX13_apportions_192 : decode cX13_apportions 192 = .ok (.iload 6, 2) := by decide +kernel
theorem dX13_apportions_194 : decode cX13_apportions 194 = .ok (.iload_n 1, 1) := by decide +kernel
theorem dX13_apportions_195 : decode cX13_apportions 195 = .ok (.iload_n 3, 1) := by decide +kernel
theorem dX13_apportions_196 : decode cX13_apportions 196 = .ok (.iload_n 2, 1) := by decide +kernel
theorem dX13_apportions_197 : decode cX13_apportions 197 = .ok (.invokevirtual 120, 3) := by decide +kernel
theorem dX13_apportions_200 : decode cX13_apportions 200 = .ok (.ifCond .eq 8, 3) := by decide +kernel
theorem dX13_apportions_203 : decode cX13_apportions 203 = .ok (.iload 7, 2) := by decide +kernel
theorem dX13_apportions_205 : decode cX13_apportions 205 = .ok (.goto 5, 3) := by decide +kernel
theorem dX13_apportions_208 : decode cX13_apportions 208 = .ok (.iload 6, 2) := by decide +kernel
theorem dX13_apportions_210 : decode cX13_apportions 210 = .ok (.istore 6, 2) := by decide +kernel
theorem dX13_apportions_212 : decode cX13_apportions 212 = .ok (.iinc 7 1, 3) := by decide +kernel
theorem dX13_apportions_215 : decode cX13_apportions 215 = .ok (.goto (-73), 3) := by decide +kernel
theorem dX13_apportions_218 : decode cX13_apportions 218 = .ok (.aload_n 0, 1) := by decide +kernel
theorem dX13_apportions_219 : decode cX13_apportions 219 = .ok (.getfield 22, 3) := by decide +kernel
theorem dX13_apportions_222 : decode cX13_apportions 222 = .ok (.iload 6, 2) := by decide +kernel
theorem dX13_apportions_224 : decode cX13_apportions 224 = .ok (.dup2, 1) := by decide +kernel
theorem dX13_apportions_225 : decode cX13_apportions 225 = .ok (.iaload, 1) := by decide +kernel
theorem dX13_apportions_226 : decode cX13_apportions 226 = .ok (.iconst 1, 1) := by decide +kernel
theorem dX13_apportions_227 : decode cX13_apportions 227 = .ok (.iadd, 1) := by decide +kernel
theorem dX13_apportions_228 : decode cX13_apportions 228 = .ok (.iastore, 1) := by decide +kernel
theorem dX13_apportions_229 : decode cX13_apportions 229 = .ok (.iload 5, 2) := by decide +kernel
theorem dX13_apportions_231 : decode cX13_apportions 231 = .ok (.iload_n 2, 1) := by decide +kernel
theorem dX13_apportions_232 : decode cX13_apportions 232 = .ok (.ifCond .ne 10, 3) := by decide +kernel
theorem dX13_apportions_235 : decode cX13_apportions 235 = .ok (.iconst 1, 1) := by decide +kernel
theorem dX13_apportions_236 : decode cX13_apportions 236 = .ok (.iload 6, 2) := by decide +kernel
theorem dX13_apportions_238 : decode cX13_apportions 238 = .ok (.ishl, 1) := by decide +kernel
theorem dX13_apportions_239 : decode cX13_apportions 239 = .ok (.goto 4, 3) := by decide +kernel
theorem dX13_apportions_242 : decode cX13_apportions 242 = .ok (.iconst 0, 1) := by decide +kernel
theorem dX13_apportions_243 : decode cX13_apportions 243 = .ok (.ior, 1) := by decide +kernel
theorem dX13_apportions_244 : decode cX13_apportions 244 = .ok (.istore 5, 2) := by decide +kernel
theorem dX13_apportions_246 : decode cX13_apportions 246 = .ok (.iinc 4 (-1), 3) := by decide +kernel
theorem dX13_apportions_249 : decode cX13_apportions 249 = .ok (.goto (-118), 3) := by decide +kernel
theorem dX13_apportions_252 : decode cX13_apportions 252 = .ok (.return_, 1) := by decide +kernel
theorem dX13_isFirst_0 : decode cX13_isFirst 0 = .ok (.iload 5, 2) := by decide +kernel
theorem dX13_isFirst_2 : decode cX13_isFirst 2 = .ok (.ifCond .ne 34, 3) := by decide +kernel
theorem dX13_isFirst_5 : decode cX13_isFirst 5 = .ok (.iload_n 3, 1) := by decide +kernel
theorem dX13_isFirst_6 : decode cX13_isFirst 6 = .ok (.aload_n 0, 1) := by decide +kernel
theorem dX13_isFirst_7 : decode cX13_isFirst 7 = .ok (.iload_n 1, 1) := by decide +kernel
theorem dX13_isFirst_8 : decode cX13_isFirst 8 = .ok (.iconst 0, 1) := by decide +kernel
theorem dX13_isFirst_9 : decode cX13_isFirst 9 = .ok (.invokevirtual 74, 3) := by decide +kernel
theorem dX13_isFirst_12 : decode cX13_isFirst 12 = .ok (.imul, 1) := by decide +kernel
theorem dX13_isFirst_13 : decode cX13_isFirst 13 = .ok (.iload 4, 2) := by decide +kernel
theorem dX13_isFirst_15 : decode cX13_isFirst 15 = .ok (.irem, 1) := by decide +kernel
theorem dX13_isFirst_16 : decode cX13_isFirst 16 = .ok (.iload_n 3, 1) := by decide +kernel
theorem dX13_isFirst_17 : decode cX13_isFirst 17 = .ok (.aload_n 0, 1) := by decide +kernel
theorem dX13_isFirst_18 : decode cX13_isFirst 18 = .ok (.iload_n 2, 1) := by decide +kernel
theorem dX13_isFirst_19 : decode cX13_isFirst 19 = .ok (.iconst 0, 1) := by decide +kernel
theorem dX13_isFirst_20 : decode cX13_isFirst 20 = .ok (.invokevirtual 74, 3) := by decide +kernel
theorem dX13_isFirst_23 : decode cX13_isFirst 23 = .ok (.imul, 1) := by decide +kernel
theorem dX13_isFirst_24 : decode cX13_isFirst 24 = .ok (.iload 4, 2) := by decide +kernel
theorem dX13_isFirst_26 : decode cX13_isFirst 26 = .ok (.irem, 1) := by decide +kernel
theorem dX13_isFirst_27 : decode cX13_isFirst 27 = .ok (.if_icmp .le 7, 3) := by decide +kernel
theorem dX13_isFirst_30 : decode cX13_isFirst 30 = .ok (.iconst 1, 1) := by decide +kernel
theorem dX13_isFirst_31 : decode cX13_isFirst 31 = .ok (.goto 4, 3) := by decide +kernel
theorem dX13_isFirst_34 : decode cX13_isFirst 34 = .ok (.iconst 0, 1) := by decide +kernel
theorem dX13_isFirst_35 : decode cX13_isFirst 35 = .ok (.ireturn, 1) := by decide +kernel
theorem dX13_isFirst_36 : decode cX13_isFirst 36 = .ok (.aload_n 0, 1) := by decide +kernel
theorem dX13_isFirst_37 : decode cX13_isFirst 37 = .ok (.iload_n 1, 1) := by decide +kernel
theorem dX13_isFirst_38 : decode cX13_isFirst 38 = .ok (.iconst 0, 1) := by decide +kernel
theorem dX13_isFirst_39 : decode cX13_isFirst 39 = .ok (.invokevirtual 74, 3) := by decide +kernel
theorem dX13_isFirst_42 : decode cX13_isFirst 42 = .ok (.aload_n 0, 1) := by decide +kernel
theorem dX13_isFirst_43 : decode cX13_isFirst 43 = .ok (.getfield 22, 3) := by decide +kernel
theorem dX13_isFirst_46 : decode cX13_isFirst 46 = .ok (.iload_n 2, 1) := by decide +kernel
theorem dX13_isFirst_47 : decode cX13_isFirst 47 = .ok (.iaload, 1) := by decide +kernel
theorem dX13_isFirst_48 : decode cX13_isFirst 48 = .ok (.iconst 1, 1) := by decide +kernel
theorem dX13_isFirst_49 : decode cX13_isFirst 49 = .ok (.iadd, 1) := by decide +kernel
theorem dX13_isFirst_50 : decode cX13_isFirst 50 = .ok (.imul, 1) := by decide +kernel
theorem dX13_isFirst_51 : decode cX13_isFirst 51 = .ok (.aload_n 0, 1) := by decide +kernel
theorem dX13_isFirst_52 : decode cX13_isFirst 52 = .ok (.iload_n 2, 1) := by decide +kernel
theorem dX13_isFirst_53 : decode cX13_isFirst 53 = .ok (.iconst 0, 1) := by decide +kernel
theorem dX13_isFirst_54 : decode cX13_isFirst 54 = .ok (.invokevirtual 74, 3) := by decide +kernel
theorem dX13_isFirst_57 : decode cX13_isFirst 57 = .ok (.aload_n 0, 1) := by decide +kernel
theorem dX13_isFirst_58 : decode cX13_isFirst 58 = .ok (.getfield 22, 3) := by decide +kernel
theorem dX13_isFirst_61 : decode cX13_isFirst 61 = .ok (.iload_n 1, 1) := by decide +kernel
theorem dX13_isFirst_62 : decode cX13_isFirst 62 = .ok (.iaload, 1) := by decide +kernel
theorem dX13_isFirst_63 : decode cX13_isFirst 63 = .ok (.iconst 1, 1) := by decide +kernel
theorem dX13_isFirst_64 : decode cX13_isFirst 64 = .ok (.iadd, 1) := by decide +kernel
theorem dX13_isFirst_65 : decode cX13_isFirst 65 = .ok (.imul, 1) := by decide +kernel
theorem dX13_isFirst_66 : decode cX13_isFirst 66 = .ok (.if_icmp .le 7, 3) := by decide +kernel
theorem dX13_isFirst_69 : decode cX13_isFirst 69 = .ok (.iconst 1, 1) := by decide +kernel
theorem dX13_isFirst_70 : decode cX13_isFirst 70 = .ok (.goto 4, 3) := by decide +kernel
theorem dX13_isFirst_73 : decode cX13_isFirst 73 = .ok (.iconst 0, 1) := by decide +kernel
theorem dX13_isFirst_74 : decode cX13_isFirst 74 = .ok (.ireturn, 1) := by decide +kernel
theorem dX13_doSetRule_0 : decode cX13_doSetRule 0 = .ok (.iload_n 1, 1) := by decide +kernel
theorem dX13_doSetRule_1 : decode cX13_doSetRule 1 = .ok (.iconst 0, 1) := by decide +kernel
theorem dX13_doSetRule_2 : decode cX13_doSetRule 2 = .ok (.iconst 1, 1) := by decide +kernel
theorem dX13_doSetRule_3 : decode cX13_doSetRule 3 = .ok (.invokestatic 70, 3) := by decide +kernel
theorem dX13_doSetRule_6 : decode cX13_doSetRule 6 = .ok (.ifCond .ne 9, 3) := by decide +kernel
theorem dX13_doSetRule_9 : decode cX13_doSetRule 9 = .ok (.aload_n 0, 1) := by decide +kernel
theorem dX13_doSetRule_10 : decode cX13_doSetRule 10 = .ok (.iconst 1, 1) := by decide +kernel
theorem dX13_doSetRule_11 : decode cX13_doSetRule 11 = .ok (.invokevirtual 66, 3) := by decide +kernel
theorem dX13_doSetRule_14 : decode cX13_doSetRule 14 = .ok (.ireturn, 1) := by decide +kernel
theorem dX13_doSetRule_15 : decode cX13_doSetRule 15 = .ok (.iload_n 1, 1) := by decide +kernel
theorem dX13_doSetRule_16 : decode cX13_doSetRule 16 = .ok (.aload_n 0, 1) := by decide +kernel
theorem dX13_doSetRule_17 : decode cX13_doSetRule 17 = .ok (.getfield 9, 3) := by decide +kernel
theorem dX13_doSetRule_20 : decode cX13_doSetRule 20 = .ok (.iconst 1, 1) := by decide +kernel
theorem dX13_doSetRule_21 : decode cX13_doSetRule 21 = .ok (.iaload, 1) := by decide +kernel
theorem dX13_doSetRule_22 : decode cX13_doSetRule 22 = .ok (.if_icmp .ne 12, 3) := by decide +kernel
theorem dX13_doSetRule_25 : decode cX13_doSetRule 25 = .ok (.aload_n 0, 1) := by decide +kernel
theorem dX13_doSetRule_26 : decode cX13_doSetRule 26 = .ok (.iconst 2, 1) := by decide +kernel
theorem dX13_doSetRule_27 : decode cX13_doSetRule 27 = .ok (.bipush 7, 2) := by decide +kernel
theorem dX13_doSetRule_29 : decode cX13_doSetRule 29 = .ok (.iload_n 1, 1) := by decide +kernel
theorem dX13_doSetRule_30 : decode cX13_doSetRule 30 = .ok (.invokevirtual 83, 3) := by decide +kernel
theorem dX13_doSetRule_33 : decode cX13_doSetRule 33 = .ok (.ireturn, 1) := by decide +kernel
theorem dX13_doSetRule_34 : decode cX13_doSetRule 34 = .ok (.aload_n 0, 1) := by decide +kernel
theorem dX13_doSetRule_35 : decode cX13_doSetRule 35 = .ok (.getfield 9, 3) := by decide +kernel
theorem dX13_doSetRule_38 : decode cX13_doSetRule 38 = .ok (.iconst 1, 1) := by decide +kernel
theorem dX13_doSetRule_39 : decode cX13_doSetRule 39 = .ok (.iload_n 1, 1) := by decide +kernel
theorem dX13_doSetRule_40 : decode cX13_doSetRule 40 = .ok (.iastore, 1) := by decide +kernel
theorem dX13_doSetRule_41 : decode cX13_doSetRule 41 = .ok (.iconst 1, 1) := by decide +kernel
theorem dX13_doSetRule_42 : decode cX13_doSetRule 42 = .ok (.iload_n 1, 1) := by decide +kernel
theorem dX13_doSetRule_43 : decode cX13_doSetRule 43 = .ok (.isub, 1) := by decide +kernel
theorem dX13_doSetRule_44 : decode cX13_doSetRule 44 = .ok (.ireturn, 1) := by decide +kernel
theorem dX13_setRule_0 : decode cX13_setRule 0 = .ok (.aload_n 0, 1) := by decide +kernel
theorem dX13_setRule_1 : decode cX13_setRule 1 = .ok (.invokevirtual 91, 3) := by decide +kernel
theorem dX13_setRule_4 : decode cX13_setRule 4 = .ok (.aload_n 0, 1) := by decide +kernel
theorem dX13_setRule_5 : decode cX13_setRule 5 = .ok (.aload_n 0, 1) := by decide +kernel
theorem dX13_setRule_6 : decode cX13_setRule 6 = .ok (.iload_n 1, 1) := by decide +kernel
theorem dX13_setRule_7 : decode cX13_setRule 7 = .ok (.invokevirtual 124, 3) := by decide +kernel
theorem dX13_setRule_10 : decode cX13_setRule 10 = .ok (.iconst 0, 1) := by decide +kernel
theorem dX13_setRule_11 : decode cX13_setRule 11 = .ok (.invokevirtual 97, 3) := by decide +kernel
theorem dX13_setRule_14 : decode cX13_setRule 14 = .ok (.ireturn, 1) := by decide +kernel
theorem dX13_doAssign_0 : decode cX13_doAssign 0 = .ok (.iload_n 1, 1) := by decide +kernel
theorem dX13_doAssign_1 : decode cX13_doAssign 1 = .ok (.iconst 0, 1) := by decide +kernel
theorem dX13_doAssign_2 : decode cX13_doAssign 2 = .ok (.sipush 300, 3) := by decide +kernel
theorem dX13_doAssign_5 : decode cX13_doAssign 5 = .ok (.invokestatic 70, 3) := by decide +kernel
theorem dX13_doAssign_8 : decode cX13_doAssign 8 = .ok (.ifCond .ne 9, 3) := by decide +kernel
theorem dX13_doAssign_11 : decode cX13_doAssign 11 = .ok (.aload_n 0, 1) := by decide +kernel
theorem dX13_doAssign_12 : decode cX13_doAssign 12 = .ok (.iconst 1, 1) := by decide +kernel
theorem dX13_doAssign_13 : decode cX13_doAssign 13 = .ok (.invokevirtual 66, 3) := by decide +kernel
theorem dX13_doAssign_16 : decode cX13_doAssign 16 = .ok (.ireturn, 1) := by decide +kernel
theorem dX13_doAssign_17 : decode cX13_doAssign 17 = .ok (.aload_n 0, 1) := by decide +kernel
theorem dX13_doAssign_18 : decode cX13_doAssign 18 = .ok (.iload_n 1, 1) := by decide +kernel
theorem dX13_doAssign_19 : decode cX13_doAssign 19 = .ok (.aload_n 0, 1) := by decide +kernel
theorem dX13_doAssign_20 : decode cX13_doAssign 20 = .ok (.getfield 9, 3) := by decide +kernel
theorem dX13_doAssign_23 : decode cX13_doAssign 23 = .ok (.iconst 1, 1) := by decide +kernel
theorem dX13_doAssign_24 : decode cX13_doAssign 24 = .ok (.iaload, 1) := by decide +kernel
theorem dX13_doAssign_25 : decode cX13_doAssign 25 = .ok (.invokevirtual 127, 3) := by decide +kernel
theorem dX13_doAssign_28 : decode cX13_doAssign 28 = .ok (.iconst 0, 1) := by decide +kernel
theorem dX13_doAssign_29 : decode cX13_doAssign 29 = .ok (.istore_n 2, 1) := by decide +kernel
theorem dX13_doAssign_30 : decode cX13_doAssign 30 = .ok (.iconst 0, 1) := by decide +kernel
theorem dX13_doAssign_31 : decode cX13_doAssign 31 = .ok (.istore_n 3, 1) := by decide +kernel
theorem dX13_doAssign_32 : decode cX13_doAssign 32 = .ok (.iload_n 3, 1) := by decide +kernel
theorem dX13_doAssign_33 : decode cX13_doAssign 33 = .ok (.aload_n 0, 1) := by decide +kernel
theorem dX13_doAssign_34 : decode cX13_doAssign 34 = .ok (.getfield 9, 3) := by decide +kernel
theorem dX13_doAssign_37 : decode cX13_doAssign 37 = .ok (.iconst 0, 1) := by decide +kernel
theorem dX13_doAssign_38 : decode cX13_doAssign 38 = .ok (.iaload, 1) := by decide +kernel
theorem dX13_doAssign_39 : decode cX13_doAssign 39 = .ok (.if_icmp .ge 44, 3) := by decide +kernel
theorem dX13_doAssign_42 : decode cX13_doAssign 42 = .ok (.iload_n 2, 1) := by decide +kernel
theorem dX13_doAssign_43 : decode cX13_doAssign 43 = .ok (.aload_n 0, 1) := by decide +kernel
theorem dX13_doAssign_44 : decode cX13_doAssign 44 = .ok (.iload_n 3, 1) := by decide +kernel
theorem dX13_doAssign_45 : decode cX13_doAssign 45 = .ok (.iconst 2, 1) := by decide +kernel
theorem dX13_doAssign_46 : decode cX13_doAssign 46 = .ok (.invokevirtual 74, 3) := by decide +kernel
theorem dX13_doAssign_49 : decode cX13_doAssign 49 = .ok (.aload_n 0, 1) := by decide +kernel
theorem dX13_doAssign_50 : decode cX13_doAssign 50 = .ok (.getfield 22, 3) := by decide +kernel
theorem dX13_doAssign_53 : decode cX13_doAssign 53 = .ok (.iload_n 3, 1) := by decide +kernel
theorem dX13_doAssign_54 : decode cX13_doAssign 54 = .ok (.iaload, 1) := by decide +kernel
theorem dX13_doAssign_55 : decode cX13_doAssign 55 = .ok (.if_icmp .ne 7, 3) := by decide +kernel
theorem dX13_doAssign_58 : decode cX13_doAssign 58 = .ok (.iconst 0, 1) := by decide +kernel
theorem dX13_doAssign_59 : decode cX13_doAssign 59 = .ok (.goto 4, 3) := by decide +kernel
theorem dX13_doAssign_62 : decode cX13_doAssign 62 = .ok (.iconst 1, 1) := by decide +kernel
theorem dX13_doAssign_63 : decode cX13_doAssign 63 = .ok (.iadd, 1) := by decide +kernel
theorem dX13_doAssign_64 : decode cX13_doAssign 64 = .ok (.istore_n 2, 1) := by decide +kernel
theorem dX13_doAssign_65 : decode cX13_doAssign 65 = .ok (.aload_n 0, 1) := by decide +kernel
theorem dX13_doAssign_66 : decode cX13_doAssign 66 = .ok (.iload_n 3, 1) := by decide +kernel
theorem dX13_doAssign_67 : decode cX13_doAssign 67 = .ok (.iconst 2, 1) := by decide +kernel
theorem dX13_doAssign_68 : decode cX13_doAssign 68 = .ok (.aload_n 0, 1) := by decide +kernel
theorem dX13_doAssign_69 : decode cX13_doAssign 69 = .ok (.getfield 22, 3) := by decide +kernel
theorem dX13_doAssign_72 : decode cX13_doAssign 72 = .ok (.iload_n 3, 1) := by decide +kernel
theorem dX13_doAssign_73 : decode cX13_doAssign 73 = .ok (.iaload, 1) := by decide +kernel
theorem dX13_doAssign_74 : decode cX13_doAssign 74 = .ok (.invokevirtual 87, 3) := by decide +kernel
theorem dX13_doAssign_77 : decode cX13_doAssign 77 = .ok (.iinc 3 1, 3) := by decide +kernel
theorem dX13_doAssign_80 : decode cX13_doAssign 80 = .ok (.goto (-48), 3) := by decide +kernel
theorem dX13_doAssign_83 : decode cX13_doAssign 83 = .ok (.iload_n 2, 1) := by decide +kernel
theorem dX13_doAssign_84 : decode cX13_doAssign 84 = .ok (.ireturn, 1) := by decide +kernel
theorem dX13_assign_0 : decode cX13_assign 0 = .ok (.aload_n 0, 1) := by decide +kernel
theorem dX13_assign_1 : decode cX13_assign 1 = .ok (.invokevirtual 91, 3) := by decide +kernel
theorem dX13_assign_4 : decode cX13_assign 4 = .ok (.aload_n 0, 1) := by decide +kernel
theorem dX13_assign_5 : decode cX13_assign 5 = .ok (.aload_n 0, 1) := by decide +kernel
theorem dX13_assign_6 : decode cX13_assign 6 = .ok (.iload_n 1, 1) := by decide +kernel
theorem dX13_assign_7 : decode cX13_assign 7 = .ok (.invokevirtual 131, 3) := by decide +kernel
theorem dX13_assign_10 : decode cX13_assign 10 = .ok (.iconst 0, 1) := by decide +kernel
theorem dX13_assign_11 : decode cX13_assign 11 = .ok (.invokevirtual 97, 3) := by decide +kernel
theorem dX13_assign_14 : decode cX13_assign 14 = .ok (.ireturn, 1) := by decide +kernel
theorem dX13_doSell_0 : decode cX13_doSell 0 = .ok (.aload_n 0, 1) := by decide +kernel
theorem dX13_doSell_1 : decode cX13_doSell 1 = .ok (.iload_n 1, 1) := by decide +kernel
theorem dX13_doSell_2 : decode cX13_doSell 2 = .ok (.invokevirtual 100, 3) := by decide +kernel
theorem dX13_doSell_5 : decode cX13_doSell 5 = .ok (.ifCond .ne 9, 3) := by decide +kernel
theorem dX13_doSell_8 : decode cX13_doSell 8 = .ok (.aload_n 0, 1) := by decide +kernel
theorem dX13_doSell_9 : decode cX13_doSell 9 = .ok (.iconst 1, 1) := by decide +kernel
theorem dX13_doSell_10 : decode cX13_doSell 10 = .ok (.invokevirtual 66, 3) := by decide +kernel
theorem dX13_doSell_13 : decode cX13_doSell 13 = .ok (.ireturn, 1) := by decide +kernel
theorem dX13_doSell_14 : decode cX13_doSell 14 = .ok (.iload_n 2, 1) := by decide +kernel
theorem dX13_doSell_15 : decode cX13_doSell 15 = .ok (.iconst 1, 1) := by decide +kernel
theorem dX13_doSell_16 : decode cX13_doSell 16 = .ok (.bipush 99, 2) := by decide +kernel
theorem dX13_doSell_18 : decode cX13_doSell 18 = .ok (.invokestatic 70, 3) := by decide +kernel
theorem dX13_doSell_21 : decode cX13_doSell 21 = .ok (.ifCond .ne 9, 3) := by decide +kernel
theorem dX13_doSell_24 : decode cX13_doSell 24 = .ok (.aload_n 0, 1) := by decide +kernel
theorem dX13_doSell_25 : decode cX13_doSell 25 = .ok (.iconst 2, 1) := by decide +kernel
theorem dX13_doSell_26 : decode cX13_doSell 26 = .ok (.invokevirtual 66, 3) := by decide +kernel
theorem dX13_doSell_29 : decode cX13_doSell 29 = .ok (.ireturn, 1) := by decide +kernel
theorem dX13_doSell_30 : decode cX13_doSell 30 = .ok (.aload_n 0, 1) := by decide +kernel
theorem dX13_doSell_31 : decode cX13_doSell 31 = .ok (.iload_n 1, 1) := by decide +kernel
theorem dX13_doSell_32 : decode cX13_doSell 32 = .ok (.invokevirtual 114, 3) := by decide +kernel
theorem dX13_doSell_35 : decode cX13_doSell 35 = .ok (.ifCond .eq 17, 3) := by decide +kernel
theorem dX13_doSell_38 : decode cX13_doSell 38 = .ok (.aload_n 0, 1) := by decide +kernel
theorem dX13_doSell_39 : decode cX13_doSell 39 = .ok (.iconst 3, 1) := by decide +kernel
theorem dX13_doSell_40 : decode cX13_doSell 40 = .ok (.iconst 2, 1) := by decide +kernel
theorem dX13_doSell_41 : decode cX13_doSell 41 = .ok (.aload_n 0, 1) := by decide +kernel
theorem dX13_doSell_42 : decode cX13_doSell 42 = .ok (.iload_n 1, 1) := by decide +kernel
theorem dX13_doSell_43 : decode cX13_doSell 43 = .ok (.iconst 4, 1) := by decide +kernel
theorem dX13_doSell_44 : decode cX13_doSell 44 = .ok (.invokevirtual 74, 3) := by decide +kernel
theorem dX13_doSell_47 : decode cX13_doSell 47 = .ok (.ineg, 1) := by decide +kernel
theorem dX13_doSell_48 : decode cX13_doSell 48 = .ok (.invokevirtual 83, 3) := by decide +kernel
theorem dX13_doSell_51 : decode cX13_doSell 51 = .ok (.ireturn, 1) := by decide +kernel
theorem dX13_doSell_52 : decode cX13_doSell 52 = .ok (.aload_n 0, 1) := by decide +kernel
theorem dX13_doSell_53 : decode cX13_doSell 53 = .ok (.iload_n 1, 1) := by decide +kernel
theorem dX13_doSell_54 : decode cX13_doSell 54 = .ok (.iconst 0, 1) := by decide +kernel
theorem dX13_doSell_55 : decode cX13_doSell 55 = .ok (.invokevirtual 74, 3) := by decide +kernel
theorem dX13_doSell_58 : decode cX13_doSell 58 = .ok (.aload_n 0, 1) := by decide +kernel
theorem dX13_doSell_59 : decode cX13_doSell 59 = .ok (.iload_n 1, 1) := by decide +kernel
theorem dX13_doSell_60 : decode cX13_doSell 60 = .ok (.iconst 3, 1) := by decide +kernel
theorem dX13_doSell_61 : decode cX13_doSell 61 = .ok (.invokevirtual 74, 3) := by decide +kernel
theorem dX13_doSell_64 : decode cX13_doSell 64 = .ok (.isub, 1) := by decide +kernel
theorem dX13_doSell_65 : decode cX13_doSell 65 = .ok (.istore_n 3, 1) := by decide +kernel
theorem dX13_doSell_66 : decode cX13_doSell 66 = .ok (.iload_n 2, 1) := by decide +kernel
theorem dX13_doSell_67 : decode cX13_doSell 67 = .ok (.iload_n 3, 1) := by decide +kernel
theorem dX13_doSell_68 : decode cX13_doSell 68 = .ok (.if_icmp .le 11, 3) := by decide +kernel
theorem dX13_doSell_71 : decode cX13_doSell 71 = .ok (.aload_n 0, 1) := by decide +kernel
theorem dX13_doSell_72 : decode cX13_doSell 72 = .ok (.iconst 3, 1) := by decide +kernel
theorem dX13_doSell_73 : decode cX13_doSell 73 = .ok (.iconst 3, 1) := by decide +kernel
theorem dX13_doSell_74 : decode cX13_doSell 74 = .ok (.iload_n 3, 1) := by decide +kernel
theorem dX13_doSell_75 : decode cX13_doSell 75 = .ok (.invokevirtual 83, 3) := by decide +kernel
theorem dX13_doSell_78 : decode cX13_doSell 78 = .ok (.ireturn, 1) := by decide +kernel
theorem dX13_doSell_79 : decode cX13_doSell 79 = .ok (.aload_n 0, 1) := by decide +kernel
theorem dX13_doSell_80 : decode cX13_doSell 80 = .ok (.iload_n 1, 1) := by decide +kernel
theorem dX13_doSell_81 : decode cX13_doSell 81 = .ok (.iconst 3, 1) := by decide +kernel
theorem dX13_doSell_82 : decode cX13_doSell 82 = .ok (.aload_n 0, 1) := by decide +kernel
theorem dX13_doSell_83 : decode cX13_doSell 83 = .ok (.iload_n 1, 1) := by decide +kernel
theorem dX13_doSell_84 : decode cX13_doSell 84 = .ok (.iconst 3, 1) := by decide +kernel
theorem dX13_doSell_85 : decode cX13_doSell 85 = .ok (.invokevirtual 74, 3) := by decide +kernel
theorem dX13_doSell_88 : decode cX13_doSell 88 = .ok (.iload_n 2, 1) := by decide +kernel
theorem dX13_doSell_89 : decode cX13_doSell 89 = .ok (.iadd, 1) := by decide +kernel
theorem dX13_doSell_90 : decode cX13_doSell 90 = .ok (.invokevirtual 87, 3) := by decide +kernel
theorem dX13_doSell_93 : decode cX13_doSell 93 = .ok (.aload_n 0, 1) := by decide +kernel
theorem dX13_doSell_94 : decode cX13_doSell 94 = .ok (.iload_n 1, 1) := by decide +kernel
theorem dX13_doSell_95 : decode cX13_doSell 95 = .ok (.iconst 3, 1) := by decide +kernel
theorem dX13_doSell_96 : decode cX13_doSell 96 = .ok (.invokevirtual 74, 3) := by decide +kernel
theorem dX13_doSell_99 : decode cX13_doSell 99 = .ok (.ireturn, 1) := by decide +kernel
theorem dX13_sell_0 : decode cX13_sell 0 = .ok (.aload_n 0, 1) := by decide +kernel
theorem dX13_sell_1 : decode cX13_sell 1 = .ok (.invokevirtual 91, 3) := by decide +kernel
theorem dX13_sell_4 : decode cX13_sell 4 = .ok (.aload_n 0, 1) := by decide +kernel
theorem dX13_sell_5 : decode cX13_sell 5 = .ok (.aload_n 0, 1) := by decide +kernel
theorem dX13_sell_6 : decode cX13_sell 6 = .ok (.iload_n 1, 1) := by decide +kernel
theorem dX13_sell_7 : decode cX13_sell 7 = .ok (.iload_n 2, 1) := by decide +kernel
theorem dX13_sell_8 : decode cX13_sell 8 = .ok (.invokevirtual 134, 3) := by decide +kernel
theorem dX13_sell_11 : decode cX13_sell 11 = .ok (.iconst 0, 1) := by decide +kernel
theorem dX13_sell_12 : decode cX13_sell 12 = .ok (.invokevirtual 97, 3) := by decide +kernel
theorem dX13_sell_15 : decode cX13_sell 15 = .ok (.ireturn, 1) := by decide +kernel
theorem dX13_doClose_0 : decode cX13_doClose 0 = .ok (.iconst 0, 1) := by decide +kernel
theorem dX13_doClose_1 : decode cX13_doClose 1 = .ok (.istore_n 1, 1) := by decide +kernel
theorem dX13_doClose_2 : decode cX13_doClose 2 = .ok (.iconst 0, 1) := by decide +kernel
theorem dX13_doClose_3 : decode cX13_doClose 3 = .ok (.istore_n 2, 1) := by decide +kernel
theorem dX13_doClose_4 : decode cX13_doClose 4 = .ok (.iload_n 2, 1) := by decide +kernel
theorem dX13_doClose_5 : decode cX13_doClose 5 = .ok (.aload_n 0, 1) := by decide +kernel
theorem dX13_doClose_6 : decode cX13_doClose 6 = .ok (.getfield 9, 3) := by decide +kernel
theorem dX13_doClose_9 : decode cX13_doClose 9 = .ok (.iconst 0, 1) := by decide +kernel
theorem dX13_doClose_10 : decode cX13_doClose 10 = .ok (.iaload, 1) := by decide +kernel
theorem dX13_doClose_11 : decode cX13_doClose 11 = .ok (.if_icmp .ge 98, 3) := by decide +kernel
theorem dX13_doClose_14 : decode cX13_doClose 14 = .ok (.aload_n 0, 1) := by decide +kernel
theorem dX13_doClose_15 : decode cX13_doClose 15 = .ok (.iload_n 2, 1) := by decide +kernel
theorem dX13_doClose_16 : decode cX13_doClose 16 = .ok (.invokevirtual 117, 3) := by decide +kernel
theorem dX13_doClose_19 : decode cX13_doClose 19 = .ok (.istore_n 3, 1) := by decide +kernel
theorem dX13_doClose_20 : decode cX13_doClose 20 = .ok (.aload_n 0, 1) := by decide +kernel
theorem dX13_doClose_21 : decode cX13_doClose 21 = .ok (.iload_n 2, 1) := by decide +kernel
theorem dX13_doClose_22 : decode cX13_doClose 22 = .ok (.iconst 4, 1) := by decide +kernel
theorem dX13_doClose_23 : decode cX13_doClose 23 = .ok (.invokevirtual 74, 3) := by decide +kernel
theorem dX13_doClose_26 : decode cX13_doClose 26 = .ok (.istore 4, 2) := by decide +kernel
theorem dX13_doClose_28 : decode cX13_doClose 28 = .ok (.iload_n 1, 1) := by decide +kernel
theorem dX13_doClose_29 : decode cX13_doClose 29 = .ok (.iconst 3, 1) := by decide +kernel
theorem dX13_doClose_30 : decode cX13_doClose 30 = .ok (.iload_n 3, 1) := by decide +kernel
theorem dX13_doClose_31 : decode cX13_doClose 31 = .ok (.imul, 1) := by decide +kernel
theorem dX13_doClose_32 : decode cX13_doClose 32 = .ok (.iadd, 1) := by decide +kernel
theorem dX13_doClose_33 : decode cX13_doClose 33 = .ok (.istore_n 1, 1) := by decide +kernel
theorem dX13_doClose_34 : decode cX13_doClose 34 = .ok (.aload_n 0, 1) := by decide +kernel
theorem dX13_doClose_35 : decode cX13_doClose 35 = .ok (.getfield 9, 3) := by decide +kernel
theorem dX13_doClose_38 : decode cX13_doClose 38 = .ok (.iconst 5, 1) := by decide +kernel
theorem dX13_doClose_39 : decode cX13_doClose 39 = .ok (.dup2, 1) := by decide +kernel
theorem dX13_doClose_40 : decode cX13_doClose 40 = .ok (.iaload, 1) := by decide +kernel
theorem dX13_doClose_41 : decode cX13_doClose 41 = .ok (.aload_n 0, 1) := by decide +kernel
theorem dX13_doClose_42 : decode cX13_doClose 42 = .ok (.iload_n 2, 1) := by decide +kernel
theorem dX13_doClose_43 : decode cX13_doClose 43 = .ok (.iconst 3, 1) := by decide +kernel
theorem dX13_doClose_44 : decode cX13_doClose 44 = .ok (.invokevirtual 74, 3) := by decide +kernel
theorem dX13_doClose_47 : decode cX13_doClose 47 = .ok (.iadd, 1) := by decide +kernel
theorem dX13_doClose_48 : decode cX13_doClose 48 = .ok (.iastore, 1) := by decide +kernel
theorem dX13_doClose_49 : decode cX13_doClose 49 = .ok (.aload_n 0, 1) := by decide +kernel
theorem dX13_doClose_50 : decode cX13_doClose 50 = .ok (.getfield 9, 3) := by decide +kernel
theorem dX13_doClose_53 : decode cX13_doClose 53 = .ok (.bipush 6, 2) := by decide +kernel
theorem dX13_doClose_55 : decode cX13_doClose 55 = .ok (.dup2, 1) := by decide +kernel
theorem dX13_doClose_56 : decode cX13_doClose 56 = .ok (.iaload, 1) := by decide +kernel
theorem dX13_doClose_57 : decode cX13_doClose 57 = .ok (.iload_n 3, 1) := by decide +kernel
theorem dX13_doClose_58 : decode cX13_doClose 58 = .ok (.iadd, 1) := by decide +kernel
theorem dX13_doClose_59 : decode cX13_doClose 59 = .ok (.iastore, 1) := by decide +kernel
theorem dX13_doClose_60 : decode cX13_doClose 60 = .ok (.aload_n 0, 1) := by decide +kernel
theorem dX13_doClose_61 : decode cX13_doClose 61 = .ok (.iload_n 2, 1) := by decide +kernel
theorem dX13_doClose_62 : decode cX13_doClose 62 = .ok (.iconst 4, 1) := by decide +kernel
theorem dX13_doClose_63 : decode cX13_doClose 63 = .ok (.iload_n 3, 1) := by decide +kernel
theorem dX13_doClose_64 : decode cX13_doClose 64 = .ok (.ifCond .gt 8, 3) := by decide +kernel
theorem dX13_doClose_67 : decode cX13_doClose 67 = .ok (.iload 4, 2) := by decide +kernel
theorem dX13_doClose_69 : decode cX13_doClose 69 = .ok (.ifCond .ne 8, 3) := by decide +kernel
theorem dX13_doClose_72 : decode cX13_doClose 72 = .ok (.iload 4, 2) := by decide +kernel
theorem dX13_doClose_74 : decode cX13_doClose 74 = .ok (.goto 19, 3) := by decide +kernel
theorem dX13_doClose_77 : decode cX13_doClose 77 = .ok (.iload 4, 2) := by decide +kernel
theorem dX13_doClose_79 : decode cX13_doClose 79 = .ok (.ifCond .le 10, 3) := by decide +kernel
theorem dX13_doClose_82 : decode cX13_doClose 82 = .ok (.iload 4, 2) := by decide +kernel
theorem dX13_doClose_84 : decode cX13_doClose 84 = .ok (.iconst 1, 1) := by decide +kernel
theorem dX13_doClose_85 : decode cX13_doClose 85 = .ok (.isub, 1) := by decide +kernel
theorem dX13_doClose_86 : decode cX13_doClose 86 = .ok (.goto 7, 3) := by decide +kernel
theorem dX13_doClose_89 : decode cX13_doClose 89 = .ok (.iload 4, 2) := by decide +kernel
theorem dX13_doClose_91 : decode cX13_doClose 91 = .ok (.iconst 1, 1) := by decide +kernel
theorem dX13_doClose_92 : decode cX13_doClose 92 = .ok (.iadd, 1) := by decide +kernel
theorem dX13_doClose_93 : decode cX13_doClose 93 = .ok (.invokevirtual 87, 3) := by decide +kernel
theorem dX13_doClose_96 : decode cX13_doClose 96 = .ok (.aload_n 0, 1) := by decide +kernel
theorem dX13_doClose_97 : decode cX13_doClose 97 = .ok (.iload_n 2, 1) := by decide +kernel
theorem dX13_doClose_98 : decode cX13_doClose 98 = .ok (.iconst 3, 1) := by decide +kernel
theorem dX13_doClose_99 : decode cX13_doClose 99 = .ok (.iconst 0, 1) := by decide +kernel
theorem dX13_doClose_100 : decode cX13_doClose 100 = .ok (.invokevirtual 87, 3) := by decide +kernel
theorem dX13_doClose_103 : decode cX13_doClose 103 = .ok (.iinc 2 1, 3) := by decide +kernel
theorem dX13_doClose_106 : decode cX13_doClose 106 = .ok (.goto (-102), 3) := by decide +kernel
theorem dX13_doClose_109 : decode cX13_doClose 109 = .ok (.aload_n 0, 1) := by decide +kernel
theorem dX13_doClose_110 : decode cX13_doClose 110 = .ok (.getfield 9, 3) := by decide +kernel
theorem dX13_doClose_113 : decode cX13_doClose 113 = .ok (.iconst 4, 1) := by decide +kernel
theorem dX13_doClose_114 : decode cX13_doClose 114 = .ok (.dup2, 1) := by decide +kernel
theorem dX13_doClose_115 : decode cX13_doClose 115 = .ok (.iaload, 1) := by decide +kernel
theorem dX13_doClose_116 : decode cX13_doClose 116 = .ok (.iconst 1, 1) := by decide +kernel
theorem dX13_doClose_117 : decode cX13_doClose 117 = .ok (.iadd, 1) := by decide +kernel
theorem dX13_doClose_118 : decode cX13_doClose 118 = .ok (.iastore, 1) := by decide +kernel
theorem dX13_doClose_119 : decode cX13_doClose 119 = .ok (.iload_n 1, 1) := by decide +kernel
theorem dX13_doClose_120 : decode cX13_doClose 120 = .ok (.ireturn, 1) := by decide +kernel
theorem dX13_close_0 : decode cX13_close 0 = .ok (.aload_n 0, 1) := by decide +kernel
theorem dX13_close_1 : decode cX13_close 1 = .ok (.invokevirtual 91, 3) := by decide +kernel
theorem dX13_close_4 : decode cX13_close 4 = .ok (.aload_n 0, 1) := by decide +kernel
theorem dX13_close_5 : decode cX13_close 5 = .ok (.aload_n 0, 1) := by decide +kernel
theorem dX13_close_6 : decode cX13_close 6 = .ok (.invokevirtual 137, 3) := by decide +kernel
theorem dX13_close_9 : decode cX13_close 9 = .ok (.iconst 0, 1) := by decide +kernel
theorem dX13_close_10 : decode cX13_close 10 = .ok (.invokevirtual 97, 3) := by decide +kernel
theorem dX13_close_13 : decode cX13_close 13 = .ok (.ireturn, 1) := by decide +kernel
theorem dX13_quotaBy_0 : decode cX13_quotaBy 0 = .ok (.aload_n 0, 1) := by decide +kernel
theorem dX13_quotaBy_1 : decode cX13_quotaBy 1 = .ok (.aload_n 0, 1) := by decide +kernel
theorem dX13_quotaBy_2 : decode cX13_quotaBy 2 = .ok (.iload_n 1, 1) := by decide +kernel
theorem dX13_quotaBy_3 : decode cX13_quotaBy 3 = .ok (.invokevirtual 100, 3) := by decide +kernel
theorem dX13_quotaBy_6 : decode cX13_quotaBy 6 = .ok (.ifCond .ne 7, 3) := by decide +kernel
theorem dX13_quotaBy_9 : decode cX13_quotaBy 9 = .ok (.iconst 1, 1) := by decide +kernel
theorem dX13_quotaBy_10 : decode cX13_quotaBy 10 = .ok (.goto 28, 3) := by decide +kernel
theorem dX13_quotaBy_13 : decode cX13_quotaBy 13 = .ok (.iload_n 2, 1) := by decide +kernel
theorem dX13_quotaBy_14 : decode cX13_quotaBy 14 = .ok (.iconst 0, 1) := by decide +kernel
theorem dX13_quotaBy_15 : decode cX13_quotaBy 15 = .ok (.sipush 300, 3) := by decide +kernel
theorem dX13_quotaBy_18 : decode cX13_quotaBy 18 = .ok (.invokestatic 70, 3) := by decide +kernel
theorem dX13_quotaBy_21 : decode cX13_quotaBy 21 = .ok (.ifCond .eq 12, 3) := by decide +kernel
theorem dX13_quotaBy_24 : decode cX13_quotaBy 24 = .ok (.iload_n 3, 1) := by decide +kernel
theorem dX13_quotaBy_25 : decode cX13_quotaBy 25 = .ok (.iconst 0, 1) := by decide +kernel
theorem dX13_quotaBy_26 : decode cX13_quotaBy 26 = .ok (.iconst 1, 1) := by decide +kernel
theorem dX13_quotaBy_27 : decode cX13_quotaBy 27 = .ok (.invokestatic 70, 3) := by decide +kernel
theorem dX13_quotaBy_30 : decode cX13_quotaBy 30 = .ok (.ifCond .ne 7, 3) := by decide +kernel
theorem dX13_quotaBy_33 : decode cX13_quotaBy 33 = .ok (.iconst 2, 1) := by decide +kernel
theorem dX13_quotaBy_34 : decode cX13_quotaBy 34 = .ok (.goto 4, 3) := by decide +kernel
theorem dX13_quotaBy_37 : decode cX13_quotaBy 37 = .ok (.iconst 0, 1) := by decide +kernel
theorem dX13_quotaBy_38 : decode cX13_quotaBy 38 = .ok (.putfield 39, 3) := by decide +kernel
theorem dX13_quotaBy_41 : decode cX13_quotaBy 41 = .ok (.aload_n 0, 1) := by decide +kernel
theorem dX13_quotaBy_42 : decode cX13_quotaBy 42 = .ok (.getfield 39, 3) := by decide +kernel
theorem dX13_quotaBy_45 : decode cX13_quotaBy 45 = .ok (.ifCond .le 5, 3) := by decide +kernel
theorem dX13_quotaBy_48 : decode cX13_quotaBy 48 = .ok (.iconst 0, 1) := by decide +kernel
theorem dX13_quotaBy_49 : decode cX13_quotaBy 49 = .ok (.ireturn, 1) := by decide +kernel
theorem dX13_quotaBy_50 : decode cX13_quotaBy 50 = .ok (.aload_n 0, 1) := by decide +kernel
theorem dX13_quotaBy_51 : decode cX13_quotaBy 51 = .ok (.iload_n 2, 1) := by decide +kernel
theorem dX13_quotaBy_52 : decode cX13_quotaBy 52 = .ok (.iload_n 3, 1) := by decide +kernel
theorem dX13_quotaBy_53 : decode cX13_quotaBy 53 = .ok (.invokevirtual 127, 3) := by decide +kernel
theorem dX13_quotaBy_56 : decode cX13_quotaBy 56 = .ok (.aload_n 0, 1) := by decide +kernel
theorem dX13_quotaBy_57 : decode cX13_quotaBy 57 = .ok (.getfield 22, 3) := by decide +kernel
theorem dX13_quotaBy_60 : decode cX13_quotaBy 60 = .ok (.iload_n 1, 1) := by decide +kernel
theorem dX13_quotaBy_61 : decode cX13_quotaBy 61 = .ok (.iaload, 1) := by decide +kernel
theorem dX13_quotaBy_62 : decode cX13_quotaBy 62 = .ok (.ireturn, 1) := by decide +kernel
theorem dX13_quota_0 : decode cX13_quota 0 = .ok (.aload_n 0, 1) := by decide +kernel
theorem dX13_quota_1 : decode cX13_quota 1 = .ok (.iload_n 1, 1) := by decide +kernel
theorem dX13_quota_2 : decode cX13_quota 2 = .ok (.iconst 2, 1) := by decide +kernel
theorem dX13_quota_3 : decode cX13_quota 3 = .ok (.invokevirtual 111, 3) := by decide +kernel
theorem dX13_quota_6 : decode cX13_quota 6 = .ok (.ireturn, 1) := by decide +kernel
theorem dX13_sales_0 : decode cX13_sales 0 = .ok (.aload_n 0, 1) := by decide +kernel
theorem dX13_sales_1 : decode cX13_sales 1 = .ok (.iload_n 1, 1) := by decide +kernel
theorem dX13_sales_2 : decode cX13_sales 2 = .ok (.iconst 3, 1) := by decide +kernel
theorem dX13_sales_3 : decode cX13_sales 3 = .ok (.invokevirtual 111, 3) := by decide +kernel
theorem dX13_sales_6 : decode cX13_sales 6 = .ok (.ireturn, 1) := by decide +kernel
theorem dX13_excess_0 : decode cX13_excess 0 = .ok (.aload_n 0, 1) := by decide +kernel
theorem dX13_excess_1 : decode cX13_excess 1 = .ok (.aload_n 0, 1) := by decide +kernel
theorem dX13_excess_2 : decode cX13_excess 2 = .ok (.iload_n 1, 1) := by decide +kernel
theorem dX13_excess_3 : decode cX13_excess 3 = .ok (.invokevirtual 100, 3) := by decide +kernel
theorem dX13_excess_6 : decode cX13_excess 6 = .ok (.invokevirtual 107, 3) := by decide +kernel
theorem dX13_excess_9 : decode cX13_excess 9 = .ok (.ifCond .eq 11, 3) := by decide +kernel
theorem dX13_excess_12 : decode cX13_excess 12 = .ok (.aload_n 0, 1) := by decide +kernel
theorem dX13_excess_13 : decode cX13_excess 13 = .ok (.iload_n 1, 1) := by decide +kernel
theorem dX13_excess_14 : decode cX13_excess 14 = .ok (.invokevirtual 117, 3) := by decide +kernel
theorem dX13_excess_17 : decode cX13_excess 17 = .ok (.goto 4, 3) := by decide +kernel
theorem dX13_excess_20 : decode cX13_excess 20 = .ok (.iconst 0, 1) := by decide +kernel
theorem dX13_excess_21 : decode cX13_excess 21 = .ok (.ireturn, 1) := by decide +kernel
theorem dX13_draws_0 : decode cX13_draws 0 = .ok (.aload_n 0, 1) := by decide +kernel
theorem dX13_draws_1 : decode cX13_draws 1 = .ok (.aload_n 0, 1) := by decide +kernel
theorem dX13_draws_2 : decode cX13_draws 2 = .ok (.getfield 141, 3) := by decide +kernel
theorem dX13_draws_5 : decode cX13_draws 5 = .ok (.bipush 109, 2) := by decide +kernel
theorem dX13_draws_7 : decode cX13_draws 7 = .ok (.imul, 1) := by decide +kernel
theorem dX13_draws_8 : decode cX13_draws 8 = .ok (.bipush 89, 2) := by decide +kernel
theorem dX13_draws_10 : decode cX13_draws 10 = .ok (.iadd, 1) := by decide +kernel
theorem dX13_draws_11 : decode cX13_draws 11 = .ok (.sipush 1024, 3) := by decide +kernel
theorem dX13_draws_14 : decode cX13_draws 14 = .ok (.irem, 1) := by decide +kernel
theorem dX13_draws_15 : decode cX13_draws 15 = .ok (.putfield 141, 3) := by decide +kernel
theorem dX13_draws_18 : decode cX13_draws 18 = .ok (.aload_n 0, 1) := by decide +kernel
theorem dX13_draws_19 : decode cX13_draws 19 = .ok (.getfield 141, 3) := by decide +kernel
theorem dX13_draws_22 : decode cX13_draws 22 = .ok (.aload_n 0, 1) := by decide +kernel
theorem dX13_draws_23 : decode cX13_draws 23 = .ok (.getfield 9, 3) := by decide +kernel
theorem dX13_draws_26 : decode cX13_draws 26 = .ok (.iconst 0, 1) := by decide +kernel
theorem dX13_draws_27 : decode cX13_draws 27 = .ok (.iaload, 1) := by decide +kernel
theorem dX13_draws_28 : decode cX13_draws 28 = .ok (.irem, 1) := by decide +kernel
theorem dX13_draws_29 : decode cX13_draws 29 = .ok (.istore_n 2, 1) := by decide +kernel
theorem dX13_draws_30 : decode cX13_draws 30 = .ok (.iload_n 1, 1) := by decide +kernel
theorem dX13_draws_31 : decode cX13_draws 31 = .ok (.iload_n 2, 1) := by decide +kernel
theorem dX13_draws_32 : decode cX13_draws 32 = .ok (.ishr, 1) := by decide +kernel
theorem dX13_draws_33 : decode cX13_draws 33 = .ok (.iconst 1, 1) := by decide +kernel
theorem dX13_draws_34 : decode cX13_draws 34 = .ok (.iand, 1) := by decide +kernel
theorem dX13_draws_35 : decode cX13_draws 35 = .ok (.iconst 1, 1) := by decide +kernel
theorem dX13_draws_36 : decode cX13_draws 36 = .ok (.if_icmp .ne 17, 3) := by decide +kernel
theorem dX13_draws_39 : decode cX13_draws 39 = .ok (.iload_n 2, 1) := by decide +kernel
theorem dX13_draws_40 : decode cX13_draws 40 = .ok (.iconst 1, 1) := by decide +kernel
theorem dX13_draws_41 : decode cX13_draws 41 = .ok (.iadd, 1) := by decide +kernel
theorem dX13_draws_42 : decode cX13_draws 42 = .ok (.aload_n 0, 1) := by decide +kernel
theorem dX13_draws_43 : decode cX13_draws 43 = .ok (.getfield 9, 3) := by decide +kernel
theorem dX13_draws_46 : decode cX13_draws 46 = .ok (.iconst 0, 1) := by decide +kernel
theorem dX13_draws_47 : decode cX13_draws 47 = .ok (.iaload, 1) := by decide +kernel
theorem dX13_draws_48 : decode cX13_draws 48 = .ok (.irem, 1) := by decide +kernel
theorem dX13_draws_49 : decode cX13_draws 49 = .ok (.istore_n 2, 1) := by decide +kernel
theorem dX13_draws_50 : decode cX13_draws 50 = .ok (.goto (-20), 3) := by decide +kernel
theorem dX13_draws_53 : decode cX13_draws 53 = .ok (.iload_n 2, 1) := by decide +kernel
theorem dX13_draws_54 : decode cX13_draws 54 = .ok (.ireturn, 1) := by decide +kernel
theorem dX13_doAudit_0 : decode cX13_doAudit 0 = .ok (.iload_n 1, 1) := by decide +kernel
theorem dX13_doAudit_1 : decode cX13_doAudit 1 = .ok (.iconst 1, 1) := by decide +kernel
theorem dX13_doAudit_2 : decode cX13_doAudit 2 = .ok (.bipush 7, 2) := by decide +kernel
theorem dX13_doAudit_4 : decode cX13_doAudit 4 = .ok (.invokestatic 70, 3) := by decide +kernel
theorem dX13_doAudit_7 : decode cX13_doAudit 7 = .ok (.ifCond .ne 9, 3) := by decide +kernel
theorem dX13_doAudit_10 : decode cX13_doAudit 10 = .ok (.aload_n 0, 1) := by decide +kernel
theorem dX13_doAudit_11 : decode cX13_doAudit 11 = .ok (.iconst 1, 1) := by decide +kernel
theorem dX13_doAudit_12 : decode cX13_doAudit 12 = .ok (.invokevirtual 66, 3) := by decide +kernel
theorem dX13_doAudit_15 : decode cX13_doAudit 15 = .ok (.ireturn, 1) := by decide +kernel
theorem dX13_doAudit_16 : decode cX13_doAudit 16 = .ok (.iload_n 1, 1) := by decide +kernel
theorem dX13_doAudit_17 : decode cX13_doAudit 17 = .ok (.aload_n 0, 1) := by decide +kernel
theorem dX13_doAudit_18 : decode cX13_doAudit 18 = .ok (.getfield 9, 3) := by decide +kernel
theorem dX13_doAudit_21 : decode cX13_doAudit 21 = .ok (.iconst 0, 1) := by decide +kernel
theorem dX13_doAudit_22 : decode cX13_doAudit 22 = .ok (.iaload, 1) := by decide +kernel
theorem dX13_doAudit_23 : decode cX13_doAudit 23 = .ok (.if_icmp .le 17, 3) := by decide +kernel
theorem dX13_doAudit_26 : decode cX13_doAudit 26 = .ok (.aload_n 0, 1) := by decide +kernel
theorem dX13_doAudit_27 : decode cX13_doAudit 27 = .ok (.iconst 2, 1) := by decide +kernel
theorem dX13_doAudit_28 : decode cX13_doAudit 28 = .ok (.bipush 6, 2) := by decide +kernel
theorem dX13_doAudit_30 : decode cX13_doAudit 30 = .ok (.aload_n 0, 1) := by decide +kernel
theorem dX13_doAudit_31 : decode cX13_doAudit 31 = .ok (.getfield 9, 3) := by decide +kernel
theorem dX13_doAudit_34 : decode cX13_doAudit 34 = .ok (.iconst 0, 1) := by decide +kernel
theorem dX13_doAudit_35 : decode cX13_doAudit 35 = .ok (.iaload, 1) := by decide +kernel
theorem dX13_doAudit_36 : decode cX13_doAudit 36 = .ok (.invokevirtual 83, 3) := by decide +kernel
theorem dX13_doAudit_39 : decode cX13_doAudit 39 = .ok (.ireturn, 1) := by decide +kernel
theorem dX13_doAudit_40 : decode cX13_doAudit 40 = .ok (.aload_n 0, 1) := by decide +kernel
theorem dX13_doAudit_41 : decode cX13_doAudit 41 = .ok (.aload_n 0, 1) := by decide +kernel
theorem dX13_doAudit_42 : decode cX13_doAudit 42 = .ok (.getfield 9, 3) := by decide +kernel
theorem dX13_doAudit_45 : decode cX13_doAudit 45 = .ok (.iconst 2, 1) := by decide +kernel
theorem dX13_doAudit_46 : decode cX13_doAudit 46 = .ok (.iaload, 1) := by decide +kernel
theorem dX13_doAudit_47 : decode cX13_doAudit 47 = .ok (.putfield 141, 3) := by decide +kernel
theorem dX13_doAudit_50 : decode cX13_doAudit 50 = .ok (.iconst 0, 1) := by decide +kernel
theorem dX13_doAudit_51 : decode cX13_doAudit 51 = .ok (.istore_n 2, 1) := by decide +kernel
theorem dX13_doAudit_52 : decode cX13_doAudit 52 = .ok (.iconst 0, 1) := by decide +kernel
theorem dX13_doAudit_53 : decode cX13_doAudit 53 = .ok (.istore_n 3, 1) := by decide +kernel
theorem dX13_doAudit_54 : decode cX13_doAudit 54 = .ok (.iconst 0, 1) := by decide +kernel
theorem dX13_doAudit_55 : decode cX13_doAudit 55 = .ok (.istore 4, 2) := by decide +kernel
theorem dX13_doAudit_57 : decode cX13_doAudit 57 = .ok (.iload 4, 2) := by decide +kernel
theorem dX13_doAudit_59 : decode cX13_doAudit 59 = .ok (.iload_n 1, 1) := by decide +kernel
theorem dX13_doAudit_60 : decode cX13_doAudit 60 = .ok (.if_icmp .ge 76, 3) := by decide +kernel
theorem dX13_doAudit_63 : decode cX13_doAudit 63 = .ok (.aload_n 0, 1) := by decide +kernel
theorem dX13_doAudit_64 : decode cX13_doAudit 64 = .ok (.iload_n 2, 1) := by decide +kernel
theorem dX13_doAudit_65 : decode cX13_doAudit 65 = .ok (.invokevirtual 144, 3) := by decide +kernel
theorem dX13_doAudit_68 : decode cX13_doAudit 68 = .ok (.istore 5, 2) := by decide +kernel
theorem dX13_doAudit_70 : decode cX13_doAudit 70 = .ok (.iload_n 2, 1) := by decide +kernel
theorem dX13_doAudit_71 : decode cX13_doAudit 71 = .ok (.iconst 1, 1) := by decide +kernel
theorem dX13_doAudit_72 : decode cX13_doAudit 72 = .ok (.iload 5, 2) := by decide +kernel
theorem dX13_doAudit_74 : decode cX13_doAudit 74 = .ok (.ishl, 1) := by decide +kernel
theorem dX13_doAudit_75 : decode cX13_doAudit 75 = .ok (.ior, 1) := by decide +kernel
theorem dX13_doAudit_76 : decode cX13_doAudit 76 = .ok (.istore_n 2, 1) := by decide +kernel
theorem dX13_doAudit_77 : decode cX13_doAudit 77 = .ok (.aload_n 0, 1) := by decide +kernel
theorem dX13_doAudit_78 : decode cX13_doAudit 78 = .ok (.iload 5, 2) := by decide +kernel
theorem dX13_doAudit_80 : decode cX13_doAudit 80 = .ok (.invokevirtual 117, 3) := by decide +kernel
theorem dX13_doAudit_83 : decode cX13_doAudit 83 = .ok (.ifCond .le 47, 3) := by decide +kernel
theorem dX13_doAudit_86 : decode cX13_doAudit 86 = .ok (.aload_n 0, 1) := by decide +kernel
theorem dX13_doAudit_87 : decode cX13_doAudit 87 = .ok (.iload 5, 2) := by decide +kernel
theorem dX13_doAudit_89 : decode cX13_doAudit 89 = .ok (.invokevirtual 114, 3) := by decide +kernel
theorem dX13_doAudit_92 : decode cX13_doAudit 92 = .ok (.ifCond .ne 38, 3) := by decide +kernel
theorem dX13_doAudit_95 : decode cX13_doAudit 95 = .ok (.aload_n 0, 1) := by decide +kernel
theorem dX13_doAudit_96 : decode cX13_doAudit 96 = .ok (.iload 5, 2) := by decide +kernel
theorem dX13_doAudit_98 : decode cX13_doAudit 98 = .ok (.iconst 4, 1) := by decide +kernel
theorem dX13_doAudit_99 : decode cX13_doAudit 99 = .ok (.aload_n 0, 1) := by decide +kernel
theorem dX13_doAudit_100 : decode cX13_doAudit 100 = .ok (.iload 5, 2) := by decide +kernel
theorem dX13_doAudit_102 : decode cX13_doAudit 102 = .ok (.iconst 4, 1) := by decide +kernel
theorem dX13_doAudit_103 : decode cX13_doAudit 103 = .ok (.invokevirtual 74, 3) := by decide +kernel
theorem dX13_doAudit_106 : decode cX13_doAudit 106 = .ok (.iconst 2, 1) := by decide +kernel
theorem dX13_doAudit_107 : decode cX13_doAudit 107 = .ok (.if_icmp .ne 8, 3) := by decide +kernel
theorem dX13_doAudit_110 : decode cX13_doAudit 110 = .ok (.bipush (-2), 2) := by decide +kernel
theorem dX13_doAudit_112 : decode cX13_doAudit 112 = .ok (.goto 12, 3) := by decide +kernel
theorem dX13_doAudit_115 : decode cX13_doAudit 115 = .ok (.aload_n 0, 1) := by decide +kernel
theorem dX13_doAudit_116 : decode cX13_doAudit 116 = .ok (.iload 5, 2) := by decide +kernel
theorem dX13_doAudit_118 : decode cX13_doAudit 118 = .ok (.iconst 4, 1) := by decide +kernel
theorem dX13_doAudit_119 : decode cX13_doAudit 119 = .ok (.invokevirtual 74, 3) := by decide +kernel
theorem dX13_doAudit_122 : decode cX13_doAudit 122 = .ok (.iconst 1, 1) := by decide +kernel
theorem dX13_doAudit_123 : decode cX13_doAudit 123 = .ok (.iadd, 1) := by decide +kernel
theorem dX13_doAudit_124 : decode cX13_doAudit 124 = .ok (.invokevirtual 87, 3) := by decide +kernel
theorem dX13_doAudit_127 : decode cX13_doAudit 127 = .ok (.iinc 3 1, 3) := by decide +kernel
theorem dX13_doAudit_130 : decode cX13_doAudit 130 = .ok (.iinc 4 1, 3) := by decide +kernel
theorem dX13_doAudit_133 : decode cX13_doAudit 133 = .ok (.goto (-76), 3) := by decide +kernel
theorem dX13_doAudit_136 : decode cX13_doAudit 136 = .ok (.aload_n 0, 1) := by decide +kernel
theorem dX13_doAudit_137 : decode cX13_doAudit 137 = .ok (.getfield 9, 3) := by decide +kernel
theorem dX13_doAudit_140 : decode cX13_doAudit 140 = .ok (.iconst 2, 1) := by decide +kernel
theorem dX13_doAudit_141 : decode cX13_doAudit 141 = .ok (.aload_n 0, 1) := by decide +kernel
theorem dX13_doAudit_142 : decode cX13_doAudit 142 = .ok (.getfield 141, 3) := by decide +kernel
theorem dX13_doAudit_145 : decode cX13_doAudit 145 = .ok (.iastore, 1) := by decide +kernel
theorem dX13_doAudit_146 : decode cX13_doAudit 146 = .ok (.iload_n 3, 1) := by decide +kernel
theorem dX13_doAudit_147 : decode cX13_doAudit 147 = .ok (.ireturn, 1) := by decide +kernel
theorem dX13_audit_0 : decode cX13_audit 0 = .ok (.aload_n 0, 1) := by decide +kernel
theorem dX13_audit_1 : decode cX13_audit 1 = .ok (.invokevirtual 91, 3) := by decide +kernel
theorem dX13_audit_4 : decode cX13_audit 4 = .ok (.aload_n 0, 1) := by decide +kernel
theorem dX13_audit_5 : decode cX13_audit 5 = .ok (.aload_n 0, 1) := by decide +kernel
theorem dX13_audit_6 : decode cX13_audit 6 = .ok (.iload_n 1, 1) := by decide +kernel
theorem dX13_audit_7 : decode cX13_audit 7 = .ok (.invokevirtual 147, 3) := by decide +kernel
theorem dX13_audit_10 : decode cX13_audit 10 = .ok (.iconst 0, 1) := by decide +kernel
theorem dX13_audit_11 : decode cX13_audit 11 = .ok (.invokevirtual 97, 3) := by decide +kernel
theorem dX13_audit_14 : decode cX13_audit 14 = .ok (.ireturn, 1) := by decide +kernel
theorem dX13_doSetSeed_0 : decode cX13_doSetSeed 0 = .ok (.iload_n 1, 1) := by decide +kernel
theorem dX13_doSetSeed_1 : decode cX13_doSetSeed 1 = .ok (.iconst 0, 1) := by decide +kernel
theorem dX13_doSetSeed_2 : decode cX13_doSetSeed 2 = .ok (.sipush 1023, 3) := by decide +kernel
theorem dX13_doSetSeed_5 : decode cX13_doSetSeed 5 = .ok (.invokestatic 70, 3) := by decide +kernel
theorem dX13_doSetSeed_8 : decode cX13_doSetSeed 8 = .ok (.ifCond .ne 9, 3) := by decide +kernel
theorem dX13_doSetSeed_11 : decode cX13_doSetSeed 11 = .ok (.aload_n 0, 1) := by decide +kernel
theorem dX13_doSetSeed_12 : decode cX13_doSetSeed 12 = .ok (.iconst 1, 1) := by decide +kernel
theorem dX13_doSetSeed_13 : decode cX13_doSetSeed 13 = .ok (.invokevirtual 66, 3) := by decide +kernel
theorem dX13_doSetSeed_16 : decode cX13_doSetSeed 16 = .ok (.ireturn, 1) := by decide +kernel
theorem dX13_doSetSeed_17 : decode cX13_doSetSeed 17 = .ok (.aload_n 0, 1) := by decide +kernel
theorem dX13_doSetSeed_18 : decode cX13_doSetSeed 18 = .ok (.getfield 9, 3) := by decide +kernel
theorem dX13_doSetSeed_21 : decode cX13_doSetSeed 21 = .ok (.iconst 2, 1) := by decide +kernel
theorem dX13_doSetSeed_22 : decode cX13_doSetSeed 22 = .ok (.iaload, 1) := by decide +kernel
theorem dX13_doSetSeed_23 : decode cX13_doSetSeed 23 = .ok (.istore_n 2, 1) := by decide +kernel
theorem dX13_doSetSeed_24 : decode cX13_doSetSeed 24 = .ok (.aload_n 0, 1) := by decide +kernel
theorem dX13_doSetSeed_25 : decode cX13_doSetSeed 25 = .ok (.getfield 9, 3) := by decide +kernel
theorem dX13_doSetSeed_28 : decode cX13_doSetSeed 28 = .ok (.iconst 2, 1) := by decide +kernel
theorem dX13_doSetSeed_29 : decode cX13_doSetSeed 29 = .ok (.iload_n 1, 1) := by decide +kernel
theorem dX13_doSetSeed_30 : decode cX13_doSetSeed 30 = .ok (.iastore, 1) := by decide +kernel
theorem dX13_doSetSeed_31 : decode cX13_doSetSeed 31 = .ok (.iload_n 2, 1) := by decide +kernel
theorem dX13_doSetSeed_32 : decode cX13_doSetSeed 32 = .ok (.ireturn, 1) := by decide +kernel
theorem dX13_setSeed_0 : decode cX13_setSeed 0 = .ok (.aload_n 0, 1) := by decide +kernel
theorem dX13_setSeed_1 : decode cX13_setSeed 1 = .ok (.invokevirtual 91, 3) := by decide +kernel
theorem dX13_setSeed_4 : decode cX13_setSeed 4 = .ok (.aload_n 0, 1) := by decide +kernel
theorem dX13_setSeed_5 : decode cX13_setSeed 5 = .ok (.aload_n 0, 1) := by decide +kernel
theorem dX13_setSeed_6 : decode cX13_setSeed 6 = .ok (.iload_n 1, 1) := by decide +kernel
theorem dX13_setSeed_7 : decode cX13_setSeed 7 = .ok (.invokevirtual 150, 3) := by decide +kernel
theorem dX13_setSeed_10 : decode cX13_setSeed 10 = .ok (.iconst 0, 1) := by decide +kernel
theorem dX13_setSeed_11 : decode cX13_setSeed 11 = .ok (.invokevirtual 97, 3) := by decide +kernel
theorem dX13_setSeed_14 : decode cX13_setSeed 14 = .ok (.ireturn, 1) := by decide +kernel
theorem dX13_drawnMember_0 : decode cX13_drawnMember 0 = .ok (.aload_n 0, 1) := by decide +kernel
theorem dX13_drawnMember_1 : decode cX13_drawnMember 1 = .ok (.aload_n 0, 1) := by decide +kernel
theorem dX13_drawnMember_2 : decode cX13_drawnMember 2 = .ok (.getfield 9, 3) := by decide +kernel
theorem dX13_drawnMember_5 : decode cX13_drawnMember 5 = .ok (.iconst 2, 1) := by decide +kernel
theorem dX13_drawnMember_6 : decode cX13_drawnMember 6 = .ok (.iaload, 1) := by decide +kernel
theorem dX13_drawnMember_7 : decode cX13_drawnMember 7 = .ok (.putfield 141, 3) := by decide +kernel
theorem dX13_drawnMember_10 : decode cX13_drawnMember 10 = .ok (.iconst 0, 1) := by decide +kernel
theorem dX13_drawnMember_11 : decode cX13_drawnMember 11 = .ok (.istore_n 2, 1) := by decide +kernel
theorem dX13_drawnMember_12 : decode cX13_drawnMember 12 = .ok (.iconst 0, 1) := by decide +kernel
theorem dX13_drawnMember_13 : decode cX13_drawnMember 13 = .ok (.istore_n 3, 1) := by decide +kernel
theorem dX13_drawnMember_14 : decode cX13_drawnMember 14 = .ok (.aload_n 0, 1) := by decide +kernel
theorem dX13_drawnMember_15 : decode cX13_drawnMember 15 = .ok (.aload_n 0, 1) := by decide +kernel
theorem dX13_drawnMember_16 : decode cX13_drawnMember 16 = .ok (.iload_n 1, 1) := by decide +kernel
theorem dX13_drawnMember_17 : decode cX13_drawnMember 17 = .ok (.invokevirtual 100, 3) := by decide +kernel
theorem dX13_drawnMember_20 : decode cX13_drawnMember 20 = .ok (.invokevirtual 107, 3) := by decide +kernel
theorem dX13_drawnMember_23 : decode cX13_drawnMember 23 = .ok (.istore 4, 2) := by decide +kernel
theorem dX13_drawnMember_25 : decode cX13_drawnMember 25 = .ok (.iconst 0, 1) := by decide +kernel
theorem dX13_drawnMember_26 : decode cX13_drawnMember 26 = .ok (.istore 5, 2) := by decide +kernel
theorem dX13_drawnMember_28 : decode cX13_drawnMember 28 = .ok (.iload 5, 2) := by decide +kernel
theorem dX13_drawnMember_30 : decode cX13_drawnMember 30 = .ok (.iload_n 1, 1) := by decide +kernel
theorem dX13_drawnMember_31 : decode cX13_drawnMember 31 = .ok (.if_icmp .gt 26, 3) := by decide +kernel
theorem dX13_drawnMember_34 : decode cX13_drawnMember 34 = .ok (.iload 4, 2) := by decide +kernel
theorem dX13_drawnMember_36 : decode cX13_drawnMember 36 = .ok (.ifCond .eq 21, 3) := by decide +kernel
theorem dX13_drawnMember_39 : decode cX13_drawnMember 39 = .ok (.aload_n 0, 1) := by decide +kernel
theorem dX13_drawnMember_40 : decode cX13_drawnMember 40 = .ok (.iload_n 2, 1) := by decide +kernel
theorem dX13_drawnMember_41 : decode cX13_drawnMember 41 = .ok (.invokevirtual 144, 3) := by decide +kernel
theorem dX13_drawnMember_44 : decode cX13_drawnMember 44 = .ok (.istore_n 3, 1) := by decide +kernel
theorem dX13_drawnMember_45 : decode cX13_drawnMember 45 = .ok (.iload_n 2, 1) := by decide +kernel
theorem dX13_drawnMember_46 : decode cX13_drawnMember 46 = .ok (.iconst 1, 1) := by decide +kernel
theorem dX13_drawnMember_47 : decode cX13_drawnMember 47 = .ok (.iload_n 3, 1) := by decide +kernel
theorem dX13_drawnMember_48 : decode cX13_drawnMember 48 = .ok (.ishl, 1) := by decide +kernel
theorem dX13_drawnMember_49 : decode cX13_drawnMember 49 = .ok (.ior, 1) := by decide +kernel
theorem dX13_drawnMember_50 : decode cX13_drawnMember 50 = .ok (.istore_n 2, 1) := by decide +kernel
theorem dX13_drawnMember_51 : decode cX13_drawnMember 51 = .ok (.iinc 5 1, 3) := by decide +kernel
theorem dX13_drawnMember_54 : decode cX13_drawnMember 54 = .ok (.goto (-26), 3) := by decide +kernel
theorem dX13_drawnMember_57 : decode cX13_drawnMember 57 = .ok (.iload_n 3, 1) := by decide +kernel
theorem dX13_drawnMember_58 : decode cX13_drawnMember 58 = .ok (.ireturn, 1) := by decide +kernel
theorem dX13_setsLink_0 : decode cX13_setsLink 0 = .ok (.aload_n 0, 1) := by decide +kernel
theorem dX13_setsLink_1 : decode cX13_setsLink 1 = .ok (.getfield 9, 3) := by decide +kernel
theorem dX13_setsLink_4 : decode cX13_setsLink 4 = .ok (.bipush 42, 2) := by decide +kernel
theorem dX13_setsLink_6 : decode cX13_setsLink 6 = .ok (.bipush 7, 2) := by decide +kernel
theorem dX13_setsLink_8 : decode cX13_setsLink 8 = .ok (.iload_n 1, 1) := by decide +kernel
theorem dX13_setsLink_9 : decode cX13_setsLink 9 = .ok (.imul, 1) := by decide +kernel
theorem dX13_setsLink_10 : decode cX13_setsLink 10 = .ok (.iadd, 1) := by decide +kernel
theorem dX13_setsLink_11 : decode cX13_setsLink 11 = .ok (.iload_n 2, 1) := by decide +kernel
theorem dX13_setsLink_12 : decode cX13_setsLink 12 = .ok (.iadd, 1) := by decide +kernel
theorem dX13_setsLink_13 : decode cX13_setsLink 13 = .ok (.iload_n 3, 1) := by decide +kernel
theorem dX13_setsLink_14 : decode cX13_setsLink 14 = .ok (.iastore, 1) := by decide +kernel
theorem dX13_setsLink_15 : decode cX13_setsLink 15 = .ok (.aload_n 0, 1) := by decide +kernel
theorem dX13_setsLink_16 : decode cX13_setsLink 16 = .ok (.getfield 9, 3) := by decide +kernel
theorem dX13_setsLink_19 : decode cX13_setsLink 19 = .ok (.bipush 42, 2) := by decide +kernel
theorem dX13_setsLink_21 : decode cX13_setsLink 21 = .ok (.bipush 7, 2) := by decide +kernel
theorem dX13_setsLink_23 : decode cX13_setsLink 23 = .ok (.iload_n 2, 1) := by decide +kernel
theorem dX13_setsLink_24 : decode cX13_setsLink 24 = .ok (.imul, 1) := by decide +kernel
theorem dX13_setsLink_25 : decode cX13_setsLink 25 = .ok (.iadd, 1) := by decide +kernel
theorem dX13_setsLink_26 : decode cX13_setsLink 26 = .ok (.iload_n 1, 1) := by decide +kernel
theorem dX13_setsLink_27 : decode cX13_setsLink 27 = .ok (.iadd, 1) := by decide +kernel
theorem dX13_setsLink_28 : decode cX13_setsLink 28 = .ok (.iload_n 3, 1) := by decide +kernel
theorem dX13_setsLink_29 : decode cX13_setsLink 29 = .ok (.iastore, 1) := by decide +kernel
theorem dX13_setsLink_30 : decode cX13_setsLink 30 = .ok (.aload_n 0, 1) := by decide +kernel
theorem dX13_setsLink_31 : decode cX13_setsLink 31 = .ok (.invokevirtual 153, 3) := by decide +kernel
theorem dX13_setsLink_34 : decode cX13_setsLink 34 = .ok (.ireturn, 1) := by decide +kernel
theorem dX13_linked_0 : decode cX13_linked 0 = .ok (.aload_n 0, 1) := by decide +kernel
theorem dX13_linked_1 : decode cX13_linked 1 = .ok (.getfield 9, 3) := by decide +kernel
theorem dX13_linked_4 : decode cX13_linked 4 = .ok (.bipush 42, 2) := by decide +kernel
theorem dX13_linked_6 : decode cX13_linked 6 = .ok (.bipush 7, 2) := by decide +kernel
theorem dX13_linked_8 : decode cX13_linked 8 = .ok (.iload_n 1, 1) := by decide +kernel
theorem dX13_linked_9 : decode cX13_linked 9 = .ok (.imul, 1) := by decide +kernel
theorem dX13_linked_10 : decode cX13_linked 10 = .ok (.iadd, 1) := by decide +kernel
theorem dX13_linked_11 : decode cX13_linked 11 = .ok (.iload_n 2, 1) := by decide +kernel
theorem dX13_linked_12 : decode cX13_linked 12 = .ok (.iadd, 1) := by decide +kernel
theorem dX13_linked_13 : decode cX13_linked 13 = .ok (.iaload, 1) := by decide +kernel
theorem dX13_linked_14 : decode cX13_linked 14 = .ok (.iconst 1, 1) := by decide +kernel
theorem dX13_linked_15 : decode cX13_linked 15 = .ok (.if_icmp .ne 7, 3) := by decide +kernel
theorem dX13_linked_18 : decode cX13_linked 18 = .ok (.iconst 1, 1) := by decide +kernel
theorem dX13_linked_19 : decode cX13_linked 19 = .ok (.goto 4, 3) := by decide +kernel
theorem dX13_linked_22 : decode cX13_linked 22 = .ok (.iconst 0, 1) := by decide +kernel
theorem dX13_linked_23 : decode cX13_linked 23 = .ok (.ireturn, 1) := by decide +kernel
theorem dX13_links_0 : decode cX13_links 0 = .ok (.iconst 0, 1) := by decide +kernel
theorem dX13_links_1 : decode cX13_links 1 = .ok (.istore_n 1, 1) := by decide +kernel
theorem dX13_links_2 : decode cX13_links 2 = .ok (.iconst 0, 1) := by decide +kernel
theorem dX13_links_3 : decode cX13_links 3 = .ok (.istore_n 2, 1) := by decide +kernel
theorem dX13_links_4 : decode cX13_links 4 = .ok (.iload_n 2, 1) := by decide +kernel
theorem dX13_links_5 : decode cX13_links 5 = .ok (.bipush 49, 2) := by decide +kernel
theorem dX13_links_7 : decode cX13_links 7 = .ok (.if_icmp .ge 21, 3) := by decide +kernel
theorem dX13_links_10 : decode cX13_links 10 = .ok (.iload_n 1, 1) := by decide +kernel
theorem dX13_links_11 : decode cX13_links 11 = .ok (.aload_n 0, 1) := by decide +kernel
theorem dX13_links_12 : decode cX13_links 12 = .ok (.getfield 9, 3) := by decide +kernel
theorem dX13_links_15 : decode cX13_links 15 = .ok (.bipush 42, 2) := by decide +kernel
theorem dX13_links_17 : decode cX13_links 17 = .ok (.iload_n 2, 1) := by decide +kernel
theorem dX13_links_18 : decode cX13_links 18 = .ok (.iadd, 1) := by decide +kernel
theorem dX13_links_19 : decode cX13_links 19 = .ok (.iaload, 1) := by decide +kernel
theorem dX13_links_20 : decode cX13_links 20 = .ok (.iadd, 1) := by decide +kernel
theorem dX13_links_21 : decode cX13_links 21 = .ok (.istore_n 1, 1) := by decide +kernel
theorem dX13_links_22 : decode cX13_links 22 = .ok (.iinc 2 1, 3) := by decide +kernel
theorem dX13_links_25 : decode cX13_links 25 = .ok (.goto (-21), 3) := by decide +kernel
theorem dX13_links_28 : decode cX13_links 28 = .ok (.iload_n 1, 1) := by decide +kernel
theorem dX13_links_29 : decode cX13_links 29 = .ok (.iconst 2, 1) := by decide +kernel
theorem dX13_links_30 : decode cX13_links 30 = .ok (.idiv, 1) := by decide +kernel
theorem dX13_links_31 : decode cX13_links 31 = .ok (.ireturn, 1) := by decide +kernel
theorem dX13_doLink_0 : decode cX13_doLink 0 = .ok (.aload_n 0, 1) := by decide +kernel
theorem dX13_doLink_1 : decode cX13_doLink 1 = .ok (.iload_n 1, 1) := by decide +kernel
theorem dX13_doLink_2 : decode cX13_doLink 2 = .ok (.invokevirtual 100, 3) := by decide +kernel
theorem dX13_doLink_5 : decode cX13_doLink 5 = .ok (.ifCond .eq 11, 3) := by decide +kernel
theorem dX13_doLink_8 : decode cX13_doLink 8 = .ok (.aload_n 0, 1) := by decide +kernel
theorem dX13_doLink_9 : decode cX13_doLink 9 = .ok (.iload_n 2, 1) := by decide +kernel
theorem dX13_doLink_10 : decode cX13_doLink 10 = .ok (.invokevirtual 100, 3) := by decide +kernel
theorem dX13_doLink_13 : decode cX13_doLink 13 = .ok (.ifCond .ne 9, 3) := by decide +kernel
theorem dX13_doLink_16 : decode cX13_doLink 16 = .ok (.aload_n 0, 1) := by decide +kernel
theorem dX13_doLink_17 : decode cX13_doLink 17 = .ok (.iconst 1, 1) := by decide +kernel
theorem dX13_doLink_18 : decode cX13_doLink 18 = .ok (.invokevirtual 66, 3) := by decide +kernel
theorem dX13_doLink_21 : decode cX13_doLink 21 = .ok (.ireturn, 1) := by decide +kernel
theorem dX13_doLink_22 : decode cX13_doLink 22 = .ok (.iload_n 1, 1) := by decide +kernel
theorem dX13_doLink_23 : decode cX13_doLink 23 = .ok (.iload_n 2, 1) := by decide +kernel
theorem dX13_doLink_24 : decode cX13_doLink 24 = .ok (.if_icmp .ne 9, 3) := by decide +kernel
theorem dX13_doLink_27 : decode cX13_doLink 27 = .ok (.aload_n 0, 1) := by decide +kernel
theorem dX13_doLink_28 : decode cX13_doLink 28 = .ok (.iconst 2, 1) := by decide +kernel
theorem dX13_doLink_29 : decode cX13_doLink 29 = .ok (.invokevirtual 66, 3) := by decide +kernel
theorem dX13_doLink_32 : decode cX13_doLink 32 = .ok (.ireturn, 1) := by decide +kernel
theorem dX13_doLink_33 : decode cX13_doLink 33 = .ok (.aload_n 0, 1) := by decide +kernel
theorem dX13_doLink_34 : decode cX13_doLink 34 = .ok (.iload_n 1, 1) := by decide +kernel
theorem dX13_doLink_35 : decode cX13_doLink 35 = .ok (.iload_n 2, 1) := by decide +kernel
theorem dX13_doLink_36 : decode cX13_doLink 36 = .ok (.invokevirtual 156, 3) := by decide +kernel
theorem dX13_doLink_39 : decode cX13_doLink 39 = .ok (.iload_n 3, 1) := by decide +kernel
theorem dX13_doLink_40 : decode cX13_doLink 40 = .ok (.iconst 1, 1) := by decide +kernel
theorem dX13_doLink_41 : decode cX13_doLink 41 = .ok (.if_icmp .ne 7, 3) := by decide +kernel
theorem dX13_doLink_44 : decode cX13_doLink 44 = .ok (.iconst 1, 1) := by decide +kernel
theorem dX13_doLink_45 : decode cX13_doLink 45 = .ok (.goto 4, 3) := by decide +kernel
theorem dX13_doLink_48 : decode cX13_doLink 48 = .ok (.iconst 0, 1) := by decide +kernel
theorem dX13_doLink_49 : decode cX13_doLink 49 = .ok (.if_icmp .ne 14, 3) := by decide +kernel
theorem dX13_doLink_52 : decode cX13_doLink 52 = .ok (.aload_n 0, 1) := by decide +kernel
theorem dX13_doLink_53 : decode cX13_doLink 53 = .ok (.iconst 3, 1) := by decide +kernel
theorem dX13_doLink_54 : decode cX13_doLink 54 = .ok (.iconst 4, 1) := by decide +kernel
theorem dX13_doLink_55 : decode cX13_doLink 55 = .ok (.aload_n 0, 1) := by decide +kernel
theorem dX13_doLink_56 : decode cX13_doLink 56 = .ok (.invokevirtual 153, 3) := by decide +kernel
theorem dX13_doLink_59 : decode cX13_doLink 59 = .ok (.invokevirtual 83, 3) := by decide +kernel
theorem dX13_doLink_62 : decode cX13_doLink 62 = .ok (.ireturn, 1) := by decide +kernel
theorem dX13_doLink_63 : decode cX13_doLink 63 = .ok (.iload_n 3, 1) := by decide +kernel
theorem dX13_doLink_64 : decode cX13_doLink 64 = .ok (.iconst 1, 1) := by decide +kernel
theorem dX13_doLink_65 : decode cX13_doLink 65 = .ok (.if_icmp .ne 21, 3) := by decide +kernel
theorem dX13_doLink_68 : decode cX13_doLink 68 = .ok (.aload_n 0, 1) := by decide +kernel
theorem dX13_doLink_69 : decode cX13_doLink 69 = .ok (.invokevirtual 153, 3) := by decide +kernel
theorem dX13_doLink_72 : decode cX13_doLink 72 = .ok (.bipush 12, 2) := by decide +kernel
theorem dX13_doLink_74 : decode cX13_doLink 74 = .ok (.if_icmp .ne 12, 3) := by decide +kernel
theorem dX13_doLink_77 : decode cX13_doLink 77 = .ok (.aload_n 0, 1) := by decide +kernel
theorem dX13_doLink_78 : decode cX13_doLink 78 = .ok (.iconst 3, 1) := by decide +kernel
theorem dX13_doLink_79 : decode cX13_doLink 79 = .ok (.iconst 1, 1) := by decide +kernel
theorem dX13_doLink_80 : decode cX13_doLink 80 = .ok (.bipush 12, 2) := by decide +kernel
theorem dX13_doLink_82 : decode cX13_doLink 82 = .ok (.invokevirtual 83, 3) := by decide +kernel
theorem dX13_doLink_85 : decode cX13_doLink 85 = .ok (.ireturn, 1) := by decide +kernel
theorem dX13_doLink_86 : decode cX13_doLink 86 = .ok (.aload_n 0, 1) := by decide +kernel
theorem dX13_doLink_87 : decode cX13_doLink 87 = .ok (.iload_n 1, 1) := by decide +kernel
theorem dX13_doLink_88 : decode cX13_doLink 88 = .ok (.iload_n 2, 1) := by decide +kernel
theorem dX13_doLink_89 : decode cX13_doLink 89 = .ok (.iload_n 3, 1) := by decide +kernel
theorem dX13_doLink_90 : decode cX13_doLink 90 = .ok (.invokevirtual 160, 3) := by decide +kernel
theorem dX13_doLink_93 : decode cX13_doLink 93 = .ok (.ireturn, 1) := by decide +kernel
theorem dX13_link_0 : decode cX13_link 0 = .ok (.aload_n 0, 1) := by decide +kernel
theorem dX13_link_1 : decode cX13_link 1 = .ok (.invokevirtual 91, 3) := by decide +kernel
theorem dX13_link_4 : decode cX13_link 4 = .ok (.aload_n 0, 1) := by decide +kernel
theorem dX13_link_5 : decode cX13_link 5 = .ok (.aload_n 0, 1) := by decide +kernel
theorem dX13_link_6 : decode cX13_link 6 = .ok (.iload_n 1, 1) := by decide +kernel
theorem dX13_link_7 : decode cX13_link 7 = .ok (.iload_n 2, 1) := by decide +kernel
theorem dX13_link_8 : decode cX13_link 8 = .ok (.iconst 1, 1) := by decide +kernel
theorem dX13_link_9 : decode cX13_link 9 = .ok (.invokevirtual 163, 3) := by decide +kernel
theorem dX13_link_12 : decode cX13_link 12 = .ok (.iconst 0, 1) := by decide +kernel
theorem dX13_link_13 : decode cX13_link 13 = .ok (.invokevirtual 97, 3) := by decide +kernel
theorem dX13_link_16 : decode cX13_link 16 = .ok (.ireturn, 1) := by decide +kernel
theorem dX13_unlink_0 : decode cX13_unlink 0 = .ok (.aload_n 0, 1) := by decide +kernel
theorem dX13_unlink_1 : decode cX13_unlink 1 = .ok (.invokevirtual 91, 3) := by decide +kernel
theorem dX13_unlink_4 : decode cX13_unlink 4 = .ok (.aload_n 0, 1) := by decide +kernel
theorem dX13_unlink_5 : decode cX13_unlink 5 = .ok (.aload_n 0, 1) := by decide +kernel
theorem dX13_unlink_6 : decode cX13_unlink 6 = .ok (.iload_n 1, 1) := by decide +kernel
theorem dX13_unlink_7 : decode cX13_unlink 7 = .ok (.iload_n 2, 1) := by decide +kernel
theorem dX13_unlink_8 : decode cX13_unlink 8 = .ok (.iconst 0, 1) := by decide +kernel
theorem dX13_unlink_9 : decode cX13_unlink 9 = .ok (.invokevirtual 163, 3) := by decide +kernel
theorem dX13_unlink_12 : decode cX13_unlink 12 = .ok (.iconst 0, 1) := by decide +kernel
theorem dX13_unlink_13 : decode cX13_unlink 13 = .ok (.invokevirtual 97, 3) := by decide +kernel
theorem dX13_unlink_16 : decode cX13_unlink 16 = .ok (.ireturn, 1) := by decide +kernel
theorem dX13_linkCount_0 : decode cX13_linkCount 0 = .ok (.aload_n 0, 1) := by decide +kernel
theorem dX13_linkCount_1 : decode cX13_linkCount 1 = .ok (.iconst 0, 1) := by decide +kernel
theorem dX13_linkCount_2 : decode cX13_linkCount 2 = .ok (.putfield 39, 3) := by decide +kernel
theorem dX13_linkCount_5 : decode cX13_linkCount 5 = .ok (.aload_n 0, 1) := by decide +kernel
theorem dX13_linkCount_6 : decode cX13_linkCount 6 = .ok (.invokevirtual 153, 3) := by decide +kernel
theorem dX13_linkCount_9 : decode cX13_linkCount 9 = .ok (.ireturn, 1) := by decide +kernel
theorem dX13_areLinked_0 : decode cX13_areLinked 0 = .ok (.aload_n 0, 1) := by decide +kernel
theorem dX13_areLinked_1 : decode cX13_areLinked 1 = .ok (.aload_n 0, 1) := by decide +kernel
theorem dX13_areLinked_2 : decode cX13_areLinked 2 = .ok (.iload_n 1, 1) := by decide +kernel
theorem dX13_areLinked_3 : decode cX13_areLinked 3 = .ok (.invokevirtual 100, 3) := by decide +kernel
theorem dX13_areLinked_6 : decode cX13_areLinked 6 = .ok (.ifCond .eq 15, 3) := by decide +kernel
theorem dX13_areLinked_9 : decode cX13_areLinked 9 = .ok (.aload_n 0, 1) := by decide +kernel
theorem dX13_areLinked_10 : decode cX13_areLinked 10 = .ok (.iload_n 2, 1) := by decide +kernel
theorem dX13_areLinked_11 : decode cX13_areLinked 11 = .ok (.invokevirtual 100, 3) := by decide +kernel
theorem dX13_areLinked_14 : decode cX13_areLinked 14 = .ok (.ifCond .eq 7, 3) := by decide +kernel
theorem dX13_areLinked_17 : decode cX13_areLinked 17 = .ok (.iconst 1, 1) := by decide +kernel
theorem dX13_areLinked_18 : decode cX13_areLinked 18 = .ok (.goto 4, 3) := by decide +kernel
theorem dX13_areLinked_21 : decode cX13_areLinked 21 = .ok (.iconst 0, 1) := by decide +kernel
theorem dX13_areLinked_22 : decode cX13_areLinked 22 = .ok (.invokevirtual 107, 3) := by decide +kernel
theorem dX13_areLinked_25 : decode cX13_areLinked 25 = .ok (.ifCond .eq 16, 3) := by decide +kernel
theorem dX13_areLinked_28 : decode cX13_areLinked 28 = .ok (.aload_n 0, 1) := by decide +kernel
theorem dX13_areLinked_29 : decode cX13_areLinked 29 = .ok (.iload_n 1, 1) := by decide +kernel
theorem dX13_areLinked_30 : decode cX13_areLinked 30 = .ok (.iload_n 2, 1) := by decide +kernel
theorem dX13_areLinked_31 : decode cX13_areLinked 31 = .ok (.invokevirtual 156, 3) := by decide +kernel
theorem dX13_areLinked_34 : decode cX13_areLinked 34 = .ok (.ifCond .eq 7, 3) := by decide +kernel
theorem dX13_areLinked_37 : decode cX13_areLinked 37 = .ok (.iconst 1, 1) := by decide +kernel
theorem dX13_areLinked_38 : decode cX13_areLinked 38 = .ok (.goto 4, 3) := by decide +kernel
theorem dX13_areLinked_41 : decode cX13_areLinked 41 = .ok (.iconst 0, 1) := by decide +kernel
theorem dX13_areLinked_42 : decode cX13_areLinked 42 = .ok (.ireturn, 1) := by decide +kernel
theorem dX13_bits_0 : decode cX13_bits 0 = .ok (.iconst 0, 1) := by decide +kernel
theorem dX13_bits_1 : decode cX13_bits 1 = .ok (.istore_n 1, 1) := by decide +kernel
theorem dX13_bits_2 : decode cX13_bits 2 = .ok (.iload_n 0, 1) := by decide +kernel
theorem dX13_bits_3 : decode cX13_bits 3 = .ok (.istore_n 2, 1) := by decide +kernel
theorem dX13_bits_4 : decode cX13_bits 4 = .ok (.iload_n 2, 1) := by decide +kernel
theorem dX13_bits_5 : decode cX13_bits 5 = .ok (.ifCond .le 16, 3) := by decide +kernel
theorem dX13_bits_8 : decode cX13_bits 8 = .ok (.iload_n 1, 1) := by decide +kernel
theorem dX13_bits_9 : decode cX13_bits 9 = .ok (.iload_n 2, 1) := by decide +kernel
theorem dX13_bits_10 : decode cX13_bits 10 = .ok (.iconst 1, 1) := by decide +kernel
theorem dX13_bits_11 : decode cX13_bits 11 = .ok (.iand, 1) := by decide +kernel
theorem dX13_bits_12 : decode cX13_bits 12 = .ok (.iadd, 1) := by decide +kernel
theorem dX13_bits_13 : decode cX13_bits 13 = .ok (.istore_n 1, 1) := by decide +kernel
theorem dX13_bits_14 : decode cX13_bits 14 = .ok (.iload_n 2, 1) := by decide +kernel
theorem dX13_bits_15 : decode cX13_bits 15 = .ok (.iconst 1, 1) := by decide +kernel
theorem dX13_bits_16 : decode cX13_bits 16 = .ok (.ishr, 1) := by decide +kernel
theorem dX13_bits_17 : decode cX13_bits 17 = .ok (.istore_n 2, 1) := by decide +kernel
theorem dX13_bits_18 : decode cX13_bits 18 = .ok (.goto (-14), 3) := by decide +kernel
theorem dX13_bits_21 : decode cX13_bits 21 = .ok (.iload_n 1, 1) := by decide +kernel
theorem dX13_bits_22 : decode cX13_bits 22 = .ok (.ireturn, 1) := by decide +kernel
theorem dX13_watches_0 : decode cX13_watches 0 = .ok (.iconst 1, 1) := by decide +kernel
theorem dX13_watches_1 : decode cX13_watches 1 = .ok (.istore_n 2, 1) := by decide +kernel
theorem dX13_watches_2 : decode cX13_watches 2 = .ok (.iconst 0, 1) := by decide +kernel
theorem dX13_watches_3 : decode cX13_watches 3 = .ok (.istore_n 3, 1) := by decide +kernel
theorem dX13_watches_4 : decode cX13_watches 4 = .ok (.iload_n 3, 1) := by decide +kernel
theorem dX13_watches_5 : decode cX13_watches 5 = .ok (.aload_n 0, 1) := by decide +kernel
theorem dX13_watches_6 : decode cX13_watches 6 = .ok (.getfield 9, 3) := by decide +kernel
theorem dX13_watches_9 : decode cX13_watches 9 = .ok (.iconst 0, 1) := by decide +kernel
theorem dX13_watches_10 : decode cX13_watches 10 = .ok (.iaload, 1) := by decide +kernel
theorem dX13_watches_11 : decode cX13_watches 11 = .ok (.if_icmp .ge 59, 3) := by decide +kernel
theorem dX13_watches_14 : decode cX13_watches 14 = .ok (.iconst 0, 1) := by decide +kernel
theorem dX13_watches_15 : decode cX13_watches 15 = .ok (.istore 4, 2) := by decide +kernel
theorem dX13_watches_17 : decode cX13_watches 17 = .ok (.iload 4, 2) := by decide +kernel
theorem dX13_watches_19 : decode cX13_watches 19 = .ok (.iload_n 3, 1) := by decide +kernel
theorem dX13_watches_20 : decode cX13_watches 20 = .ok (.if_icmp .ge 44, 3) := by decide +kernel
theorem dX13_watches_23 : decode cX13_watches 23 = .ok (.iload_n 2, 1) := by decide +kernel
theorem dX13_watches_24 : decode cX13_watches 24 = .ok (.ifCond .eq 32, 3) := by decide +kernel
theorem dX13_watches_27 : decode cX13_watches 27 = .ok (.aload_n 0, 1) := by decide +kernel
theorem dX13_watches_28 : decode cX13_watches 28 = .ok (.iload_n 3, 1) := by decide +kernel
theorem dX13_watches_29 : decode cX13_watches 29 = .ok (.iload 4, 2) := by decide +kernel
theorem dX13_watches_31 : decode cX13_watches 31 = .ok (.invokevirtual 156, 3) := by decide +kernel
theorem dX13_watches_34 : decode cX13_watches 34 = .ok (.ifCond .eq 18, 3) := by decide +kernel
theorem dX13_watches_37 : decode cX13_watches 37 = .ok (.iload_n 1, 1) := by decide +kernel
theorem dX13_watches_38 : decode cX13_watches 38 = .ok (.iload_n 3, 1) := by decide +kernel
theorem dX13_watches_39 : decode cX13_watches 39 = .ok (.ishr, 1) := by decide +kernel
theorem dX13_watches_40 : decode cX13_watches 40 = .ok (.iconst 1, 1) := by decide +kernel
theorem dX13_watches_41 : decode cX13_watches 41 = .ok (.iand, 1) := by decide +kernel
theorem dX13_watches_42 : decode cX13_watches 42 = .ok (.iload_n 1, 1) := by decide +kernel
theorem dX13_watches_43 : decode cX13_watches 43 = .ok (.iload 4, 2) := by decide +kernel
theorem dX13_watches_45 : decode cX13_watches 45 = .ok (.ishr, 1) := by decide +kernel
theorem dX13_watches_46 : decode cX13_watches 46 = .ok (.iconst 1, 1) := by decide +kernel
theorem dX13_watches_47 : decode cX13_watches 47 = .ok (.iand, 1) := by decide +kernel
theorem dX13_watches_48 : decode cX13_watches 48 = .ok (.iadd, 1) := by decide +kernel
theorem dX13_watches_49 : decode cX13_watches 49 = .ok (.ifCond .le 7, 3) := by decide +kernel
theorem dX13_watches_52 : decode cX13_watches 52 = .ok (.iconst 1, 1) := by decide +kernel
theorem dX13_watches_53 : decode cX13_watches 53 = .ok (.goto 4, 3) := by decide +kernel
theorem dX13_watches_56 : decode cX13_watches 56 = .ok (.iconst 0, 1) := by decide +kernel
theorem dX13_watches_57 : decode cX13_watches 57 = .ok (.istore_n 2, 1) := by decide +kernel
theorem dX13_watches_58 : decode cX13_watches 58 = .ok (.iinc 4 1, 3) := by decide +kernel
theorem dX13_watches_61 : decode cX13_watches 61 = .ok (.goto (-44), 3) := by decide +kernel
theorem dX13_watches_64 : decode cX13_watches 64 = .ok (.iinc 3 1, 3) := by decide +kernel
theorem dX13_watches_67 : decode cX13_watches 67 = .ok (.goto (-63), 3) := by decide +kernel
theorem dX13_watches_70 : decode cX13_watches 70 = .ok (.iload_n 2, 1) := by decide +kernel
theorem dX13_watches_71 : decode cX13_watches 71 = .ok (.ireturn, 1) := by decide +kernel
theorem dX13_fewestWatchers_0 : decode cX13_fewestWatchers 0 = .ok (.aload_n 0, 1) := by decide +kernel
theorem dX13_fewestWatchers_1 : decode cX13_fewestWatchers 1 = .ok (.iconst 0, 1) := by decide +kernel
theorem dX13_fewestWatchers_2 : decode cX13_fewestWatchers 2 = .ok (.putfield 39, 3) := by decide +kernel
theorem dX13_fewestWatchers_5 : decode cX13_fewestWatchers 5 = .ok (.bipush 7, 2) := by decide +kernel
theorem dX13_fewestWatchers_7 : decode cX13_fewestWatchers 7 = .ok (.istore_n 1, 1) := by decide +kernel
theorem dX13_fewestWatchers_8 : decode cX13_fewestWatchers 8 = .ok (.iconst 0, 1) := by decide +kernel
theorem dX13_fewestWatchers_9 : decode cX13_fewestWatchers 9 = .ok (.istore_n 2, 1) := by decide +kernel
theorem dX13_fewestWatchers_10 : decode cX13_fewestWatchers 10 = .ok (.iload_n 2, 1) := by decide +kernel
theorem dX13_fewestWatchers_11 : decode cX13_fewestWatchers 11 = .ok (.iconst 1, 1) := by decide +kernel
theorem dX13_fewestWatchers_12 : decode cX13_fewestWatchers 12 = .ok (.aload_n 0, 1) := by decide +kernel
theorem dX13_fewestWatchers_13 : decode cX13_fewestWatchers 13 = .ok (.getfield 9, 3) := by decide +kernel
theorem dX13_fewestWatchers_16 : decode cX13_fewestWatchers 16 = .ok (.iconst 0, 1) := by decide +kernel
theorem dX13_fewestWatchers_17 : decode cX13_fewestWatchers 17 = .ok (.iaload, 1) := by decide +kernel
theorem dX13_fewestWatchers_18 : decode cX13_fewestWatchers 18 = .ok (.ishl, 1) := by decide +kernel
theorem dX13_fewestWatchers_19 : decode cX13_fewestWatchers 19 = .ok (.if_icmp .ge 30, 3) := by decide +kernel
theorem dX13_fewestWatchers_22 : decode cX13_fewestWatchers 22 = .ok (.aload_n 0, 1) := by decide +kernel
theorem dX13_fewestWatchers_23 : decode cX13_fewestWatchers 23 = .ok (.iload_n 2, 1) := by decide +kernel
theorem dX13_fewestWatchers_24 : decode cX13_fewestWatchers 24 = .ok (.invokevirtual 166, 3) := by decide +kernel
theorem dX13_fewestWatchers_27 : decode cX13_fewestWatchers 27 = .ok (.ifCond .eq 14, 3) := by decide +kernel
theorem dX13_fewestWatchers_30 : decode cX13_fewestWatchers 30 = .ok (.iload_n 1, 1) := by decide +kernel
theorem dX13_fewestWatchers_31 : decode cX13_fewestWatchers 31 = .ok (.iload_n 2, 1) := by decide +kernel
theorem dX13_fewestWatchers_32 : decode cX13_fewestWatchers 32 = .ok (.invokestatic 169, 3) := by decide +kernel
theorem dX13_fewestWatchers_35 : decode cX13_fewestWatchers 35 = .ok (.invokestatic 172, 3) := by decide +kernel
theorem dX13_fewestWatchers_38 : decode cX13_fewestWatchers 38 = .ok (.goto 4, 3) := by decide +kernel
theorem dX13_fewestWatchers_41 : decode cX13_fewestWatchers 41 = .ok (.iload_n 1, 1) := by decide +kernel
theorem dX13_fewestWatchers_42 : decode cX13_fewestWatchers 42 = .ok (.istore_n 1, 1) := by decide +kernel
theorem dX13_fewestWatchers_43 : decode cX13_fewestWatchers 43 = .ok (.iinc 2 1, 3) := by decide +kernel
theorem dX13_fewestWatchers_46 : decode cX13_fewestWatchers 46 = .ok (.goto (-36), 3) := by decide +kernel
theorem dX13_fewestWatchers_49 : decode cX13_fewestWatchers 49 = .ok (.iload_n 1, 1) := by decide +kernel
theorem dX13_fewestWatchers_50 : decode cX13_fewestWatchers 50 = .ok (.ireturn, 1) := by decide +kernel
theorem dX13_fewestWatchersByBranching_0 : decode cX13_fewestWatchersByBranching 0 = .ok (.aload_n 0, 1) := by decide +kernel
theorem dX13_fewestWatchersByBranching_1 : decode cX13_fewestWatchersByBranching 1 = .ok (.invokevirtual 175, 3) := by decide +kernel
theorem dX13_fewestWatchersByBranching_4 : decode cX13_fewestWatchersByBranching 4 = .ok (.ireturn, 1) := by decide +kernel
theorem dX13_doSetThreshold_0 : decode cX13_doSetThreshold 0 = .ok (.iload_n 1, 1) := by decide +kernel
theorem dX13_doSetThreshold_1 : decode cX13_doSetThreshold 1 = .ok (.iconst 1, 1) := by decide +kernel
theorem dX13_doSetThreshold_2 : decode cX13_doSetThreshold 2 = .ok (.bipush 99, 2) := by decide +kernel
theorem dX13_doSetThreshold_4 : decode cX13_doSetThreshold 4 = .ok (.invokestatic 70, 3) := by decide +kernel
theorem dX13_doSetThreshold_7 : decode cX13_doSetThreshold 7 = .ok (.ifCond .ne 9, 3) := by decide +kernel
theorem dX13_doSetThreshold_10 : decode cX13_doSetThreshold 10 = .ok (.aload_n 0, 1) := by decide +kernel
theorem dX13_doSetThreshold_11 : decode cX13_doSetThreshold 11 = .ok (.iconst 1, 1) := by decide +kernel
theorem dX13_doSetThreshold_12 : decode cX13_doSetThreshold 12 = .ok (.invokevirtual 66, 3) := by decide +kernel
theorem dX13_doSetThreshold_15 : decode cX13_doSetThreshold 15 = .ok (.ireturn, 1) := by decide +kernel
theorem dX13_doSetThreshold_16 : decode cX13_doSetThreshold 16 = .ok (.iload_n 1, 1) := by decide +kernel
theorem dX13_doSetThreshold_17 : decode cX13_doSetThreshold 17 = .ok (.aload_n 0, 1) := by decide +kernel
theorem dX13_doSetThreshold_18 : decode cX13_doSetThreshold 18 = .ok (.getfield 9, 3) := by decide +kernel
theorem dX13_doSetThreshold_21 : decode cX13_doSetThreshold 21 = .ok (.iconst 3, 1) := by decide +kernel
theorem dX13_doSetThreshold_22 : decode cX13_doSetThreshold 22 = .ok (.iaload, 1) := by decide +kernel
theorem dX13_doSetThreshold_23 : decode cX13_doSetThreshold 23 = .ok (.if_icmp .ne 12, 3) := by decide +kernel
theorem dX13_doSetThreshold_26 : decode cX13_doSetThreshold 26 = .ok (.aload_n 0, 1) := by decide +kernel
theorem dX13_doSetThreshold_27 : decode cX13_doSetThreshold 27 = .ok (.iconst 2, 1) := by decide +kernel
theorem dX13_doSetThreshold_28 : decode cX13_doSetThreshold 28 = .ok (.bipush 7, 2) := by decide +kernel
theorem dX13_doSetThreshold_30 : decode cX13_doSetThreshold 30 = .ok (.iload_n 1, 1) := by decide +kernel
theorem dX13_doSetThreshold_31 : decode cX13_doSetThreshold 31 = .ok (.invokevirtual 83, 3) := by decide +kernel
theorem dX13_doSetThreshold_34 : decode cX13_doSetThreshold 34 = .ok (.ireturn, 1) := by decide +kernel
theorem dX13_doSetThreshold_35 : decode cX13_doSetThreshold 35 = .ok (.aload_n 0, 1) := by decide +kernel
theorem dX13_doSetThreshold_36 : decode cX13_doSetThreshold 36 = .ok (.getfield 9, 3) := by decide +kernel
theorem dX13_doSetThreshold_39 : decode cX13_doSetThreshold 39 = .ok (.iconst 3, 1) := by decide +kernel
theorem dX13_doSetThreshold_40 : decode cX13_doSetThreshold 40 = .ok (.iaload, 1) := by decide +kernel
theorem dX13_doSetThreshold_41 : decode cX13_doSetThreshold 41 = .ok (.istore_n 2, 1) := by decide +kernel
theorem dX13_doSetThreshold_42 : decode cX13_doSetThreshold 42 = .ok (.aload_n 0, 1) := by decide +kernel
theorem dX13_doSetThreshold_43 : decode cX13_doSetThreshold 43 = .ok (.getfield 9, 3) := by decide +kernel
theorem dX13_doSetThreshold_46 : decode cX13_doSetThreshold 46 = .ok (.iconst 3, 1) := by decide +kernel
theorem dX13_doSetThreshold_47 : decode cX13_doSetThreshold 47 = .ok (.iload_n 1, 1) := by decide +kernel
theorem dX13_doSetThreshold_48 : decode cX13_doSetThreshold 48 = .ok (.iastore, 1) := by decide +kernel
theorem dX13_doSetThreshold_49 : decode cX13_doSetThreshold 49 = .ok (.iload_n 2, 1) := by decide +kernel
theorem dX13_doSetThreshold_50 : decode cX13_doSetThreshold 50 = .ok (.ireturn, 1) := by decide +kernel
theorem dX13_setThreshold_0 : decode cX13_setThreshold 0 = .ok (.aload_n 0, 1) := by decide +kernel
theorem dX13_setThreshold_1 : decode cX13_setThreshold 1 = .ok (.invokevirtual 91, 3) := by decide +kernel
theorem dX13_setThreshold_4 : decode cX13_setThreshold 4 = .ok (.aload_n 0, 1) := by decide +kernel
theorem dX13_setThreshold_5 : decode cX13_setThreshold 5 = .ok (.aload_n 0, 1) := by decide +kernel
theorem dX13_setThreshold_6 : decode cX13_setThreshold 6 = .ok (.iload_n 1, 1) := by decide +kernel
theorem dX13_setThreshold_7 : decode cX13_setThreshold 7 = .ok (.invokevirtual 178, 3) := by decide +kernel
theorem dX13_setThreshold_10 : decode cX13_setThreshold 10 = .ok (.iconst 0, 1) := by decide +kernel
theorem dX13_setThreshold_11 : decode cX13_setThreshold 11 = .ok (.invokevirtual 97, 3) := by decide +kernel
theorem dX13_setThreshold_14 : decode cX13_setThreshold 14 = .ok (.ireturn, 1) := by decide +kernel
theorem dX13_active_0 : decode cX13_active 0 = .ok (.iconst 0, 1) := by decide +kernel
theorem dX13_active_1 : decode cX13_active 1 = .ok (.istore_n 1, 1) := by decide +kernel
theorem dX13_active_2 : decode cX13_active 2 = .ok (.iconst 0, 1) := by decide +kernel
theorem dX13_active_3 : decode cX13_active 3 = .ok (.istore_n 2, 1) := by decide +kernel
theorem dX13_active_4 : decode cX13_active 4 = .ok (.iload_n 2, 1) := by decide +kernel
theorem dX13_active_5 : decode cX13_active 5 = .ok (.aload_n 0, 1) := by decide +kernel
theorem dX13_active_6 : decode cX13_active 6 = .ok (.getfield 9, 3) := by decide +kernel
theorem dX13_active_9 : decode cX13_active 9 = .ok (.iconst 0, 1) := by decide +kernel
theorem dX13_active_10 : decode cX13_active 10 = .ok (.iaload, 1) := by decide +kernel
theorem dX13_active_11 : decode cX13_active 11 = .ok (.if_icmp .ge 27, 3) := by decide +kernel
theorem dX13_active_14 : decode cX13_active 14 = .ok (.iload_n 1, 1) := by decide +kernel
theorem dX13_active_15 : decode cX13_active 15 = .ok (.aload_n 0, 1) := by decide +kernel
theorem dX13_active_16 : decode cX13_active 16 = .ok (.iload_n 2, 1) := by decide +kernel
theorem dX13_active_17 : decode cX13_active 17 = .ok (.invokevirtual 114, 3) := by decide +kernel
theorem dX13_active_20 : decode cX13_active 20 = .ok (.ifCond .eq 7, 3) := by decide +kernel
theorem dX13_active_23 : decode cX13_active 23 = .ok (.iconst 0, 1) := by decide +kernel
theorem dX13_active_24 : decode cX13_active 24 = .ok (.goto 6, 3) := by decide +kernel
theorem dX13_active_27 : decode cX13_active 27 = .ok (.iconst 1, 1) := by decide +kernel
theorem dX13_active_28 : decode cX13_active 28 = .ok (.iload_n 2, 1) := by decide +kernel
theorem dX13_active_29 : decode cX13_active 29 = .ok (.ishl, 1) := by decide +kernel
theorem dX13_active_30 : decode cX13_active 30 = .ok (.ior, 1) := by decide +kernel
theorem dX13_active_31 : decode cX13_active 31 = .ok (.istore_n 1, 1) := by decide +kernel
theorem dX13_active_32 : decode cX13_active 32 = .ok (.iinc 2 1, 3) := by decide +kernel
theorem dX13_active_35 : decode cX13_active 35 = .ok (.goto (-31), 3) := by decide +kernel
theorem dX13_active_38 : decode cX13_active 38 = .ok (.iload_n 1, 1) := by decide +kernel
theorem dX13_active_39 : decode cX13_active 39 = .ok (.ireturn, 1) := by decide +kernel
theorem dX13_votesOf_0 : decode cX13_votesOf 0 = .ok (.iconst 0, 1) := by decide +kernel
theorem dX13_votesOf_1 : decode cX13_votesOf 1 = .ok (.istore_n 2, 1) := by decide +kernel
theorem dX13_votesOf_2 : decode cX13_votesOf 2 = .ok (.iconst 0, 1) := by decide +kernel
theorem dX13_votesOf_3 : decode cX13_votesOf 3 = .ok (.istore_n 3, 1) := by decide +kernel
theorem dX13_votesOf_4 : decode cX13_votesOf 4 = .ok (.iload_n 3, 1) := by decide +kernel
theorem dX13_votesOf_5 : decode cX13_votesOf 5 = .ok (.aload_n 0, 1) := by decide +kernel
theorem dX13_votesOf_6 : decode cX13_votesOf 6 = .ok (.getfield 9, 3) := by decide +kernel
theorem dX13_votesOf_9 : decode cX13_votesOf 9 = .ok (.iconst 0, 1) := by decide +kernel
theorem dX13_votesOf_10 : decode cX13_votesOf 10 = .ok (.iaload, 1) := by decide +kernel
theorem dX13_votesOf_11 : decode cX13_votesOf 11 = .ok (.if_icmp .ge 31, 3) := by decide +kernel
theorem dX13_votesOf_14 : decode cX13_votesOf 14 = .ok (.iload_n 2, 1) := by decide +kernel
theorem dX13_votesOf_15 : decode cX13_votesOf 15 = .ok (.iload_n 1, 1) := by decide +kernel
theorem dX13_votesOf_16 : decode cX13_votesOf 16 = .ok (.iload_n 3, 1) := by decide +kernel
theorem dX13_votesOf_17 : decode cX13_votesOf 17 = .ok (.ishr, 1) := by decide +kernel
theorem dX13_votesOf_18 : decode cX13_votesOf 18 = .ok (.iconst 1, 1) := by decide +kernel
theorem dX13_votesOf_19 : decode cX13_votesOf 19 = .ok (.iand, 1) := by decide +kernel
theorem dX13_votesOf_20 : decode cX13_votesOf 20 = .ok (.iconst 1, 1) := by decide +kernel
theorem dX13_votesOf_21 : decode cX13_votesOf 21 = .ok (.if_icmp .ne 12, 3) := by decide +kernel
theorem dX13_votesOf_24 : decode cX13_votesOf 24 = .ok (.aload_n 0, 1) := by decide +kernel
theorem dX13_votesOf_25 : decode cX13_votesOf 25 = .ok (.iload_n 3, 1) := by decide +kernel
theorem dX13_votesOf_26 : decode cX13_votesOf 26 = .ok (.iconst 1, 1) := by decide +kernel
theorem dX13_votesOf_27 : decode cX13_votesOf 27 = .ok (.invokevirtual 74, 3) := by decide +kernel
theorem dX13_votesOf_30 : decode cX13_votesOf 30 = .ok (.goto 4, 3) := by decide +kernel
theorem dX13_votesOf_33 : decode cX13_votesOf 33 = .ok (.iconst 0, 1) := by decide +kernel
theorem dX13_votesOf_34 : decode cX13_votesOf 34 = .ok (.iadd, 1) := by decide +kernel
theorem dX13_votesOf_35 : decode cX13_votesOf 35 = .ok (.istore_n 2, 1) := by decide +kernel
theorem dX13_votesOf_36 : decode cX13_votesOf 36 = .ok (.iinc 3 1, 3) := by decide +kernel
theorem dX13_votesOf_39 : decode cX13_votesOf 39 = .ok (.goto (-35), 3) := by decide +kernel
theorem dX13_votesOf_42 : decode cX13_votesOf 42 = .ok (.iload_n 2, 1) := by decide +kernel
theorem dX13_votesOf_43 : decode cX13_votesOf 43 = .ok (.ireturn, 1) := by decide +kernel
theorem dX13_wins_0 : decode cX13_wins 0 = .ok (.aload_n 0, 1) := by decide +kernel
theorem dX13_wins_1 : decode cX13_wins 1 = .ok (.iload_n 1, 1) := by decide +kernel
theorem dX13_wins_2 : decode cX13_wins 2 = .ok (.invokevirtual 181, 3) := by decide +kernel
theorem dX13_wins_5 : decode cX13_wins 5 = .ok (.aload_n 0, 1) := by decide +kernel
theorem dX13_wins_6 : decode cX13_wins 6 = .ok (.getfield 9, 3) := by decide +kernel
theorem dX13_wins_9 : decode cX13_wins 9 = .ok (.iconst 3, 1) := by decide +kernel
theorem dX13_wins_10 : decode cX13_wins 10 = .ok (.iaload, 1) := by decide +kernel
theorem dX13_wins_11 : decode cX13_wins 11 = .ok (.if_icmp .lt 7, 3) := by decide +kernel
theorem dX13_wins_14 : decode cX13_wins 14 = .ok (.iconst 1, 1) := by decide +kernel
theorem dX13_wins_15 : decode cX13_wins 15 = .ok (.goto 4, 3) := by decide +kernel
theorem dX13_wins_18 : decode cX13_wins 18 = .ok (.iconst 0, 1) := by decide +kernel
theorem dX13_wins_19 : decode cX13_wins 19 = .ok (.ireturn, 1) := by decide +kernel
theorem dX13_winningCoalitions_0 : decode cX13_winningCoalitions 0 = .ok (.aload_n 0, 1) := by decide +kernel
theorem dX13_winningCoalitions_1 : decode cX13_winningCoalitions 1 = .ok (.iconst 0, 1) := by decide +kernel
theorem dX13_winningCoalitions_2 : decode cX13_winningCoalitions 2 = .ok (.putfield 39, 3) := by decide +kernel
theorem dX13_winningCoalitions_5 : decode cX13_winningCoalitions 5 = .ok (.aload_n 0, 1) := by decide +kernel
theorem dX13_winningCoalitions_6 : decode cX13_winningCoalitions 6 = .ok (.invokevirtual 184, 3) := by decide +kernel
theorem dX13_winningCoalitions_9 : decode cX13_winningCoalitions 9 = .ok (.istore_n 1, 1) := by decide +kernel
theorem dX13_winningCoalitions_10 : decode cX13_winningCoalitions 10 = .ok (.iconst 0, 1) := by decide +kernel
theorem dX13_winningCoalitions_11 : decode cX13_winningCoalitions 11 = .ok (.istore_n 2, 1) := by decide +kernel
theorem dX13_winningCoalitions_12 : decode cX13_winningCoalitions 12 = .ok (.iconst 0, 1) := by decide +kernel
theorem dX13_winningCoalitions_13 : decode cX13_winningCoalitions 13 = .ok (.istore_n 3, 1) := by decide +kernel
theorem dX13_winningCoalitions_14 : decode cX13_winningCoalitions 14 = .ok (.iload_n 3, 1) := by decide +kernel
theorem dX13_winningCoalitions_15 : decode cX13_winningCoalitions 15 = .ok (.iload_n 1, 1) := by decide +kernel
theorem dX13_winningCoalitions_16 : decode cX13_winningCoalitions 16 = .ok (.if_icmp .gt 33, 3) := by decide +kernel
theorem dX13_winningCoalitions_19 : decode cX13_winningCoalitions 19 = .ok (.iload_n 2, 1) := by decide +kernel
theorem dX13_winningCoalitions_20 : decode cX13_winningCoalitions 20 = .ok (.iload_n 3, 1) := by decide +kernel
theorem dX13_winningCoalitions_21 : decode cX13_winningCoalitions 21 = .ok (.iload_n 1, 1) := by decide +kernel
theorem dX13_winningCoalitions_22 : decode cX13_winningCoalitions 22 = .ok (.iconst (-1), 1) := by decide +kernel
theorem dX13_winningCoalitions_23 : decode cX13_winningCoalitions 23 = .ok (.ixor, 1) := by decide +kernel
theorem dX13_winningCoalitions_24 : decode cX13_winningCoalitions 24 = .ok (.iand, 1) := by decide +kernel
theorem dX13_winningCoalitions_25 : decode cX13_winningCoalitions 25 = .ok (.ifCond .ne 15, 3) := by decide +kernel
theorem dX13_winningCoalitions_28 : decode cX13_winningCoalitions 28 = .ok (.aload_n 0, 1) := by decide +kernel
theorem dX13_winningCoalitions_29 : decode cX13_winningCoalitions 29 = .ok (.iload_n 3, 1) := by decide +kernel
theorem dX13_winningCoalitions_30 : decode cX13_winningCoalitions 30 = .ok (.invokevirtual 187, 3) := by decide +kernel
theorem dX13_winningCoalitions_33 : decode cX13_winningCoalitions 33 = .ok (.ifCond .eq 7, 3) := by decide +kernel
theorem dX13_winningCoalitions_36 : decode cX13_winningCoalitions 36 = .ok (.iconst 1, 1) := by decide +kernel
theorem dX13_winningCoalitions_37 : decode cX13_winningCoalitions 37 = .ok (.goto 4, 3) := by decide +kernel
theorem dX13_winningCoalitions_40 : decode cX13_winningCoalitions 40 = .ok (.iconst 0, 1) := by decide +kernel
theorem dX13_winningCoalitions_41 : decode cX13_winningCoalitions 41 = .ok (.iadd, 1) := by decide +kernel
theorem dX13_winningCoalitions_42 : decode cX13_winningCoalitions 42 = .ok (.istore_n 2, 1) := by decide +kernel
theorem dX13_winningCoalitions_43 : decode cX13_winningCoalitions 43 = .ok (.iinc 3 1, 3) := by decide +kernel
theorem dX13_winningCoalitions_46 : decode cX13_winningCoalitions 46 = .ok (.goto (-32), 3) := by decide +kernel
theorem dX13_winningCoalitions_49 : decode cX13_winningCoalitions 49 = .ok (.iload_n 2, 1) := by decide +kernel
theorem dX13_winningCoalitions_50 : decode cX13_winningCoalitions 50 = .ok (.ireturn, 1) := by decide +kernel
theorem dX13_swings_0 : decode cX13_swings 0 = .ok (.aload_n 0, 1) := by decide +kernel
theorem dX13_swings_1 : decode cX13_swings 1 = .ok (.aload_n 0, 1) := by decide +kernel
theorem dX13_swings_2 : decode cX13_swings 2 = .ok (.iload_n 1, 1) := by decide +kernel
theorem dX13_swings_3 : decode cX13_swings 3 = .ok (.invokevirtual 100, 3) := by decide +kernel
theorem dX13_swings_6 : decode cX13_swings 6 = .ok (.ifCond .ne 7, 3) := by decide +kernel
theorem dX13_swings_9 : decode cX13_swings 9 = .ok (.iconst 1, 1) := by decide +kernel
theorem dX13_swings_10 : decode cX13_swings 10 = .ok (.goto 16, 3) := by decide +kernel
theorem dX13_swings_13 : decode cX13_swings 13 = .ok (.aload_n 0, 1) := by decide +kernel
theorem dX13_swings_14 : decode cX13_swings 14 = .ok (.iload_n 1, 1) := by decide +kernel
theorem dX13_swings_15 : decode cX13_swings 15 = .ok (.invokevirtual 114, 3) := by decide +kernel
theorem dX13_swings_18 : decode cX13_swings 18 = .ok (.ifCond .eq 7, 3) := by decide +kernel
theorem dX13_swings_21 : decode cX13_swings 21 = .ok (.iconst 2, 1) := by decide +kernel
theorem dX13_swings_22 : decode cX13_swings 22 = .ok (.goto 4, 3) := by decide +kernel
theorem dX13_swings_25 : decode cX13_swings 25 = .ok (.iconst 0, 1) := by decide +kernel
theorem dX13_swings_26 : decode cX13_swings 26 = .ok (.putfield 39, 3) := by decide +kernel
theorem dX13_swings_29 : decode cX13_swings 29 = .ok (.aload_n 0, 1) := by decide +kernel
theorem dX13_swings_30 : decode cX13_swings 30 = .ok (.getfield 39, 3) := by decide +kernel
theorem dX13_swings_33 : decode cX13_swings 33 = .ok (.ifCond .le 5, 3) := by decide +kernel
theorem dX13_swings_36 : decode cX13_swings 36 = .ok (.iconst 0, 1) := by decide +kernel
theorem dX13_swings_37 : decode cX13_swings 37 = .ok (.ireturn, 1) := by decide +kernel
theorem dX13_swings_38 : decode cX13_swings 38 = .ok (.aload_n 0, 1) := by decide +kernel
theorem dX13_swings_39 : decode cX13_swings 39 = .ok (.invokevirtual 184, 3) := by decide +kernel
theorem dX13_swings_42 : decode cX13_swings 42 = .ok (.iconst 1, 1) := by decide +kernel
theorem dX13_swings_43 : decode cX13_swings 43 = .ok (.iload_n 1, 1) := by decide +kernel
theorem dX13_swings_44 : decode cX13_swings 44 = .ok (.ishl, 1) := by decide +kernel
theorem dX13_swings_45 : decode cX13_swings 45 = .ok (.iconst (-1), 1) := by decide +kernel
theorem dX13_swings_46 : decode cX13_swings 46 = .ok (.ixor, 1) := by decide +kernel
theorem dX13_swings_47 : decode cX13_swings 47 = .ok (.iand, 1) := by decide +kernel
theorem dX13_swings_48 : decode cX13_swings 48 = .ok (.istore_n 2, 1) := by decide +kernel
theorem dX13_swings_49 : decode cX13_swings 49 = .ok (.iconst 0, 1) := by decide +kernel
theorem dX13_swings_50 : decode cX13_swings 50 = .ok (.istore_n 3, 1) := by decide +kernel
theorem dX13_swings_51 : decode cX13_swings 51 = .ok (.iconst 0, 1) := by decide +kernel
theorem dX13_swings_52 : decode cX13_swings 52 = .ok (.istore 4, 2) := by decide +kernel
theorem dX13_swings_54 : decode cX13_swings 54 = .ok (.iload 4, 2) := by decide +kernel
theorem dX13_swings_56 : decode cX13_swings 56 = .ok (.iload_n 2, 1) := by decide +kernel
theorem dX13_swings_57 : decode cX13_swings 57 = .ok (.if_icmp .gt 48, 3) := by decide +kernel
theorem dX13_swings_60 : decode cX13_swings 60 = .ok (.iload_n 3, 1) := by decide +kernel
theorem dX13_swings_61 : decode cX13_swings 61 = .ok (.iload 4, 2) := by decide +kernel
theorem dX13_swings_63 : decode cX13_swings 63 = .ok (.iload_n 2, 1) := by decide +kernel
theorem dX13_swings_64 : decode cX13_swings 64 = .ok (.iconst (-1), 1) := by decide +kernel
theorem dX13_swings_65 : decode cX13_swings 65 = .ok (.ixor, 1) := by decide +kernel
theorem dX13_swings_66 : decode cX13_swings 66 = .ok (.iand, 1) := by decide +kernel
theorem dX13_swings_67 : decode cX13_swings 67 = .ok (.ifCond .ne 29, 3) := by decide +kernel
theorem dX13_swings_70 : decode cX13_swings 70 = .ok (.aload_n 0, 1) := by decide +kernel
theorem dX13_swings_71 : decode cX13_swings 71 = .ok (.iload 4, 2) := by decide +kernel
theorem dX13_swings_73 : decode cX13_swings 73 = .ok (.invokevirtual 187, 3) := by decide +kernel
theorem dX13_swings_76 : decode cX13_swings 76 = .ok (.ifCond .ne 20, 3) := by decide +kernel
theorem dX13_swings_79 : decode cX13_swings 79 = .ok (.aload_n 0, 1) := by decide +kernel
theorem dX13_swings_80 : decode cX13_swings 80 = .ok (.iload 4, 2) := by decide +kernel
theorem dX13_swings_82 : decode cX13_swings 82 = .ok (.iconst 1, 1) := by decide +kernel
theorem dX13_swings_83 : decode cX13_swings 83 = .ok (.iload_n 1, 1) := by decide +kernel
theorem dX13_swings_84 : decode cX13_swings 84 = .ok (.ishl, 1) := by decide +kernel
theorem dX13_swings_85 : decode cX13_swings 85 = .ok (.ior, 1) := by decide +kernel
theorem dX13_swings_86 : decode cX13_swings 86 = .ok (.invokevirtual 187, 3) := by decide +kernel
theorem dX13_swings_89 : decode cX13_swings 89 = .ok (.ifCond .eq 7, 3) := by decide +kernel
theorem dX13_swings_92 : decode cX13_swings 92 = .ok (.iconst 1, 1) := by decide +kernel
theorem dX13_swings_93 : decode cX13_swings 93 = .ok (.goto 4, 3) := by decide +kernel
theorem dX13_swings_96 : decode cX13_swings 96 = .ok (.iconst 0, 1) := by decide +kernel
theorem dX13_swings_97 : decode cX13_swings 97 = .ok (.iadd, 1) := by decide +kernel
theorem dX13_swings_98 : decode cX13_swings 98 = .ok (.istore_n 3, 1) := by decide +kernel
theorem dX13_swings_99 : decode cX13_swings 99 = .ok (.iinc 4 1, 3) := by decide +kernel
theorem dX13_swings_102 : decode cX13_swings 102 = .ok (.goto (-48), 3) := by decide +kernel
theorem dX13_swings_105 : decode cX13_swings 105 = .ok (.iload_n 3, 1) := by decide +kernel
theorem dX13_swings_106 : decode cX13_swings 106 = .ok (.ireturn, 1) := by decide +kernel
theorem dX13_swingsByCounts_0 : decode cX13_swingsByCounts 0 = .ok (.aload_n 0, 1) := by decide +kernel
theorem dX13_swingsByCounts_1 : decode cX13_swingsByCounts 1 = .ok (.iload_n 1, 1) := by decide +kernel
theorem dX13_swingsByCounts_2 : decode cX13_swingsByCounts 2 = .ok (.invokevirtual 190, 3) := by decide +kernel
theorem dX13_swingsByCounts_5 : decode cX13_swingsByCounts 5 = .ok (.ireturn, 1) := by decide +kernel
theorem dX13_leastDifference_0 : decode cX13_leastDifference 0 = .ok (.aload_n 0, 1) := by decide +kernel
theorem dX13_leastDifference_1 : decode cX13_leastDifference 1 = .ok (.iconst 0, 1) := by decide +kernel
theorem dX13_leastDifference_2 : decode cX13_leastDifference 2 = .ok (.putfield 39, 3) := by decide +kernel
theorem dX13_leastDifference_5 : decode cX13_leastDifference 5 = .ok (.aload_n 0, 1) := by decide +kernel
theorem dX13_leastDifference_6 : decode cX13_leastDifference 6 = .ok (.invokevirtual 184, 3) := by decide +kernel
theorem dX13_leastDifference_9 : decode cX13_leastDifference 9 = .ok (.istore_n 1, 1) := by decide +kernel
theorem dX13_leastDifference_10 : decode cX13_leastDifference 10 = .ok (.aload_n 0, 1) := by decide +kernel
theorem dX13_leastDifference_11 : decode cX13_leastDifference 11 = .ok (.iload_n 1, 1) := by decide +kernel
theorem dX13_leastDifference_12 : decode cX13_leastDifference 12 = .ok (.invokevirtual 181, 3) := by decide +kernel
theorem dX13_leastDifference_15 : decode cX13_leastDifference 15 = .ok (.istore_n 2, 1) := by decide +kernel
theorem dX13_leastDifference_16 : decode cX13_leastDifference 16 = .ok (.iload_n 2, 1) := by decide +kernel
theorem dX13_leastDifference_17 : decode cX13_leastDifference 17 = .ok (.istore_n 3, 1) := by decide +kernel
theorem dX13_leastDifference_18 : decode cX13_leastDifference 18 = .ok (.iconst 0, 1) := by decide +kernel
theorem dX13_leastDifference_19 : decode cX13_leastDifference 19 = .ok (.istore 4, 2) := by decide +kernel
theorem dX13_leastDifference_21 : decode cX13_leastDifference 21 = .ok (.iload 4, 2) := by decide +kernel
theorem dX13_leastDifference_23 : decode cX13_leastDifference 23 = .ok (.iload_n 1, 1) := by decide +kernel
theorem dX13_leastDifference_24 : decode cX13_leastDifference 24 = .ok (.if_icmp .gt 44, 3) := by decide +kernel
theorem dX13_leastDifference_27 : decode cX13_leastDifference 27 = .ok (.iconst 2, 1) := by decide +kernel
theorem dX13_leastDifference_28 : decode cX13_leastDifference 28 = .ok (.aload_n 0, 1) := by decide +kernel
theorem dX13_leastDifference_29 : decode cX13_leastDifference 29 = .ok (.iload 4, 2) := by decide +kernel
theorem dX13_leastDifference_31 : decode cX13_leastDifference 31 = .ok (.invokevirtual 181, 3) := by decide +kernel
theorem dX13_leastDifference_34 : decode cX13_leastDifference 34 = .ok (.imul, 1) := by decide +kernel
theorem dX13_leastDifference_35 : decode cX13_leastDifference 35 = .ok (.iload_n 2, 1) := by decide +kernel
theorem dX13_leastDifference_36 : decode cX13_leastDifference 36 = .ok (.isub, 1) := by decide +kernel
theorem dX13_leastDifference_37 : decode cX13_leastDifference 37 = .ok (.istore 5, 2) := by decide +kernel
theorem dX13_leastDifference_39 : decode cX13_leastDifference 39 = .ok (.iload 4, 2) := by decide +kernel
theorem dX13_leastDifference_41 : decode cX13_leastDifference 41 = .ok (.iload_n 1, 1) := by decide +kernel
theorem dX13_leastDifference_42 : decode cX13_leastDifference 42 = .ok (.iconst (-1), 1) := by decide +kernel
theorem dX13_leastDifference_43 : decode cX13_leastDifference 43 = .ok (.ixor, 1) := by decide +kernel
theorem dX13_leastDifference_44 : decode cX13_leastDifference 44 = .ok (.iand, 1) := by decide +kernel
theorem dX13_leastDifference_45 : decode cX13_leastDifference 45 = .ok (.ifCond .ne 15, 3) := by decide +kernel
theorem dX13_leastDifference_48 : decode cX13_leastDifference 48 = .ok (.iload_n 3, 1) := by decide +kernel
theorem dX13_leastDifference_49 : decode cX13_leastDifference 49 = .ok (.iload 5, 2) := by decide +kernel
theorem dX13_leastDifference_51 : decode cX13_leastDifference 51 = .ok (.invokestatic 193, 3) := by decide +kernel
theorem dX13_leastDifference_54 : decode cX13_leastDifference 54 = .ok (.invokestatic 172, 3) := by decide +kernel
theorem dX13_leastDifference_57 : decode cX13_leastDifference 57 = .ok (.goto 4, 3) := by decide +kernel
theorem dX13_leastDifference_60 : decode cX13_leastDifference 60 = .ok (.iload_n 3, 1) := by decide +kernel
theorem dX13_leastDifference_61 : decode cX13_leastDifference 61 = .ok (.istore_n 3, 1) := by decide +kernel
theorem dX13_leastDifference_62 : decode cX13_leastDifference 62 = .ok (.iinc 4 1, 3) := by decide +kernel
theorem dX13_leastDifference_65 : decode cX13_leastDifference 65 = .ok (.goto (-44), 3) := by decide +kernel
theorem dX13_leastDifference_68 : decode cX13_leastDifference 68 = .ok (.iload_n 3, 1) := by decide +kernel
theorem dX13_leastDifference_69 : decode cX13_leastDifference 69 = .ok (.ireturn, 1) := by decide +kernel
theorem dX13_leastDifferenceBySums_0 : decode cX13_leastDifferenceBySums 0 = .ok (.aload_n 0, 1) := by decide +kernel
theorem dX13_leastDifferenceBySums_1 : decode cX13_leastDifferenceBySums 1 = .ok (.invokevirtual 196, 3) := by decide +kernel
theorem dX13_leastDifferenceBySums_4 : decode cX13_leastDifferenceBySums 4 = .ok (.ireturn, 1) := by decide +kernel
theorem dX13_share_0 : decode cX13_share 0 = .ok (.aload_n 0, 1) := by decide +kernel
theorem dX13_share_1 : decode cX13_share 1 = .ok (.aload_n 0, 1) := by decide +kernel
theorem dX13_share_2 : decode cX13_share 2 = .ok (.iload_n 1, 1) := by decide +kernel
theorem dX13_share_3 : decode cX13_share 3 = .ok (.invokevirtual 100, 3) := by decide +kernel
theorem dX13_share_6 : decode cX13_share 6 = .ok (.invokevirtual 107, 3) := by decide +kernel
theorem dX13_share_9 : decode cX13_share 9 = .ok (.ifCond .ne 5, 3) := by decide +kernel
theorem dX13_share_12 : decode cX13_share 12 = .ok (.iconst 0, 1) := by decide +kernel
theorem dX13_share_13 : decode cX13_share 13 = .ok (.ireturn, 1) := by decide +kernel
theorem dX13_share_14 : decode cX13_share 14 = .ok (.iconst 1, 1) := by decide +kernel
theorem dX13_share_15 : decode cX13_share 15 = .ok (.istore_n 2, 1) := by decide +kernel
theorem dX13_share_16 : decode cX13_share 16 = .ok (.iconst 2, 1) := by decide +kernel
theorem dX13_share_17 : decode cX13_share 17 = .ok (.istore_n 3, 1) := by decide +kernel
theorem dX13_share_18 : decode cX13_share 18 = .ok (.iload_n 3, 1) := by decide +kernel
theorem dX13_share_19 : decode cX13_share 19 = .ok (.aload_n 0, 1) := by decide +kernel
theorem dX13_share_20 : decode cX13_share 20 = .ok (.getfield 9, 3) := by decide +kernel
theorem dX13_share_23 : decode cX13_share 23 = .ok (.iconst 0, 1) := by decide +kernel
theorem dX13_share_24 : decode cX13_share 24 = .ok (.iaload, 1) := by decide +kernel
theorem dX13_share_25 : decode cX13_share 25 = .ok (.if_icmp .gt 13, 3) := by decide +kernel
theorem dX13_share_28 : decode cX13_share 28 = .ok (.iload_n 2, 1) := by decide +kernel
theorem dX13_share_29 : decode cX13_share 29 = .ok (.iload_n 3, 1) := by decide +kernel
theorem dX13_share_30 : decode cX13_share 30 = .ok (.imul, 1) := by decide +kernel
theorem dX13_share_31 : decode cX13_share 31 = .ok (.istore_n 2, 1) := by decide +kernel
theorem dX13_share_32 : decode cX13_share 32 = .ok (.iinc 3 1, 3) := by decide +kernel
theorem dX13_share_35 : decode cX13_share 35 = .ok (.goto (-17), 3) := by decide +kernel
theorem dX13_share_38 : decode cX13_share 38 = .ok (.iconst 0, 1) := by decide +kernel
theorem dX13_share_39 : decode cX13_share 39 = .ok (.istore_n 3, 1) := by decide +kernel
theorem dX13_share_40 : decode cX13_share 40 = .ok (.iconst 1, 1) := by decide +kernel
theorem dX13_share_41 : decode cX13_share 41 = .ok (.istore 4, 2) := by decide +kernel
theorem dX13_share_43 : decode cX13_share 43 = .ok (.iload 4, 2) := by decide +kernel
theorem dX13_share_45 : decode cX13_share 45 = .ok (.aload_n 0, 1) := by decide +kernel
theorem dX13_share_46 : decode cX13_share 46 = .ok (.iload_n 1, 1) := by decide +kernel
theorem dX13_share_47 : decode cX13_share 47 = .ok (.invokevirtual 117, 3) := by decide +kernel
theorem dX13_share_50 : decode cX13_share 50 = .ok (.if_icmp .gt 60, 3) := by decide +kernel
theorem dX13_share_53 : decode cX13_share 53 = .ok (.iconst 0, 1) := by decide +kernel
theorem dX13_share_54 : decode cX13_share 54 = .ok (.istore 5, 2) := by decide +kernel
theorem dX13_share_56 : decode cX13_share 56 = .ok (.iconst 0, 1) := by decide +kernel
theorem dX13_share_57 : decode cX13_share 57 = .ok (.istore 6, 2) := by decide +kernel
theorem dX13_share_59 : decode cX13_share 59 = .ok (.iload 6, 2) := by decide +kernel
theorem dX13_share_61 : decode cX13_share 61 = .ok (.aload_n 0, 1) := by decide +kernel
theorem dX13_share_62 : decode cX13_share 62 = .ok (.getfield 9, 3) := by decide +kernel
theorem dX13_share_65 : decode cX13_share 65 = .ok (.iconst 0, 1) := by decide +kernel
theorem dX13_share_66 : decode cX13_share 66 = .ok (.iaload, 1) := by decide +kernel
theorem dX13_share_67 : decode cX13_share 67 = .ok (.if_icmp .ge 30, 3) := by decide +kernel
theorem dX13_share_70 : decode cX13_share 70 = .ok (.iload 5, 2) := by decide +kernel
theorem dX13_share_72 : decode cX13_share 72 = .ok (.aload_n 0, 1) := by decide +kernel
theorem dX13_share_73 : decode cX13_share 73 = .ok (.iload 6, 2) := by decide +kernel
theorem dX13_share_75 : decode cX13_share 75 = .ok (.invokevirtual 117, 3) := by decide +kernel
theorem dX13_share_78 : decode cX13_share 78 = .ok (.iload 4, 2) := by decide +kernel
theorem dX13_share_80 : decode cX13_share 80 = .ok (.if_icmp .lt 7, 3) := by decide +kernel
theorem dX13_share_83 : decode cX13_share 83 = .ok (.iconst 1, 1) := by decide +kernel
theorem dX13_share_84 : decode cX13_share 84 = .ok (.goto 4, 3) := by decide +kernel
theorem dX13_share_87 : decode cX13_share 87 = .ok (.iconst 0, 1) := by decide +kernel
theorem dX13_share_88 : decode cX13_share 88 = .ok (.iadd, 1) := by decide +kernel
theorem dX13_share_89 : decode cX13_share 89 = .ok (.istore 5, 2) := by decide +kernel
theorem dX13_share_91 : decode cX13_share 91 = .ok (.iinc 6 1, 3) := by decide +kernel
theorem dX13_share_94 : decode cX13_share 94 = .ok (.goto (-35), 3) := by decide +kernel
theorem dX13_share_97 : decode cX13_share 97 = .ok (.iload_n 3, 1) := by decide +kernel
theorem dX13_share_98 : decode cX13_share 98 = .ok (.iload_n 2, 1) := by decide +kernel
theorem dX13_share_99 : decode cX13_share 99 = .ok (.iload 5, 2) := by decide +kernel
theorem dX13_share_101 : decode cX13_share 101 = .ok (.idiv, 1) := by decide +kernel
theorem dX13_share_102 : decode cX13_share 102 = .ok (.iadd, 1) := by decide +kernel
theorem dX13_share_103 : decode cX13_share 103 = .ok (.istore_n 3, 1) := by decide +kernel
theorem dX13_share_104 : decode cX13_share 104 = .ok (.iinc 4 1, 3) := by decide +kernel
theorem dX13_share_107 : decode cX13_share 107 = .ok (.goto (-64), 3) := by decide +kernel
theorem dX13_share_110 : decode cX13_share 110 = .ok (.iload_n 3, 1) := by decide +kernel
theorem dX13_share_111 : decode cX13_share 111 = .ok (.ireturn, 1) := by decide +kernel
theorem dX13_shareBySteps_0 : decode cX13_shareBySteps 0 = .ok (.aload_n 0, 1) := by decide +kernel
theorem dX13_shareBySteps_1 : decode cX13_shareBySteps 1 = .ok (.iload_n 1, 1) := by decide +kernel
theorem dX13_shareBySteps_2 : decode cX13_shareBySteps 2 = .ok (.invokevirtual 199, 3) := by decide +kernel
theorem dX13_shareBySteps_5 : decode cX13_shareBySteps 5 = .ok (.ireturn, 1) := by decide +kernel
theorem dX13_asks_0 : decode cX13_asks 0 = .ok (.aload_n 0, 1) := by decide +kernel
theorem dX13_asks_1 : decode cX13_asks 1 = .ok (.iconst 0, 1) := by decide +kernel
theorem dX13_asks_2 : decode cX13_asks 2 = .ok (.putfield 39, 3) := by decide +kernel
theorem dX13_asks_5 : decode cX13_asks 5 = .ok (.aload_n 0, 1) := by decide +kernel
theorem dX13_asks_6 : decode cX13_asks 6 = .ok (.getfield 9, 3) := by decide +kernel
theorem dX13_asks_9 : decode cX13_asks 9 = .ok (.iload_n 1, 1) := by decide +kernel
theorem dX13_asks_10 : decode cX13_asks 10 = .ok (.iaload, 1) := by decide +kernel
theorem dX13_asks_11 : decode cX13_asks 11 = .ok (.ireturn, 1) := by decide +kernel
theorem dX13_month_0 : decode cX13_month 0 = .ok (.aload_n 0, 1) := by decide +kernel
theorem dX13_month_1 : decode cX13_month 1 = .ok (.iconst 4, 1) := by decide +kernel
theorem dX13_month_2 : decode cX13_month 2 = .ok (.invokevirtual 202, 3) := by decide +kernel
theorem dX13_month_5 : decode cX13_month 5 = .ok (.ireturn, 1) := by decide +kernel
theorem dX13_soldTotal_0 : decode cX13_soldTotal 0 = .ok (.aload_n 0, 1) := by decide +kernel
theorem dX13_soldTotal_1 : decode cX13_soldTotal 1 = .ok (.iconst 5, 1) := by decide +kernel
theorem dX13_soldTotal_2 : decode cX13_soldTotal 2 = .ok (.invokevirtual 202, 3) := by decide +kernel
theorem dX13_soldTotal_5 : decode cX13_soldTotal 5 = .ok (.ireturn, 1) := by decide +kernel
theorem dX13_withinTotal_0 : decode cX13_withinTotal 0 = .ok (.aload_n 0, 1) := by decide +kernel
theorem dX13_withinTotal_1 : decode cX13_withinTotal 1 = .ok (.iconst 5, 1) := by decide +kernel
theorem dX13_withinTotal_2 : decode cX13_withinTotal 2 = .ok (.invokevirtual 202, 3) := by decide +kernel
theorem dX13_withinTotal_5 : decode cX13_withinTotal 5 = .ok (.aload_n 0, 1) := by decide +kernel
theorem dX13_withinTotal_6 : decode cX13_withinTotal 6 = .ok (.getfield 9, 3) := by decide +kernel
theorem dX13_withinTotal_9 : decode cX13_withinTotal 9 = .ok (.bipush 6, 2) := by decide +kernel
theorem dX13_withinTotal_11 : decode cX13_withinTotal 11 = .ok (.iaload, 1) := by decide +kernel
theorem dX13_withinTotal_12 : decode cX13_withinTotal 12 = .ok (.isub, 1) := by decide +kernel
theorem dX13_withinTotal_13 : decode cX13_withinTotal 13 = .ok (.ireturn, 1) := by decide +kernel
theorem dX13_finedTotal_0 : decode cX13_finedTotal 0 = .ok (.aload_n 0, 1) := by decide +kernel
theorem dX13_finedTotal_1 : decode cX13_finedTotal 1 = .ok (.bipush 6, 2) := by decide +kernel
theorem dX13_finedTotal_3 : decode cX13_finedTotal 3 = .ok (.invokevirtual 202, 3) := by decide +kernel
theorem dX13_finedTotal_6 : decode cX13_finedTotal 6 = .ok (.ireturn, 1) := by decide +kernel
theorem dX13_fines_0 : decode cX13_fines 0 = .ok (.iconst 3, 1) := by decide +kernel
theorem dX13_fines_1 : decode cX13_fines 1 = .ok (.aload_n 0, 1) := by decide +kernel
theorem dX13_fines_2 : decode cX13_fines 2 = .ok (.bipush 6, 2) := by decide +kernel
theorem dX13_fines_4 : decode cX13_fines 4 = .ok (.invokevirtual 202, 3) := by decide +kernel
theorem dX13_fines_7 : decode cX13_fines 7 = .ok (.imul, 1) := by decide +kernel
theorem dX13_fines_8 : decode cX13_fines 8 = .ok (.ireturn, 1) := by decide +kernel
theorem dX13_meanSales_0 : decode cX13_meanSales 0 = .ok (.iconst 0, 1) := by decide +kernel
theorem dX13_meanSales_1 : decode cX13_meanSales 1 = .ok (.istore_n 1, 1) := by decide +kernel
theorem dX13_meanSales_2 : decode cX13_meanSales 2 = .ok (.iconst 0, 1) := by decide +kernel
theorem dX13_meanSales_3 : decode cX13_meanSales 3 = .ok (.istore_n 2, 1) := by decide +kernel
theorem dX13_meanSales_4 : decode cX13_meanSales 4 = .ok (.iload_n 2, 1) := by decide +kernel
theorem dX13_meanSales_5 : decode cX13_meanSales 5 = .ok (.aload_n 0, 1) := by decide +kernel
theorem dX13_meanSales_6 : decode cX13_meanSales 6 = .ok (.getfield 9, 3) := by decide +kernel
theorem dX13_meanSales_9 : decode cX13_meanSales 9 = .ok (.iconst 0, 1) := by decide +kernel
theorem dX13_meanSales_10 : decode cX13_meanSales 10 = .ok (.iaload, 1) := by decide +kernel
theorem dX13_meanSales_11 : decode cX13_meanSales 11 = .ok (.if_icmp .ge 18, 3) := by decide +kernel
theorem dX13_meanSales_14 : decode cX13_meanSales 14 = .ok (.iload_n 1, 1) := by decide +kernel
theorem dX13_meanSales_15 : decode cX13_meanSales 15 = .ok (.aload_n 0, 1) := by decide +kernel
theorem dX13_meanSales_16 : decode cX13_meanSales 16 = .ok (.iload_n 2, 1) := by decide +kernel
theorem dX13_meanSales_17 : decode cX13_meanSales 17 = .ok (.iconst 3, 1) := by decide +kernel
theorem dX13_meanSales_18 : decode cX13_meanSales 18 = .ok (.invokevirtual 74, 3) := by decide +kernel
theorem dX13_meanSales_21 : decode cX13_meanSales 21 = .ok (.iadd, 1) := by decide +kernel
theorem dX13_meanSales_22 : decode cX13_meanSales 22 = .ok (.istore_n 1, 1) := by decide +kernel
theorem dX13_meanSales_23 : decode cX13_meanSales 23 = .ok (.iinc 2 1, 3) := by decide +kernel
theorem dX13_meanSales_26 : decode cX13_meanSales 26 = .ok (.goto (-22), 3) := by decide +kernel
theorem dX13_meanSales_29 : decode cX13_meanSales 29 = .ok (.aload_n 0, 1) := by decide +kernel
theorem dX13_meanSales_30 : decode cX13_meanSales 30 = .ok (.aload_n 0, 1) := by decide +kernel
theorem dX13_meanSales_31 : decode cX13_meanSales 31 = .ok (.getfield 9, 3) := by decide +kernel
theorem dX13_meanSales_34 : decode cX13_meanSales 34 = .ok (.iconst 0, 1) := by decide +kernel
theorem dX13_meanSales_35 : decode cX13_meanSales 35 = .ok (.iaload, 1) := by decide +kernel
theorem dX13_meanSales_36 : decode cX13_meanSales 36 = .ok (.ifCond .le 7, 3) := by decide +kernel
theorem dX13_meanSales_39 : decode cX13_meanSales 39 = .ok (.iconst 1, 1) := by decide +kernel
theorem dX13_meanSales_40 : decode cX13_meanSales 40 = .ok (.goto 4, 3) := by decide +kernel
theorem dX13_meanSales_43 : decode cX13_meanSales 43 = .ok (.iconst 0, 1) := by decide +kernel
theorem dX13_meanSales_44 : decode cX13_meanSales 44 = .ok (.invokevirtual 107, 3) := by decide +kernel
theorem dX13_meanSales_47 : decode cX13_meanSales 47 = .ok (.ifCond .eq 16, 3) := by decide +kernel
theorem dX13_meanSales_50 : decode cX13_meanSales 50 = .ok (.iload_n 1, 1) := by decide +kernel
theorem dX13_meanSales_51 : decode cX13_meanSales 51 = .ok (.i2d, 1) := by decide +kernel
theorem dX13_meanSales_52 : decode cX13_meanSales 52 = .ok (.aload_n 0, 1) := by decide +kernel
theorem dX13_meanSales_53 : decode cX13_meanSales 53 = .ok (.getfield 9, 3) := by decide +kernel
theorem dX13_meanSales_56 : decode cX13_meanSales 56 = .ok (.iconst 0, 1) := by decide +kernel
theorem dX13_meanSales_57 : decode cX13_meanSales 57 = .ok (.iaload, 1) := by decide +kernel
theorem dX13_meanSales_58 : decode cX13_meanSales 58 = .ok (.i2d, 1) := by decide +kernel
theorem dX13_meanSales_59 : decode cX13_meanSales 59 = .ok (.ddiv, 1) := by decide +kernel
theorem dX13_meanSales_60 : decode cX13_meanSales 60 = .ok (.goto 4, 3) := by decide +kernel
theorem dX13_meanSales_63 : decode cX13_meanSales 63 = .ok (.dconst 0, 1) := by decide +kernel
theorem dX13_meanSales_64 : decode cX13_meanSales 64 = .ok (.dreturn, 1) := by decide +kernel
theorem dX13_finedShare_0 : decode cX13_finedShare 0 = .ok (.aload_n 0, 1) := by decide +kernel
theorem dX13_finedShare_1 : decode cX13_finedShare 1 = .ok (.aload_n 0, 1) := by decide +kernel
theorem dX13_finedShare_2 : decode cX13_finedShare 2 = .ok (.getfield 9, 3) := by decide +kernel
theorem dX13_finedShare_5 : decode cX13_finedShare 5 = .ok (.iconst 5, 1) := by decide +kernel
theorem dX13_finedShare_6 : decode cX13_finedShare 6 = .ok (.iaload, 1) := by decide +kernel
theorem dX13_finedShare_7 : decode cX13_finedShare 7 = .ok (.ifCond .le 7, 3) := by decide +kernel
theorem dX13_finedShare_10 : decode cX13_finedShare 10 = .ok (.iconst 1, 1) := by decide +kernel
theorem dX13_finedShare_11 : decode cX13_finedShare 11 = .ok (.goto 4, 3) := by decide +kernel
theorem dX13_finedShare_14 : decode cX13_finedShare 14 = .ok (.iconst 0, 1) := by decide +kernel
theorem dX13_finedShare_15 : decode cX13_finedShare 15 = .ok (.invokevirtual 107, 3) := by decide +kernel
theorem dX13_finedShare_18 : decode cX13_finedShare 18 = .ok (.ifCond .eq 22, 3) := by decide +kernel
theorem dX13_finedShare_21 : decode cX13_finedShare 21 = .ok (.aload_n 0, 1) := by decide +kernel
theorem dX13_finedShare_22 : decode cX13_finedShare 22 = .ok (.getfield 9, 3) := by decide +kernel
theorem dX13_finedShare_25 : decode cX13_finedShare 25 = .ok (.bipush 6, 2) := by decide +kernel
theorem dX13_finedShare_27 : decode cX13_finedShare 27 = .ok (.iaload, 1) := by decide +kernel
theorem dX13_finedShare_28 : decode cX13_finedShare 28 = .ok (.i2f, 1) := by decide +kernel
theorem dX13_finedShare_29 : decode cX13_finedShare 29 = .ok (.aload_n 0, 1) := by decide +kernel
theorem dX13_finedShare_30 : decode cX13_finedShare 30 = .ok (.getfield 9, 3) := by decide +kernel
theorem dX13_finedShare_33 : decode cX13_finedShare 33 = .ok (.iconst 5, 1) := by decide +kernel
theorem dX13_finedShare_34 : decode cX13_finedShare 34 = .ok (.iaload, 1) := by decide +kernel
theorem dX13_finedShare_35 : decode cX13_finedShare 35 = .ok (.i2f, 1) := by decide +kernel
theorem dX13_finedShare_36 : decode cX13_finedShare 36 = .ok (.fdiv, 1) := by decide +kernel
theorem dX13_finedShare_37 : decode cX13_finedShare 37 = .ok (.goto 4, 3) := by decide +kernel
theorem dX13_finedShare_40 : decode cX13_finedShare 40 = .ok (.fconst 0, 1) := by decide +kernel
theorem dX13_finedShare_41 : decode cX13_finedShare 41 = .ok (.freturn, 1) := by decide +kernel
theorem dX13_feed_0 : decode cX13_feed 0 = .ok (.aload_n 0, 1) := by decide +kernel
theorem dX13_feed_1 : decode cX13_feed 1 = .ok (.aload_n 0, 1) := by decide +kernel
theorem dX13_feed_2 : decode cX13_feed 2 = .ok (.getfield 205, 3) := by decide +kernel
theorem dX13_feed_5 : decode cX13_feed 5 = .ok (.bipush 60, 2) := by decide +kernel
theorem dX13_feed_7 : decode cX13_feed 7 = .ok (.if_icmp .ne 7, 3) := by decide +kernel
theorem dX13_feed_10 : decode cX13_feed 10 = .ok (.iconst 1, 1) := by decide +kernel
theorem dX13_feed_11 : decode cX13_feed 11 = .ok (.goto 4, 3) := by decide +kernel
theorem dX13_feed_14 : decode cX13_feed 14 = .ok (.iconst 0, 1) := by decide +kernel
theorem dX13_feed_15 : decode cX13_feed 15 = .ok (.putfield 39, 3) := by decide +kernel
theorem dX13_feed_18 : decode cX13_feed 18 = .ok (.aload_n 0, 1) := by decide +kernel
theorem dX13_feed_19 : decode cX13_feed 19 = .ok (.getfield 39, 3) := by decide +kernel
theorem dX13_feed_22 : decode cX13_feed 22 = .ok (.ifCond .le 5, 3) := by decide +kernel
theorem dX13_feed_25 : decode cX13_feed 25 = .ok (.iconst 0, 1) := by decide +kernel
theorem dX13_feed_26 : decode cX13_feed 26 = .ok (.ireturn, 1) := by decide +kernel
theorem dX13_feed_27 : decode cX13_feed 27 = .ok (.aload_n 0, 1) := by decide +kernel
theorem dX13_feed_28 : decode cX13_feed 28 = .ok (.getfield 25, 3) := by decide +kernel
theorem dX13_feed_31 : decode cX13_feed 31 = .ok (.aload_n 0, 1) := by decide +kernel
theorem dX13_feed_32 : decode cX13_feed 32 = .ok (.getfield 205, 3) := by decide +kernel
theorem dX13_feed_35 : decode cX13_feed 35 = .ok (.iload_n 1, 1) := by decide +kernel
theorem dX13_feed_36 : decode cX13_feed 36 = .ok (.castore, 1) := by decide +kernel
theorem dX13_feed_37 : decode cX13_feed 37 = .ok (.aload_n 0, 1) := by decide +kernel
theorem dX13_feed_38 : decode cX13_feed 38 = .ok (.dup, 1) := by decide +kernel
theorem dX13_feed_39 : decode cX13_feed 39 = .ok (.getfield 205, 3) := by decide +kernel
theorem dX13_feed_42 : decode cX13_feed 42 = .ok (.iconst 1, 1) := by decide +kernel
theorem dX13_feed_43 : decode cX13_feed 43 = .ok (.iadd, 1) := by decide +kernel
theorem dX13_feed_44 : decode cX13_feed 44 = .ok (.putfield 205, 3) := by decide +kernel
theorem dX13_feed_47 : decode cX13_feed 47 = .ok (.aload_n 0, 1) := by decide +kernel
theorem dX13_feed_48 : decode cX13_feed 48 = .ok (.getfield 205, 3) := by decide +kernel
theorem dX13_feed_51 : decode cX13_feed 51 = .ok (.ireturn, 1) := by decide +kernel
theorem dX13_behind_0 : decode cX13_behind 0 = .ok (.aload_n 0, 1) := by decide +kernel
theorem dX13_behind_1 : decode cX13_behind 1 = .ok (.getfield 208, 3) := by decide +kernel
theorem dX13_behind_4 : decode cX13_behind 4 = .ok (.iload_n 1, 1) := by decide +kernel
theorem dX13_behind_5 : decode cX13_behind 5 = .ok (.iadd, 1) := by decide +kernel
theorem dX13_behind_6 : decode cX13_behind 6 = .ok (.aload_n 0, 1) := by decide +kernel
theorem dX13_behind_7 : decode cX13_behind 7 = .ok (.getfield 205, 3) := by decide +kernel
theorem dX13_behind_10 : decode cX13_behind 10 = .ok (.if_icmp .ge 17, 3) := by decide +kernel
theorem dX13_behind_13 : decode cX13_behind 13 = .ok (.aload_n 0, 1) := by decide +kernel
theorem dX13_behind_14 : decode cX13_behind 14 = .ok (.getfield 25, 3) := by decide +kernel
theorem dX13_behind_17 : decode cX13_behind 17 = .ok (.aload_n 0, 1) := by decide +kernel
theorem dX13_behind_18 : decode cX13_behind 18 = .ok (.getfield 208, 3) := by decide +kernel
theorem dX13_behind_21 : decode cX13_behind 21 = .ok (.iload_n 1, 1) := by decide +kernel
theorem dX13_behind_22 : decode cX13_behind 22 = .ok (.iadd, 1) := by decide +kernel
theorem dX13_behind_23 : decode cX13_behind 23 = .ok (.caload, 1) := by decide +kernel
theorem dX13_behind_24 : decode cX13_behind 24 = .ok (.goto 4, 3) := by decide +kernel
theorem dX13_behind_27 : decode cX13_behind 27 = .ok (.iconst (-1), 1) := by decide +kernel
theorem dX13_behind_28 : decode cX13_behind 28 = .ok (.ireturn, 1) := by decide +kernel
theorem dX13_skip_0 : decode cX13_skip 0 = .ok (.iconst 0, 1) := by decide +kernel
theorem dX13_skip_1 : decode cX13_skip 1 = .ok (.istore_n 2, 1) := by decide +kernel
theorem dX13_skip_2 : decode cX13_skip 2 = .ok (.iload_n 2, 1) := by decide +kernel
theorem dX13_skip_3 : decode cX13_skip 3 = .ok (.aload_n 1, 1) := by decide +kernel
theorem dX13_skip_4 : decode cX13_skip 4 = .ok (.invokevirtual 211, 3) := by decide +kernel
theorem dX13_skip_7 : decode cX13_skip 7 = .ok (.if_icmp .ge 59, 3) := by decide +kernel
theorem dX13_skip_10 : decode cX13_skip 10 = .ok (.aload_n 0, 1) := by decide +kernel
theorem dX13_skip_11 : decode cX13_skip 11 = .ok (.getfield 215, 3) := by decide +kernel
theorem dX13_skip_14 : decode cX13_skip 14 = .ok (.ifCond .ne 52, 3) := by decide +kernel
theorem dX13_skip_17 : decode cX13_skip 17 = .ok (.aload_n 0, 1) := by decide +kernel
theorem dX13_skip_18 : decode cX13_skip 18 = .ok (.aload_n 0, 1) := by decide +kernel
theorem dX13_skip_19 : decode cX13_skip 19 = .ok (.iconst 0, 1) := by decide +kernel
theorem dX13_skip_20 : decode cX13_skip 20 = .ok (.invokevirtual 219, 3) := by decide +kernel
theorem dX13_skip_23 : decode cX13_skip 23 = .ok (.aload_n 1, 1) := by decide +kernel
theorem dX13_skip_24 : decode cX13_skip 24 = .ok (.iload_n 2, 1) := by decide +kernel
theorem dX13_skip_25 : decode cX13_skip 25 = .ok (.invokevirtual 222, 3) := by decide +kernel
theorem dX13_skip_28 : decode cX13_skip 28 = .ok (.if_icmp .eq 7, 3) := by decide +kernel
theorem dX13_skip_31 : decode cX13_skip 31 = .ok (.iconst 1, 1) := by decide +kernel
theorem dX13_skip_32 : decode cX13_skip 32 = .ok (.goto 4, 3) := by decide +kernel
theorem dX13_skip_35 : decode cX13_skip 35 = .ok (.iconst 0, 1) := by decide +kernel
theorem dX13_skip_36 : decode cX13_skip 36 = .ok (.putfield 215, 3) := by decide +kernel
theorem dX13_skip_39 : decode cX13_skip 39 = .ok (.aload_n 0, 1) := by decide +kernel
theorem dX13_skip_40 : decode cX13_skip 40 = .ok (.dup, 1) := by decide +kernel
theorem dX13_skip_41 : decode cX13_skip 41 = .ok (.getfield 208, 3) := by decide +kernel
theorem dX13_skip_44 : decode cX13_skip 44 = .ok (.aload_n 0, 1) := by decide +kernel
theorem dX13_skip_45 : decode cX13_skip 45 = .ok (.getfield 215, 3) := by decide +kernel
theorem dX13_skip_48 : decode cX13_skip 48 = .ok (.ifCond .eq 7, 3) := by decide +kernel
theorem dX13_skip_51 : decode cX13_skip 51 = .ok (.iconst 0, 1) := by decide +kernel
theorem dX13_skip_52 : decode cX13_skip 52 = .ok (.goto 4, 3) := by decide +kernel
theorem dX13_skip_55 : decode cX13_skip 55 = .ok (.iconst 1, 1) := by decide +kernel
theorem dX13_skip_56 : decode cX13_skip 56 = .ok (.iadd, 1) := by decide +kernel
theorem dX13_skip_57 : decode cX13_skip 57 = .ok (.putfield 208, 3) := by decide +kernel
theorem dX13_skip_60 : decode cX13_skip 60 = .ok (.iinc 2 1, 3) := by decide +kernel
theorem dX13_skip_63 : decode cX13_skip 63 = .ok (.goto (-61), 3) := by decide +kernel
theorem dX13_skip_66 : decode cX13_skip 66 = .ok (.return_, 1) := by decide +kernel
theorem dX13_isDigit_0 : decode cX13_isDigit 0 = .ok (.aload_n 0, 1) := by decide +kernel
theorem dX13_isDigit_1 : decode cX13_isDigit 1 = .ok (.getfield 215, 3) := by decide +kernel
theorem dX13_isDigit_4 : decode cX13_isDigit 4 = .ok (.ifCond .ne 22, 3) := by decide +kernel
theorem dX13_isDigit_7 : decode cX13_isDigit 7 = .ok (.aload_n 0, 1) := by decide +kernel
theorem dX13_isDigit_8 : decode cX13_isDigit 8 = .ok (.iconst 0, 1) := by decide +kernel
theorem dX13_isDigit_9 : decode cX13_isDigit 9 = .ok (.invokevirtual 219, 3) := by decide +kernel
theorem dX13_isDigit_12 : decode cX13_isDigit 12 = .ok (.bipush 48, 2) := by decide +kernel
theorem dX13_isDigit_14 : decode cX13_isDigit 14 = .ok (.bipush 57, 2) := by decide +kernel
theorem dX13_isDigit_16 : decode cX13_isDigit 16 = .ok (.invokestatic 70, 3) := by decide +kernel
theorem dX13_isDigit_19 : decode cX13_isDigit 19 = .ok (.ifCond .eq 7, 3) := by decide +kernel
theorem dX13_isDigit_22 : decode cX13_isDigit 22 = .ok (.iconst 1, 1) := by decide +kernel
theorem dX13_isDigit_23 : decode cX13_isDigit 23 = .ok (.goto 4, 3) := by decide +kernel
theorem dX13_isDigit_26 : decode cX13_isDigit 26 = .ok (.iconst 0, 1) := by decide +kernel
theorem dX13_isDigit_27 : decode cX13_isDigit 27 = .ok (.ireturn, 1) := by decide +kernel
theorem dX13_readsNumber_0 : decode cX13_readsNumber 0 = .ok (.aload_n 0, 1) := by decide +kernel
theorem dX13_readsNumber_1 : decode cX13_readsNumber 1 = .ok (.aload_n 0, 1) := by decide +kernel
theorem dX13_readsNumber_2 : decode cX13_readsNumber 2 = .ok (.getfield 215, 3) := by decide +kernel
theorem dX13_readsNumber_5 : decode cX13_readsNumber 5 = .ok (.ifCond .ne 10, 3) := by decide +kernel
theorem dX13_readsNumber_8 : decode cX13_readsNumber 8 = .ok (.aload_n 0, 1) := by decide +kernel
theorem dX13_readsNumber_9 : decode cX13_readsNumber 9 = .ok (.invokevirtual 226, 3) := by decide +kernel
theorem dX13_readsNumber_12 : decode cX13_readsNumber 12 = .ok (.ifCond .ne 7, 3) := by decide +kernel
theorem dX13_readsNumber_15 : decode cX13_readsNumber 15 = .ok (.iconst 1, 1) := by decide +kernel
theorem dX13_readsNumber_16 : decode cX13_readsNumber 16 = .ok (.goto 4, 3) := by decide +kernel
theorem dX13_readsNumber_19 : decode cX13_readsNumber 19 = .ok (.iconst 0, 1) := by decide +kernel
theorem dX13_readsNumber_20 : decode cX13_readsNumber 20 = .ok (.putfield 215, 3) := by decide +kernel
theorem dX13_readsNumber_23 : decode cX13_readsNumber 23 = .ok (.iconst 0, 1) := by decide +kernel
theorem dX13_readsNumber_24 : decode cX13_readsNumber 24 = .ok (.istore_n 2, 1) := by decide +kernel
theorem dX13_readsNumber_25 : decode cX13_readsNumber 25 = .ok (.iconst 0, 1) := by decide +kernel
theorem dX13_readsNumber_26 : decode cX13_readsNumber 26 = .ok (.istore_n 3, 1) := by decide +kernel
theorem dX13_readsNumber_27 : decode cX13_readsNumber 27 = .ok (.iload_n 3, 1) := by decide +kernel
theorem dX13_readsNumber_28 : decode cX13_readsNumber 28 = .ok (.iload_n 1, 1) := by decide +kernel
theorem dX13_readsNumber_29 : decode cX13_readsNumber 29 = .ok (.if_icmp .ge 44, 3) := by decide +kernel
theorem dX13_readsNumber_32 : decode cX13_readsNumber 32 = .ok (.aload_n 0, 1) := by decide +kernel
theorem dX13_readsNumber_33 : decode cX13_readsNumber 33 = .ok (.invokevirtual 226, 3) := by decide +kernel
theorem dX13_readsNumber_36 : decode cX13_readsNumber 36 = .ok (.ifCond .eq 37, 3) := by decide +kernel
theorem dX13_readsNumber_39 : decode cX13_readsNumber 39 = .ok (.bipush 10, 2) := by decide +kernel
theorem dX13_readsNumber_41 : decode cX13_readsNumber 41 = .ok (.iload_n 2, 1) := by decide +kernel
theorem dX13_readsNumber_42 : decode cX13_readsNumber 42 = .ok (.imul, 1) := by decide +kernel
theorem dX13_readsNumber_43 : decode cX13_readsNumber 43 = .ok (.aload_n 0, 1) := by decide +kernel
theorem dX13_readsNumber_44 : decode cX13_readsNumber 44 = .ok (.getfield 25, 3) := by decide +kernel
theorem dX13_readsNumber_47 : decode cX13_readsNumber 47 = .ok (.aload_n 0, 1) := by decide +kernel
theorem dX13_readsNumber_48 : decode cX13_readsNumber 48 = .ok (.getfield 208, 3) := by decide +kernel
theorem dX13_readsNumber_51 : decode cX13_readsNumber 51 = .ok (.caload, 1) := by decide +kernel
theorem dX13_readsNumber_52 : decode cX13_readsNumber 52 = .ok (.iadd, 1) := by decide +kernel
theorem dX13_readsNumber_53 : decode cX13_readsNumber 53 = .ok (.bipush 48, 2) := by decide +kernel
theorem dX13_readsNumber_55 : decode cX13_readsNumber 55 = .ok (.isub, 1) := by decide +kernel
theorem dX13_readsNumber_56 : decode cX13_readsNumber 56 = .ok (.istore_n 2, 1) := by decide +kernel
theorem dX13_readsNumber_57 : decode cX13_readsNumber 57 = .ok (.aload_n 0, 1) := by decide +kernel
theorem dX13_readsNumber_58 : decode cX13_readsNumber 58 = .ok (.dup, 1) := by decide +kernel
theorem dX13_readsNumber_59 : decode cX13_readsNumber 59 = .ok (.getfield 208, 3) := by decide +kernel
theorem dX13_readsNumber_62 : decode cX13_readsNumber 62 = .ok (.iconst 1, 1) := by decide +kernel
theorem dX13_readsNumber_63 : decode cX13_readsNumber 63 = .ok (.iadd, 1) := by decide +kernel
theorem dX13_readsNumber_64 : decode cX13_readsNumber 64 = .ok (.putfield 208, 3) := by decide +kernel
theorem dX13_readsNumber_67 : decode cX13_readsNumber 67 = .ok (.iinc 3 1, 3) := by decide +kernel
theorem dX13_readsNumber_70 : decode cX13_readsNumber 70 = .ok (.goto (-43), 3) := by decide +kernel
theorem dX13_readsNumber_73 : decode cX13_readsNumber 73 = .ok (.iload_n 2, 1) := by decide +kernel
theorem dX13_readsNumber_74 : decode cX13_readsNumber 74 = .ok (.ireturn, 1) := by decide +kernel
theorem dX13_reads_0 : decode cX13_reads 0 = .ok (.iconst 3, 1) := by decide +kernel
theorem dX13_reads_1 : decode cX13_reads 1 = .ok (.aload_n 0, 1) := by decide +kernel
theorem dX13_reads_2 : decode cX13_reads 2 = .ok (.getfield 230, 3) := by decide +kernel
theorem dX13_reads_5 : decode cX13_reads 5 = .ok (.imul, 1) := by decide +kernel
theorem dX13_reads_6 : decode cX13_reads 6 = .ok (.istore 6, 2) := by decide +kernel
theorem dX13_reads_8 : decode cX13_reads 8 = .ok (.aload_n 0, 1) := by decide +kernel
theorem dX13_reads_9 : decode cX13_reads 9 = .ok (.getfield 33, 3) := by decide +kernel
theorem dX13_reads_12 : decode cX13_reads 12 = .ok (.iload 6, 2) := by decide +kernel
theorem dX13_reads_14 : decode cX13_reads 14 = .ok (.iload_n 1, 1) := by decide +kernel
theorem dX13_reads_15 : decode cX13_reads 15 = .ok (.iastore, 1) := by decide +kernel
theorem dX13_reads_16 : decode cX13_reads 16 = .ok (.aload_n 0, 1) := by decide +kernel
theorem dX13_reads_17 : decode cX13_reads 17 = .ok (.dup, 1) := by decide +kernel
theorem dX13_reads_18 : decode cX13_reads 18 = .ok (.getfield 230, 3) := by decide +kernel
theorem dX13_reads_21 : decode cX13_reads 21 = .ok (.iconst 1, 1) := by decide +kernel
theorem dX13_reads_22 : decode cX13_reads 22 = .ok (.iadd, 1) := by decide +kernel
theorem dX13_reads_23 : decode cX13_reads 23 = .ok (.putfield 230, 3) := by decide +kernel
theorem dX13_reads_26 : decode cX13_reads 26 = .ok (.aload_n 0, 1) := by decide +kernel
theorem dX13_reads_27 : decode cX13_reads 27 = .ok (.aload_n 2, 1) := by decide +kernel
theorem dX13_reads_28 : decode cX13_reads 28 = .ok (.invokevirtual 233, 3) := by decide +kernel
theorem dX13_reads_31 : decode cX13_reads 31 = .ok (.aload_n 0, 1) := by decide +kernel
theorem dX13_reads_32 : decode cX13_reads 32 = .ok (.getfield 33, 3) := by decide +kernel
theorem dX13_reads_35 : decode cX13_reads 35 = .ok (.iload 6, 2) := by decide +kernel
theorem dX13_reads_37 : decode cX13_reads 37 = .ok (.iconst 1, 1) := by decide +kernel
theorem dX13_reads_38 : decode cX13_reads 38 = .ok (.iadd, 1) := by decide +kernel
theorem dX13_reads_39 : decode cX13_reads 39 = .ok (.iload_n 3, 1) := by decide +kernel
theorem dX13_reads_40 : decode cX13_reads 40 = .ok (.ifCond .le 11, 3) := by decide +kernel
theorem dX13_reads_43 : decode cX13_reads 43 = .ok (.aload_n 0, 1) := by decide +kernel
theorem dX13_reads_44 : decode cX13_reads 44 = .ok (.iload_n 3, 1) := by decide +kernel
theorem dX13_reads_45 : decode cX13_reads 45 = .ok (.invokevirtual 237, 3) := by decide +kernel
theorem dX13_reads_48 : decode cX13_reads 48 = .ok (.goto 4, 3) := by decide +kernel
theorem dX13_reads_51 : decode cX13_reads 51 = .ok (.iconst 0, 1) := by decide +kernel
theorem dX13_reads_52 : decode cX13_reads 52 = .ok (.iastore, 1) := by decide +kernel
theorem dX13_reads_53 : decode cX13_reads 53 = .ok (.aload_n 0, 1) := by decide +kernel
theorem dX13_reads_54 : decode cX13_reads 54 = .ok (.aload 4, 2) := by decide +kernel
theorem dX13_reads_56 : decode cX13_reads 56 = .ok (.invokevirtual 233, 3) := by decide +kernel
theorem dX13_reads_59 : decode cX13_reads 59 = .ok (.aload_n 0, 1) := by decide +kernel
theorem dX13_reads_60 : decode cX13_reads 60 = .ok (.getfield 33, 3) := by decide +kernel
theorem dX13_reads_63 : decode cX13_reads 63 = .ok (.iload 6, 2) := by decide +kernel
theorem dX13_reads_65 : decode cX13_reads 65 = .ok (.iconst 2, 1) := by decide +kernel
theorem dX13_reads_66 : decode cX13_reads 66 = .ok (.iadd, 1) := by decide +kernel
theorem dX13_reads_67 : decode cX13_reads 67 = .ok (.iload 5, 2) := by decide +kernel
theorem dX13_reads_69 : decode cX13_reads 69 = .ok (.ifCond .le 12, 3) := by decide +kernel
theorem dX13_reads_72 : decode cX13_reads 72 = .ok (.aload_n 0, 1) := by decide +kernel
theorem dX13_reads_73 : decode cX13_reads 73 = .ok (.iload 5, 2) := by decide +kernel
theorem dX13_reads_75 : decode cX13_reads 75 = .ok (.invokevirtual 237, 3) := by decide +kernel
theorem dX13_reads_78 : decode cX13_reads 78 = .ok (.goto 4, 3) := by decide +kernel
theorem dX13_reads_81 : decode cX13_reads 81 = .ok (.iconst 0, 1) := by decide +kernel
theorem dX13_reads_82 : decode cX13_reads 82 = .ok (.iastore, 1) := by decide +kernel
theorem dX13_reads_83 : decode cX13_reads 83 = .ok (.return_, 1) := by decide +kernel
theorem dX13_kind_0 : decode cX13_kind 0 = .ok (.aload_n 0, 1) := by decide +kernel
theorem dX13_kind_1 : decode cX13_kind 1 = .ok (.iconst 1, 1) := by decide +kernel
theorem dX13_kind_2 : decode cX13_kind 2 = .ok (.invokevirtual 219, 3) := by decide +kernel
theorem dX13_kind_5 : decode cX13_kind 5 = .ok (.istore_n 1, 1) := by decide +kernel
theorem dX13_kind_6 : decode cX13_kind 6 = .ok (.aload_n 0, 1) := by decide +kernel
theorem dX13_kind_7 : decode cX13_kind 7 = .ok (.iconst 2, 1) := by decide +kernel
theorem dX13_kind_8 : decode cX13_kind 8 = .ok (.invokevirtual 219, 3) := by decide +kernel
theorem dX13_kind_11 : decode cX13_kind 11 = .ok (.istore_n 2, 1) := by decide +kernel
theorem dX13_kind_12 : decode cX13_kind 12 = .ok (.aload_n 0, 1) := by decide +kernel
theorem dX13_kind_13 : decode cX13_kind 13 = .ok (.iconst 0, 1) := by decide +kernel
theorem dX13_kind_14 : decode cX13_kind 14 = .ok (.invokevirtual 219, 3) := by decide +kernel
theorem dX13_kind_17 : decode cX13_kind 17 = .ok (.tableswitch 165 97 115 #[91, 165, 125, 165, 165, 165, 165, 165, 165, 165, 165, 139, 165, 165, 165, 162, 165, 159, 105], 91) := by decide +kernel
theorem dX13_kind_108 : decode cX13_kind 108 = .ok (.iload_n 1, 1) := by decide +kernel
theorem dX13_kind_109 : decode cX13_kind 109 = .ok (.bipush 117, 2) := by decide +kernel
theorem dX13_kind_111 : decode cX13_kind 111 = .ok (.if_icmp .ne 8, 3) := by decide +kernel
theorem dX13_kind_114 : decode cX13_kind 114 = .ok (.bipush 117, 2) := by decide +kernel
theorem dX13_kind_116 : decode cX13_kind 116 = .ok (.goto 5, 3) := by decide +kernel
theorem dX13_kind_119 : decode cX13_kind 119 = .ok (.bipush 97, 2) := by decide +kernel
theorem dX13_kind_121 : decode cX13_kind 121 = .ok (.ireturn, 1) := by decide +kernel
theorem dX13_kind_122 : decode cX13_kind 122 = .ok (.iload_n 1, 1) := by decide +kernel
theorem dX13_kind_123 : decode cX13_kind 123 = .ok (.bipush 101, 2) := by decide +kernel
theorem dX13_kind_125 : decode cX13_kind 125 = .ok (.if_icmp .ne 14, 3) := by decide +kernel
theorem dX13_kind_128 : decode cX13_kind 128 = .ok (.iload_n 2, 1) := by decide +kernel
theorem dX13_kind_129 : decode cX13_kind 129 = .ok (.bipush 101, 2) := by decide +kernel
theorem dX13_kind_131 : decode cX13_kind 131 = .ok (.if_icmp .ne 8, 3) := by decide +kernel
theorem dX13_kind_134 : decode cX13_kind 134 = .ok (.bipush 100, 2) := by decide +kernel
theorem dX13_kind_136 : decode cX13_kind 136 = .ok (.goto 5, 3) := by decide +kernel
theorem dX13_kind_139 : decode cX13_kind 139 = .ok (.bipush 115, 2) := by decide +kernel
theorem dX13_kind_141 : decode cX13_kind 141 = .ok (.ireturn, 1) := by decide +kernel
theorem dX13_kind_142 : decode cX13_kind 142 = .ok (.iload_n 1, 1) := by decide +kernel
theorem dX13_kind_143 : decode cX13_kind 143 = .ok (.bipush 117, 2) := by decide +kernel
theorem dX13_kind_145 : decode cX13_kind 145 = .ok (.if_icmp .ne 8, 3) := by decide +kernel
theorem dX13_kind_148 : decode cX13_kind 148 = .ok (.bipush 116, 2) := by decide +kernel
theorem dX13_kind_150 : decode cX13_kind 150 = .ok (.goto 5, 3) := by decide +kernel
theorem dX13_kind_153 : decode cX13_kind 153 = .ok (.bipush 99, 2) := by decide +kernel
theorem dX13_kind_155 : decode cX13_kind 155 = .ok (.ireturn, 1) := by decide +kernel
theorem dX13_kind_156 : decode cX13_kind 156 = .ok (.iload_n 1, 1) := by decide +kernel
theorem dX13_kind_157 : decode cX13_kind 157 = .ok (.bipush 105, 2) := by decide +kernel
theorem dX13_kind_159 : decode cX13_kind 159 = .ok (.if_icmp .ne 14, 3) := by decide +kernel
theorem dX13_kind_162 : decode cX13_kind 162 = .ok (.iload_n 2, 1) := by decide +kernel
theorem dX13_kind_163 : decode cX13_kind 163 = .ok (.bipush 109, 2) := by decide +kernel
theorem dX13_kind_165 : decode cX13_kind 165 = .ok (.if_icmp .ne 8, 3) := by decide +kernel
theorem dX13_kind_168 : decode cX13_kind 168 = .ok (.bipush 109, 2) := by decide +kernel
theorem dX13_kind_170 : decode cX13_kind 170 = .ok (.goto 5, 3) := by decide +kernel
theorem dX13_kind_173 : decode cX13_kind 173 = .ok (.bipush 108, 2) := by decide +kernel
theorem dX13_kind_175 : decode cX13_kind 175 = .ok (.ireturn, 1) := by decide +kernel
theorem dX13_kind_176 : decode cX13_kind 176 = .ok (.bipush 114, 2) := by decide +kernel
theorem dX13_kind_178 : decode cX13_kind 178 = .ok (.ireturn, 1) := by decide +kernel
theorem dX13_kind_179 : decode cX13_kind 179 = .ok (.bipush 112, 2) := by decide +kernel
theorem dX13_kind_181 : decode cX13_kind 181 = .ok (.ireturn, 1) := by decide +kernel
theorem dX13_kind_182 : decode cX13_kind 182 = .ok (.bipush 106, 2) := by decide +kernel
theorem dX13_kind_184 : decode cX13_kind 184 = .ok (.ireturn, 1) := by decide +kernel
theorem dX13_readsCommand_0 : decode cX13_readsCommand 0 = .ok (.aload_n 0, 1) := by decide +kernel
theorem dX13_readsCommand_1 : decode cX13_readsCommand 1 = .ok (.getfield 215, 3) := by decide +kernel
theorem dX13_readsCommand_4 : decode cX13_readsCommand 4 = .ok (.ifCond .eq 4, 3) := by decide +kernel
theorem dX13_readsCommand_7 : decode cX13_readsCommand 7 = .ok (.return_, 1) := by decide +kernel
theorem dX13_readsCommand_8 : decode cX13_readsCommand 8 = .ok (.aload_n 0, 1) := by decide +kernel
theorem dX13_readsCommand_9 : decode cX13_readsCommand 9 = .ok (.invokevirtual 240, 3) := by decide +kernel
theorem dX13_readsCommand_12 : decode cX13_readsCommand 12 = .ok (.istore_n 1, 1) := by decide +kernel
theorem dX13_readsCommand_13 : decode cX13_readsCommand 13 = .ok (.iload_n 1, 1) := by decide +kernel
theorem dX13_readsCommand_14 : decode cX13_readsCommand 14 = .ok (.tableswitch 247 97 117 #[98, 247, 155, 140, 247, 247, 247, 247, 247, 247, 247, 186, 202, 247, 247, 232, 247, 217, 126, 170, 112], 98) := by decide +kernel
theorem dX13_readsCommand_112 : decode cX13_readsCommand 112 = .ok (.aload_n 0, 1) := by decide +kernel
theorem dX13_readsCommand_113 : decode cX13_readsCommand 113 = .ok (.iload_n 1, 1) := by decide +kernel
theorem dX13_readsCommand_114 : decode cX13_readsCommand 114 = .ok (.ldc 243, 2) := by decide +kernel
theorem dX13_readsCommand_116 : decode cX13_readsCommand 116 = .ok (.iconst 4, 1) := by decide +kernel
theorem dX13_readsCommand_117 : decode cX13_readsCommand 117 = .ok (.ldc 245, 2) := by decide +kernel
theorem dX13_readsCommand_119 : decode cX13_readsCommand 119 = .ok (.iconst 0, 1) := by decide +kernel
theorem dX13_readsCommand_120 : decode cX13_readsCommand 120 = .ok (.invokevirtual 247, 3) := by decide +kernel
theorem dX13_readsCommand_123 : decode cX13_readsCommand 123 = .ok (.goto 150, 3) := by decide +kernel
theorem dX13_readsCommand_126 : decode cX13_readsCommand 126 = .ok (.aload_n 0, 1) := by decide +kernel
theorem dX13_readsCommand_127 : decode cX13_readsCommand 127 = .ok (.iload_n 1, 1) := by decide +kernel
theorem dX13_readsCommand_128 : decode cX13_readsCommand 128 = .ok (.ldc 251, 2) := by decide +kernel
theorem dX13_readsCommand_130 : decode cX13_readsCommand 130 = .ok (.iconst 1, 1) := by decide +kernel
theorem dX13_readsCommand_131 : decode cX13_readsCommand 131 = .ok (.ldc 245, 2) := by decide +kernel
theorem dX13_readsCommand_133 : decode cX13_readsCommand 133 = .ok (.iconst 0, 1) := by decide +kernel
theorem dX13_readsCommand_134 : decode cX13_readsCommand 134 = .ok (.invokevirtual 247, 3) := by decide +kernel
theorem dX13_readsCommand_137 : decode cX13_readsCommand 137 = .ok (.goto 136, 3) := by decide +kernel
theorem dX13_readsCommand_140 : decode cX13_readsCommand 140 = .ok (.aload_n 0, 1) := by decide +kernel
theorem dX13_readsCommand_141 : decode cX13_readsCommand 141 = .ok (.iload_n 1, 1) := by decide +kernel
theorem dX13_readsCommand_142 : decode cX13_readsCommand 142 = .ok (.ldc 253, 2) := by decide +kernel
theorem dX13_readsCommand_144 : decode cX13_readsCommand 144 = .ok (.iconst 1, 1) := by decide +kernel
theorem dX13_readsCommand_145 : decode cX13_readsCommand 145 = .ok (.ldc 255, 2) := by decide +kernel
theorem dX13_readsCommand_147 : decode cX13_readsCommand 147 = .ok (.iconst 2, 1) := by decide +kernel
theorem dX13_readsCommand_148 : decode cX13_readsCommand 148 = .ok (.invokevirtual 247, 3) := by decide +kernel
theorem dX13_readsCommand_151 : decode cX13_readsCommand 151 = .ok (.goto 122, 3) := by decide +kernel
theorem dX13_readsCommand_154 : decode cX13_readsCommand 154 = .ok (.aload_n 0, 1) := by decide +kernel
theorem dX13_readsCommand_155 : decode cX13_readsCommand 155 = .ok (.iload_n 1, 1) := by decide +kernel
theorem dX13_readsCommand_156 : decode cX13_readsCommand 156 = .ok (.ldc_w 257, 3) := by decide +kernel
theorem dX13_readsCommand_159 : decode cX13_readsCommand 159 = .ok (.iconst 4, 1) := by decide +kernel
theorem dX13_readsCommand_160 : decode cX13_readsCommand 160 = .ok (.ldc 245, 2) := by decide +kernel
theorem dX13_readsCommand_162 : decode cX13_readsCommand 162 = .ok (.iconst 0, 1) := by decide +kernel
theorem dX13_readsCommand_163 : decode cX13_readsCommand 163 = .ok (.invokevirtual 247, 3) := by decide +kernel
theorem dX13_readsCommand_166 : decode cX13_readsCommand 166 = .ok (.goto 107, 3) := by decide +kernel
theorem dX13_readsCommand_169 : decode cX13_readsCommand 169 = .ok (.aload_n 0, 1) := by decide +kernel
theorem dX13_readsCommand_170 : decode cX13_readsCommand 170 = .ok (.iload_n 1, 1) := by decide +kernel
theorem dX13_readsCommand_171 : decode cX13_readsCommand 171 = .ok (.ldc_w 259, 3) := by decide +kernel
theorem dX13_readsCommand_174 : decode cX13_readsCommand 174 = .ok (.iconst 0, 1) := by decide +kernel
theorem dX13_readsCommand_175 : decode cX13_readsCommand 175 = .ok (.ldc 245, 2) := by decide +kernel
theorem dX13_readsCommand_177 : decode cX13_readsCommand 177 = .ok (.iconst 0, 1) := by decide +kernel
theorem dX13_readsCommand_178 : decode cX13_readsCommand 178 = .ok (.invokevirtual 247, 3) := by decide +kernel
theorem dX13_readsCommand_181 : decode cX13_readsCommand 181 = .ok (.goto 92, 3) := by decide +kernel
theorem dX13_readsCommand_184 : decode cX13_readsCommand 184 = .ok (.aload_n 0, 1) := by decide +kernel
theorem dX13_readsCommand_185 : decode cX13_readsCommand 185 = .ok (.iload_n 1, 1) := by decide +kernel
theorem dX13_readsCommand_186 : decode cX13_readsCommand 186 = .ok (.ldc_w 261, 3) := by decide +kernel
theorem dX13_readsCommand_189 : decode cX13_readsCommand 189 = .ok (.iconst 1, 1) := by decide +kernel
theorem dX13_readsCommand_190 : decode cX13_readsCommand 190 = .ok (.ldc_w 263, 3) := by decide +kernel
theorem dX13_readsCommand_193 : decode cX13_readsCommand 193 = .ok (.iconst 1, 1) := by decide +kernel
theorem dX13_readsCommand_194 : decode cX13_readsCommand 194 = .ok (.invokevirtual 247, 3) := by decide +kernel
theorem dX13_readsCommand_197 : decode cX13_readsCommand 197 = .ok (.goto 76, 3) := by decide +kernel
theorem dX13_readsCommand_200 : decode cX13_readsCommand 200 = .ok (.aload_n 0, 1) := by decide +kernel
theorem dX13_readsCommand_201 : decode cX13_readsCommand 201 = .ok (.iload_n 1, 1) := by decide +kernel
theorem dX13_readsCommand_202 : decode cX13_readsCommand 202 = .ok (.ldc_w 265, 3) := by decide +kernel
theorem dX13_readsCommand_205 : decode cX13_readsCommand 205 = .ok (.iconst 1, 1) := by decide +kernel
theorem dX13_readsCommand_206 : decode cX13_readsCommand 206 = .ok (.ldc_w 263, 3) := by decide +kernel
theorem dX13_readsCommand_209 : decode cX13_readsCommand 209 = .ok (.iconst 1, 1) := by decide +kernel
theorem dX13_readsCommand_210 : decode cX13_readsCommand 210 = .ok (.invokevirtual 247, 3) := by decide +kernel
theorem dX13_readsCommand_213 : decode cX13_readsCommand 213 = .ok (.goto 60, 3) := by decide +kernel
theorem dX13_readsCommand_216 : decode cX13_readsCommand 216 = .ok (.aload_n 0, 1) := by decide +kernel
theorem dX13_readsCommand_217 : decode cX13_readsCommand 217 = .ok (.iload_n 1, 1) := by decide +kernel
theorem dX13_readsCommand_218 : decode cX13_readsCommand 218 = .ok (.ldc_w 267, 3) := by decide +kernel
theorem dX13_readsCommand_221 : decode cX13_readsCommand 221 = .ok (.iconst 2, 1) := by decide +kernel
theorem dX13_readsCommand_222 : decode cX13_readsCommand 222 = .ok (.ldc 245, 2) := by decide +kernel
theorem dX13_readsCommand_224 : decode cX13_readsCommand 224 = .ok (.iconst 0, 1) := by decide +kernel
theorem dX13_readsCommand_225 : decode cX13_readsCommand 225 = .ok (.invokevirtual 247, 3) := by decide +kernel
theorem dX13_readsCommand_228 : decode cX13_readsCommand 228 = .ok (.goto 45, 3) := by decide +kernel
theorem dX13_readsCommand_231 : decode cX13_readsCommand 231 = .ok (.aload_n 0, 1) := by decide +kernel
theorem dX13_readsCommand_232 : decode cX13_readsCommand 232 = .ok (.iload_n 1, 1) := by decide +kernel
theorem dX13_readsCommand_233 : decode cX13_readsCommand 233 = .ok (.ldc_w 269, 3) := by decide +kernel
theorem dX13_readsCommand_236 : decode cX13_readsCommand 236 = .ok (.iconst 1, 1) := by decide +kernel
theorem dX13_readsCommand_237 : decode cX13_readsCommand 237 = .ok (.ldc 245, 2) := by decide +kernel
theorem dX13_readsCommand_239 : decode cX13_readsCommand 239 = .ok (.iconst 0, 1) := by decide +kernel
theorem dX13_readsCommand_240 : decode cX13_readsCommand 240 = .ok (.invokevirtual 247, 3) := by decide +kernel
theorem dX13_readsCommand_243 : decode cX13_readsCommand 243 = .ok (.goto 30, 3) := by decide +kernel
theorem dX13_readsCommand_246 : decode cX13_readsCommand 246 = .ok (.aload_n 0, 1) := by decide +kernel
theorem dX13_readsCommand_247 : decode cX13_readsCommand 247 = .ok (.iload_n 1, 1) := by decide +kernel
theorem dX13_readsCommand_248 : decode cX13_readsCommand 248 = .ok (.ldc_w 271, 3) := by decide +kernel
theorem dX13_readsCommand_251 : decode cX13_readsCommand 251 = .ok (.iconst 1, 1) := by decide +kernel
theorem dX13_readsCommand_252 : decode cX13_readsCommand 252 = .ok (.ldc 245, 2) := by decide +kernel
theorem dX13_readsCommand_254 : decode cX13_readsCommand 254 = .ok (.iconst 0, 1) := by decide +kernel
theorem dX13_readsCommand_255 : decode cX13_readsCommand 255 = .ok (.invokevirtual 247, 3) := by decide +kernel
theorem dX13_readsCommand_258 : decode cX13_readsCommand 258 = .ok (.goto 15, 3) := by decide +kernel
theorem dX13_readsCommand_261 : decode cX13_readsCommand 261 = .ok (.aload_n 0, 1) := by decide +kernel
theorem dX13_readsCommand_262 : decode cX13_readsCommand 262 = .ok (.iload_n 1, 1) := by decide +kernel
theorem dX13_readsCommand_263 : decode cX13_readsCommand 263 = .ok (.ldc_w 273, 3) := by decide +kernel
theorem dX13_readsCommand_266 : decode cX13_readsCommand 266 = .ok (.iconst 2, 1) := by decide +kernel
theorem dX13_readsCommand_267 : decode cX13_readsCommand 267 = .ok (.ldc 255, 2) := by decide +kernel
theorem dX13_readsCommand_269 : decode cX13_readsCommand 269 = .ok (.iconst 2, 1) := by decide +kernel
theorem dX13_readsCommand_270 : decode cX13_readsCommand 270 = .ok (.invokevirtual 247, 3) := by decide +kernel
theorem dX13_readsCommand_273 : decode cX13_readsCommand 273 = .ok (.return_, 1) := by decide +kernel
theorem dX13_does_0 : decode cX13_does 0 = .ok (.aload_n 0, 1) := by decide +kernel
theorem dX13_does_1 : decode cX13_does 1 = .ok (.getfield 33, 3) := by decide +kernel
theorem dX13_does_4 : decode cX13_does 4 = .ok (.iconst 3, 1) := by decide +kernel
theorem dX13_does_5 : decode cX13_does 5 = .ok (.iload_n 1, 1) := by decide +kernel
theorem dX13_does_6 : decode cX13_does 6 = .ok (.imul, 1) := by decide +kernel
theorem dX13_does_7 : decode cX13_does 7 = .ok (.iconst 1, 1) := by decide +kernel
theorem dX13_does_8 : decode cX13_does 8 = .ok (.iadd, 1) := by decide +kernel
theorem dX13_does_9 : decode cX13_does 9 = .ok (.iaload, 1) := by decide +kernel
theorem dX13_does_10 : decode cX13_does 10 = .ok (.istore_n 2, 1) := by decide +kernel
theorem dX13_does_11 : decode cX13_does 11 = .ok (.aload_n 0, 1) := by decide +kernel
theorem dX13_does_12 : decode cX13_does 12 = .ok (.getfield 33, 3) := by decide +kernel
theorem dX13_does_15 : decode cX13_does 15 = .ok (.iconst 3, 1) := by decide +kernel
theorem dX13_does_16 : decode cX13_does 16 = .ok (.iload_n 1, 1) := by decide +kernel
theorem dX13_does_17 : decode cX13_does 17 = .ok (.imul, 1) := by decide +kernel
theorem dX13_does_18 : decode cX13_does 18 = .ok (.iconst 2, 1) := by decide +kernel
theorem dX13_does_19 : decode cX13_does 19 = .ok (.iadd, 1) := by decide +kernel
theorem dX13_does_20 : decode cX13_does 20 = .ok (.iaload, 1) := by decide +kernel
theorem dX13_does_21 : decode cX13_does 21 = .ok (.istore_n 3, 1) := by decide +kernel
theorem dX13_does_22 : decode cX13_does 22 = .ok (.aload_n 0, 1) := by decide +kernel
theorem dX13_does_23 : decode cX13_does 23 = .ok (.getfield 33, 3) := by decide +kernel
theorem dX13_does_26 : decode cX13_does 26 = .ok (.iconst 3, 1) := by decide +kernel
theorem dX13_does_27 : decode cX13_does 27 = .ok (.iload_n 1, 1) := by decide +kernel
theorem dX13_does_28 : decode cX13_does 28 = .ok (.imul, 1) := by decide +kernel
theorem dX13_does_29 : decode cX13_does 29 = .ok (.iaload, 1) := by decide +kernel
theorem dX13_does_30 : decode cX13_does 30 = .ok (.tableswitch 202 97 117 #[98, 202, 139, 129, 202, 202, 202, 202, 202, 202, 202, 160, 172, 202, 202, 192, 202, 182, 118, 148, 108], 98) := by decide +kernel
theorem dX13_does_128 : decode cX13_does 128 = .ok (.aload_n 0, 1) := by decide +kernel
theorem dX13_does_129 : decode cX13_does 129 = .ok (.iload_n 2, 1) := by decide +kernel
theorem dX13_does_130 : decode cX13_does 130 = .ok (.invokevirtual 131, 3) := by decide +kernel
theorem dX13_does_133 : decode cX13_does 133 = .ok (.istore 4, 2) := by decide +kernel
theorem dX13_does_135 : decode cX13_does 135 = .ok (.goto 105, 3) := by decide +kernel
theorem dX13_does_138 : decode cX13_does 138 = .ok (.aload_n 0, 1) := by decide +kernel
theorem dX13_does_139 : decode cX13_does 139 = .ok (.iload_n 2, 1) := by decide +kernel
theorem dX13_does_140 : decode cX13_does 140 = .ok (.invokevirtual 147, 3) := by decide +kernel
theorem dX13_does_143 : decode cX13_does 143 = .ok (.istore 4, 2) := by decide +kernel
theorem dX13_does_145 : decode cX13_does 145 = .ok (.goto 95, 3) := by decide +kernel
theorem dX13_does_148 : decode cX13_does 148 = .ok (.aload_n 0, 1) := by decide +kernel
theorem dX13_does_149 : decode cX13_does 149 = .ok (.iload_n 2, 1) := by decide +kernel
theorem dX13_does_150 : decode cX13_does 150 = .ok (.iload_n 3, 1) := by decide +kernel
theorem dX13_does_151 : decode cX13_does 151 = .ok (.invokevirtual 134, 3) := by decide +kernel
theorem dX13_does_154 : decode cX13_does 154 = .ok (.istore 4, 2) := by decide +kernel
theorem dX13_does_156 : decode cX13_does 156 = .ok (.goto 84, 3) := by decide +kernel
theorem dX13_does_159 : decode cX13_does 159 = .ok (.aload_n 0, 1) := by decide +kernel
theorem dX13_does_160 : decode cX13_does 160 = .ok (.iload_n 2, 1) := by decide +kernel
theorem dX13_does_161 : decode cX13_does 161 = .ok (.invokevirtual 150, 3) := by decide +kernel
theorem dX13_does_164 : decode cX13_does 164 = .ok (.istore 4, 2) := by decide +kernel
theorem dX13_does_166 : decode cX13_does 166 = .ok (.goto 74, 3) := by decide +kernel
theorem dX13_does_169 : decode cX13_does 169 = .ok (.aload_n 0, 1) := by decide +kernel
theorem dX13_does_170 : decode cX13_does 170 = .ok (.invokevirtual 137, 3) := by decide +kernel
theorem dX13_does_173 : decode cX13_does 173 = .ok (.istore 4, 2) := by decide +kernel
theorem dX13_does_175 : decode cX13_does 175 = .ok (.goto 65, 3) := by decide +kernel
theorem dX13_does_178 : decode cX13_does 178 = .ok (.aload_n 0, 1) := by decide +kernel
theorem dX13_does_179 : decode cX13_does 179 = .ok (.iload_n 2, 1) := by decide +kernel
theorem dX13_does_180 : decode cX13_does 180 = .ok (.iload_n 3, 1) := by decide +kernel
theorem dX13_does_181 : decode cX13_does 181 = .ok (.iconst 0, 1) := by decide +kernel
theorem dX13_does_182 : decode cX13_does 182 = .ok (.invokevirtual 163, 3) := by decide +kernel
theorem dX13_does_185 : decode cX13_does 185 = .ok (.istore 4, 2) := by decide +kernel
theorem dX13_does_187 : decode cX13_does 187 = .ok (.goto 53, 3) := by decide +kernel
theorem dX13_does_190 : decode cX13_does 190 = .ok (.aload_n 0, 1) := by decide +kernel
theorem dX13_does_191 : decode cX13_does 191 = .ok (.iload_n 2, 1) := by decide +kernel
theorem dX13_does_192 : decode cX13_does 192 = .ok (.iload_n 3, 1) := by decide +kernel
theorem dX13_does_193 : decode cX13_does 193 = .ok (.iconst 1, 1) := by decide +kernel
theorem dX13_does_194 : decode cX13_does 194 = .ok (.invokevirtual 163, 3) := by decide +kernel
theorem dX13_does_197 : decode cX13_does 197 = .ok (.istore 4, 2) := by decide +kernel
theorem dX13_does_199 : decode cX13_does 199 = .ok (.goto 41, 3) := by decide +kernel
theorem dX13_does_202 : decode cX13_does 202 = .ok (.aload_n 0, 1) := by decide +kernel
theorem dX13_does_203 : decode cX13_does 203 = .ok (.iload_n 2, 1) := by decide +kernel
theorem dX13_does_204 : decode cX13_does 204 = .ok (.invokevirtual 178, 3) := by decide +kernel
theorem dX13_does_207 : decode cX13_does 207 = .ok (.istore 4, 2) := by decide +kernel
theorem dX13_does_209 : decode cX13_does 209 = .ok (.goto 31, 3) := by decide +kernel
theorem dX13_does_212 : decode cX13_does 212 = .ok (.aload_n 0, 1) := by decide +kernel
theorem dX13_does_213 : decode cX13_does 213 = .ok (.iload_n 2, 1) := by decide +kernel
theorem dX13_does_214 : decode cX13_does 214 = .ok (.invokevirtual 124, 3) := by decide +kernel
theorem dX13_does_217 : decode cX13_does 217 = .ok (.istore 4, 2) := by decide +kernel
theorem dX13_does_219 : decode cX13_does 219 = .ok (.goto 21, 3) := by decide +kernel
theorem dX13_does_222 : decode cX13_does 222 = .ok (.aload_n 0, 1) := by decide +kernel
theorem dX13_does_223 : decode cX13_does 223 = .ok (.iload_n 2, 1) := by decide +kernel
theorem dX13_does_224 : decode cX13_does 224 = .ok (.invokevirtual 104, 3) := by decide +kernel
theorem dX13_does_227 : decode cX13_does 227 = .ok (.istore 4, 2) := by decide +kernel
theorem dX13_does_229 : decode cX13_does 229 = .ok (.goto 11, 3) := by decide +kernel
theorem dX13_does_232 : decode cX13_does 232 = .ok (.aload_n 0, 1) := by decide +kernel
theorem dX13_does_233 : decode cX13_does 233 = .ok (.iload_n 2, 1) := by decide +kernel
theorem dX13_does_234 : decode cX13_does 234 = .ok (.iload_n 3, 1) := by decide +kernel
theorem dX13_does_235 : decode cX13_does 235 = .ok (.invokevirtual 94, 3) := by decide +kernel
theorem dX13_does_238 : decode cX13_does 238 = .ok (.istore 4, 2) := by decide +kernel
theorem dX13_does_240 : decode cX13_does 240 = .ok (.return_, 1) := by decide +kernel
theorem dX13_execute_0 : decode cX13_execute 0 = .ok (.aload_n 0, 1) := by decide +kernel
theorem dX13_execute_1 : decode cX13_execute 1 = .ok (.iconst 0, 1) := by decide +kernel
theorem dX13_execute_2 : decode cX13_execute 2 = .ok (.putfield 208, 3) := by decide +kernel
theorem dX13_execute_5 : decode cX13_execute 5 = .ok (.aload_n 0, 1) := by decide +kernel
theorem dX13_execute_6 : decode cX13_execute 6 = .ok (.iconst 0, 1) := by decide +kernel
theorem dX13_execute_7 : decode cX13_execute 7 = .ok (.putfield 215, 3) := by decide +kernel
theorem dX13_execute_10 : decode cX13_execute 10 = .ok (.aload_n 0, 1) := by decide +kernel
theorem dX13_execute_11 : decode cX13_execute 11 = .ok (.iconst 0, 1) := by decide +kernel
theorem dX13_execute_12 : decode cX13_execute 12 = .ok (.putfield 230, 3) := by decide +kernel
theorem dX13_execute_15 : decode cX13_execute 15 = .ok (.aload_n 0, 1) := by decide +kernel
theorem dX13_execute_16 : decode cX13_execute 16 = .ok (.invokevirtual 275, 3) := by decide +kernel
theorem dX13_execute_19 : decode cX13_execute 19 = .ok (.aload_n 0, 1) := by decide +kernel
theorem dX13_execute_20 : decode cX13_execute 20 = .ok (.getfield 215, 3) := by decide +kernel
theorem dX13_execute_23 : decode cX13_execute 23 = .ok (.ifCond .ne 30, 3) := by decide +kernel
theorem dX13_execute_26 : decode cX13_execute 26 = .ok (.aload_n 0, 1) := by decide +kernel
theorem dX13_execute_27 : decode cX13_execute 27 = .ok (.iconst 0, 1) := by decide +kernel
theorem dX13_execute_28 : decode cX13_execute 28 = .ok (.invokevirtual 219, 3) := by decide +kernel
theorem dX13_execute_31 : decode cX13_execute 31 = .ok (.bipush 59, 2) := by decide +kernel
theorem dX13_execute_33 : decode cX13_execute 33 = .ok (.if_icmp .ne 20, 3) := by decide +kernel
theorem dX13_execute_36 : decode cX13_execute 36 = .ok (.aload_n 0, 1) := by decide +kernel
theorem dX13_execute_37 : decode cX13_execute 37 = .ok (.dup, 1) := by decide +kernel
theorem dX13_execute_38 : decode cX13_execute 38 = .ok (.getfield 208, 3) := by decide +kernel
theorem dX13_execute_41 : decode cX13_execute 41 = .ok (.iconst 1, 1) := by decide +kernel
theorem dX13_execute_42 : decode cX13_execute 42 = .ok (.iadd, 1) := by decide +kernel
theorem dX13_execute_43 : decode cX13_execute 43 = .ok (.putfield 208, 3) := by decide +kernel
theorem dX13_execute_46 : decode cX13_execute 46 = .ok (.aload_n 0, 1) := by decide +kernel
theorem dX13_execute_47 : decode cX13_execute 47 = .ok (.invokevirtual 275, 3) := by decide +kernel
theorem dX13_execute_50 : decode cX13_execute 50 = .ok (.goto (-31), 3) := by decide +kernel
theorem dX13_execute_53 : decode cX13_execute 53 = .ok (.aload_n 0, 1) := by decide +kernel
theorem dX13_execute_54 : decode cX13_execute 54 = .ok (.aload_n 0, 1) := by decide +kernel
theorem dX13_execute_55 : decode cX13_execute 55 = .ok (.getfield 215, 3) := by decide +kernel
theorem dX13_execute_58 : decode cX13_execute 58 = .ok (.ifCond .ne 14, 3) := by decide +kernel
theorem dX13_execute_61 : decode cX13_execute 61 = .ok (.aload_n 0, 1) := by decide +kernel
theorem dX13_execute_62 : decode cX13_execute 62 = .ok (.getfield 208, 3) := by decide +kernel
theorem dX13_execute_65 : decode cX13_execute 65 = .ok (.aload_n 0, 1) := by decide +kernel
theorem dX13_execute_66 : decode cX13_execute 66 = .ok (.getfield 205, 3) := by decide +kernel
theorem dX13_execute_69 : decode cX13_execute 69 = .ok (.if_icmp .ge 7, 3) := by decide +kernel
theorem dX13_execute_72 : decode cX13_execute 72 = .ok (.iconst 1, 1) := by decide +kernel
theorem dX13_execute_73 : decode cX13_execute 73 = .ok (.goto 4, 3) := by decide +kernel
theorem dX13_execute_76 : decode cX13_execute 76 = .ok (.iconst 0, 1) := by decide +kernel
theorem dX13_execute_77 : decode cX13_execute 77 = .ok (.putfield 215, 3) := by decide +kernel
theorem dX13_execute_80 : decode cX13_execute 80 = .ok (.aload_n 0, 1) := by decide +kernel
theorem dX13_execute_81 : decode cX13_execute 81 = .ok (.aload_n 0, 1) := by decide +kernel
theorem dX13_execute_82 : decode cX13_execute 82 = .ok (.getfield 215, 3) := by decide +kernel
theorem dX13_execute_85 : decode cX13_execute 85 = .ok (.ifCond .eq 10, 3) := by decide +kernel
theorem dX13_execute_88 : decode cX13_execute 88 = .ok (.aload_n 0, 1) := by decide +kernel
theorem dX13_execute_89 : decode cX13_execute 89 = .ok (.getfield 208, 3) := by decide +kernel
theorem dX13_execute_92 : decode cX13_execute 92 = .ok (.goto 7, 3) := by decide +kernel
theorem dX13_execute_95 : decode cX13_execute 95 = .ok (.aload_n 0, 1) := by decide +kernel
theorem dX13_execute_96 : decode cX13_execute 96 = .ok (.getfield 29, 3) := by decide +kernel
theorem dX13_execute_99 : decode cX13_execute 99 = .ok (.putfield 29, 3) := by decide +kernel
theorem dX13_execute_102 : decode cX13_execute 102 = .ok (.aload_n 0, 1) := by decide +kernel
theorem dX13_execute_103 : decode cX13_execute 103 = .ok (.iconst 0, 1) := by decide +kernel
theorem dX13_execute_104 : decode cX13_execute 104 = .ok (.putfield 205, 3) := by decide +kernel
theorem dX13_execute_107 : decode cX13_execute 107 = .ok (.aload_n 0, 1) := by decide +kernel
theorem dX13_execute_108 : decode cX13_execute 108 = .ok (.getfield 215, 3) := by decide +kernel
theorem dX13_execute_111 : decode cX13_execute 111 = .ok (.ifCond .eq 9, 3) := by decide +kernel
theorem dX13_execute_114 : decode cX13_execute 114 = .ok (.aload_n 0, 1) := by decide +kernel
theorem dX13_execute_115 : decode cX13_execute 115 = .ok (.iconst 1, 1) := by decide +kernel
theorem dX13_execute_116 : decode cX13_execute 116 = .ok (.invokevirtual 66, 3) := by decide +kernel
theorem dX13_execute_119 : decode cX13_execute 119 = .ok (.ireturn, 1) := by decide +kernel
theorem dX13_execute_120 : decode cX13_execute 120 = .ok (.aload_n 0, 1) := by decide +kernel
theorem dX13_execute_121 : decode cX13_execute 121 = .ok (.invokevirtual 91, 3) := by decide +kernel
theorem dX13_execute_124 : decode cX13_execute 124 = .ok (.iconst 0, 1) := by decide +kernel
theorem dX13_execute_125 : decode cX13_execute 125 = .ok (.istore_n 1, 1) := by decide +kernel
theorem dX13_execute_126 : decode cX13_execute 126 = .ok (.iload_n 1, 1) := by decide +kernel
theorem dX13_execute_127 : decode cX13_execute 127 = .ok (.aload_n 0, 1) := by decide +kernel
theorem dX13_execute_128 : decode cX13_execute 128 = .ok (.getfield 230, 3) := by decide +kernel
theorem dX13_execute_131 : decode cX13_execute 131 = .ok (.if_icmp .ge 52, 3) := by decide +kernel
theorem dX13_execute_134 : decode cX13_execute 134 = .ok (.aload_n 0, 1) := by decide +kernel
theorem dX13_execute_135 : decode cX13_execute 135 = .ok (.iload_n 1, 1) := by decide +kernel
theorem dX13_execute_136 : decode cX13_execute 136 = .ok (.invokevirtual 278, 3) := by decide +kernel
theorem dX13_execute_139 : decode cX13_execute 139 = .ok (.aload_n 0, 1) := by decide +kernel
theorem dX13_execute_140 : decode cX13_execute 140 = .ok (.getfield 39, 3) := by decide +kernel
theorem dX13_execute_143 : decode cX13_execute 143 = .ok (.ifCond .le 34, 3) := by decide +kernel
theorem dX13_execute_146 : decode cX13_execute 146 = .ok (.aload_n 0, 1) := by decide +kernel
theorem dX13_execute_147 : decode cX13_execute 147 = .ok (.getfield 42, 3) := by decide +kernel
theorem dX13_execute_150 : decode cX13_execute 150 = .ok (.ifCond .le 10, 3) := by decide +kernel
theorem dX13_execute_153 : decode cX13_execute 153 = .ok (.aload_n 0, 1) := by decide +kernel
theorem dX13_execute_154 : decode cX13_execute 154 = .ok (.getfield 42, 3) := by decide +kernel
theorem dX13_execute_157 : decode cX13_execute 157 = .ok (.goto 5, 3) := by decide +kernel
theorem dX13_execute_160 : decode cX13_execute 160 = .ok (.bipush 9, 2) := by decide +kernel
theorem dX13_execute_162 : decode cX13_execute 162 = .ok (.istore_n 2, 1) := by decide +kernel
theorem dX13_execute_163 : decode cX13_execute 163 = .ok (.aload_n 0, 1) := by decide +kernel
theorem dX13_execute_164 : decode cX13_execute 164 = .ok (.aload_n 0, 1) := by decide +kernel
theorem dX13_execute_165 : decode cX13_execute 165 = .ok (.iconst 2, 1) := by decide +kernel
theorem dX13_execute_166 : decode cX13_execute 166 = .ok (.bipush 8, 2) := by decide +kernel
theorem dX13_execute_168 : decode cX13_execute 168 = .ok (.iload_n 1, 1) := by decide +kernel
theorem dX13_execute_169 : decode cX13_execute 169 = .ok (.invokevirtual 83, 3) := by decide +kernel
theorem dX13_execute_172 : decode cX13_execute 172 = .ok (.iload_n 2, 1) := by decide +kernel
theorem dX13_execute_173 : decode cX13_execute 173 = .ok (.invokevirtual 97, 3) := by decide +kernel
theorem dX13_execute_176 : decode cX13_execute 176 = .ok (.ireturn, 1) := by decide +kernel
theorem dX13_execute_177 : decode cX13_execute 177 = .ok (.iinc 1 1, 3) := by decide +kernel
theorem dX13_execute_180 : decode cX13_execute 180 = .ok (.goto (-54), 3) := by decide +kernel
theorem dX13_execute_183 : decode cX13_execute 183 = .ok (.aload_n 0, 1) := by decide +kernel
theorem dX13_execute_184 : decode cX13_execute 184 = .ok (.aload_n 0, 1) := by decide +kernel
theorem dX13_execute_185 : decode cX13_execute 185 = .ok (.getfield 230, 3) := by decide +kernel
theorem dX13_execute_188 : decode cX13_execute 188 = .ok (.iconst 0, 1) := by decide +kernel
theorem dX13_execute_189 : decode cX13_execute 189 = .ok (.invokevirtual 97, 3) := by decide +kernel
theorem dX13_execute_192 : decode cX13_execute 192 = .ok (.ireturn, 1) := by decide +kernel
theorem dX13_faultPosition_0 : decode cX13_faultPosition 0 = .ok (.aload_n 0, 1) := by decide +kernel
theorem dX13_faultPosition_1 : decode cX13_faultPosition 1 = .ok (.aload_n 0, 1) := by decide +kernel
theorem dX13_faultPosition_2 : decode cX13_faultPosition 2 = .ok (.getfield 29, 3) := by decide +kernel
theorem dX13_faultPosition_5 : decode cX13_faultPosition 5 = .ok (.ifCond .lt 7, 3) := by decide +kernel
theorem dX13_faultPosition_8 : decode cX13_faultPosition 8 = .ok (.iconst 1, 1) := by decide +kernel
theorem dX13_faultPosition_9 : decode cX13_faultPosition 9 = .ok (.goto 4, 3) := by decide +kernel
theorem dX13_faultPosition_12 : decode cX13_faultPosition 12 = .ok (.iconst 0, 1) := by decide +kernel
theorem dX13_faultPosition_13 : decode cX13_faultPosition 13 = .ok (.invokevirtual 107, 3) := by decide +kernel
theorem dX13_faultPosition_16 : decode cX13_faultPosition 16 = .ok (.ifCond .eq 10, 3) := by decide +kernel
theorem dX13_faultPosition_19 : decode cX13_faultPosition 19 = .ok (.aload_n 0, 1) := by decide +kernel
theorem dX13_faultPosition_20 : decode cX13_faultPosition 20 = .ok (.getfield 29, 3) := by decide +kernel
theorem dX13_faultPosition_23 : decode cX13_faultPosition 23 = .ok (.goto 4, 3) := by decide +kernel
theorem dX13_faultPosition_26 : decode cX13_faultPosition 26 = .ok (.iconst 0, 1) := by decide +kernel
theorem dX13_faultPosition_27 : decode cX13_faultPosition 27 = .ok (.ireturn, 1) := by decide +kernel
theorem dX13_says_0 : decode cX13_says 0 = .ok (.aload_n 0, 1) := by decide +kernel
theorem dX13_says_1 : decode cX13_says 1 = .ok (.getfield 36, 3) := by decide +kernel
theorem dX13_says_4 : decode cX13_says 4 = .ok (.aload_n 0, 1) := by decide +kernel
theorem dX13_says_5 : decode cX13_says 5 = .ok (.getfield 282, 3) := by decide +kernel
theorem dX13_says_8 : decode cX13_says 8 = .ok (.iload_n 1, 1) := by decide +kernel
theorem dX13_says_9 : decode cX13_says 9 = .ok (.i2c, 1) := by decide +kernel
theorem dX13_says_10 : decode cX13_says 10 = .ok (.castore, 1) := by decide +kernel
theorem dX13_says_11 : decode cX13_says 11 = .ok (.aload_n 0, 1) := by decide +kernel
theorem dX13_says_12 : decode cX13_says 12 = .ok (.dup, 1) := by decide +kernel
theorem dX13_says_13 : decode cX13_says 13 = .ok (.getfield 282, 3) := by decide +kernel
theorem dX13_says_16 : decode cX13_says 16 = .ok (.iconst 1, 1) := by decide +kernel
theorem dX13_says_17 : decode cX13_says 17 = .ok (.iadd, 1) := by decide +kernel
theorem dX13_says_18 : decode cX13_says 18 = .ok (.putfield 282, 3) := by decide +kernel
theorem dX13_says_21 : decode cX13_says 21 = .ok (.return_, 1) := by decide +kernel
theorem dX13_saysNumber_0 : decode cX13_saysNumber 0 = .ok (.iload_n 1, 1) := by decide +kernel
theorem dX13_saysNumber_1 : decode cX13_saysNumber 1 = .ok (.bipush 9, 2) := by decide +kernel
theorem dX13_saysNumber_3 : decode cX13_saysNumber 3 = .ok (.if_icmp .le 11, 3) := by decide +kernel
theorem dX13_saysNumber_6 : decode cX13_saysNumber 6 = .ok (.aload_n 0, 1) := by decide +kernel
theorem dX13_saysNumber_7 : decode cX13_saysNumber 7 = .ok (.iload_n 1, 1) := by decide +kernel
theorem dX13_saysNumber_8 : decode cX13_saysNumber 8 = .ok (.bipush 10, 2) := by decide +kernel
theorem dX13_saysNumber_10 : decode cX13_saysNumber 10 = .ok (.idiv, 1) := by decide +kernel
theorem dX13_saysNumber_11 : decode cX13_saysNumber 11 = .ok (.invokevirtual 285, 3) := by decide +kernel
theorem dX13_saysNumber_14 : decode cX13_saysNumber 14 = .ok (.aload_n 0, 1) := by decide +kernel
theorem dX13_saysNumber_15 : decode cX13_saysNumber 15 = .ok (.bipush 48, 2) := by decide +kernel
theorem dX13_saysNumber_17 : decode cX13_saysNumber 17 = .ok (.iload_n 1, 1) := by decide +kernel
theorem dX13_saysNumber_18 : decode cX13_saysNumber 18 = .ok (.bipush 10, 2) := by decide +kernel
theorem dX13_saysNumber_20 : decode cX13_saysNumber 20 = .ok (.irem, 1) := by decide +kernel
theorem dX13_saysNumber_21 : decode cX13_saysNumber 21 = .ok (.iadd, 1) := by decide +kernel
theorem dX13_saysNumber_22 : decode cX13_saysNumber 22 = .ok (.invokevirtual 288, 3) := by decide +kernel
theorem dX13_saysNumber_25 : decode cX13_saysNumber 25 = .ok (.return_, 1) := by decide +kernel
theorem dX13_writeMember_0 : decode cX13_writeMember 0 = .ok (.aload_n 0, 1) := by decide +kernel
theorem dX13_writeMember_1 : decode cX13_writeMember 1 = .ok (.aload_n 0, 1) := by decide +kernel
theorem dX13_writeMember_2 : decode cX13_writeMember 2 = .ok (.iload_n 1, 1) := by decide +kernel
theorem dX13_writeMember_3 : decode cX13_writeMember 3 = .ok (.invokevirtual 100, 3) := by decide +kernel
theorem dX13_writeMember_6 : decode cX13_writeMember 6 = .ok (.invokevirtual 107, 3) := by decide +kernel
theorem dX13_writeMember_9 : decode cX13_writeMember 9 = .ok (.ifCond .ne 5, 3) := by decide +kernel
theorem dX13_writeMember_12 : decode cX13_writeMember 12 = .ok (.iconst 0, 1) := by decide +kernel
theorem dX13_writeMember_13 : decode cX13_writeMember 13 = .ok (.ireturn, 1) := by decide +kernel
theorem dX13_writeMember_14 : decode cX13_writeMember 14 = .ok (.aload_n 0, 1) := by decide +kernel
theorem dX13_writeMember_15 : decode cX13_writeMember 15 = .ok (.iconst 0, 1) := by decide +kernel
theorem dX13_writeMember_16 : decode cX13_writeMember 16 = .ok (.putfield 282, 3) := by decide +kernel
theorem dX13_writeMember_19 : decode cX13_writeMember 19 = .ok (.aload_n 0, 1) := by decide +kernel
theorem dX13_writeMember_20 : decode cX13_writeMember 20 = .ok (.iload_n 1, 1) := by decide +kernel
theorem dX13_writeMember_21 : decode cX13_writeMember 21 = .ok (.invokevirtual 285, 3) := by decide +kernel
theorem dX13_writeMember_24 : decode cX13_writeMember 24 = .ok (.aload_n 0, 1) := by decide +kernel
theorem dX13_writeMember_25 : decode cX13_writeMember 25 = .ok (.bipush 58, 2) := by decide +kernel
theorem dX13_writeMember_27 : decode cX13_writeMember 27 = .ok (.invokevirtual 288, 3) := by decide +kernel
theorem dX13_writeMember_30 : decode cX13_writeMember 30 = .ok (.aload_n 0, 1) := by decide +kernel
theorem dX13_writeMember_31 : decode cX13_writeMember 31 = .ok (.aload_n 0, 1) := by decide +kernel
theorem dX13_writeMember_32 : decode cX13_writeMember 32 = .ok (.iload_n 1, 1) := by decide +kernel
theorem dX13_writeMember_33 : decode cX13_writeMember 33 = .ok (.iconst 3, 1) := by decide +kernel
theorem dX13_writeMember_34 : decode cX13_writeMember 34 = .ok (.invokevirtual 74, 3) := by decide +kernel
theorem dX13_writeMember_37 : decode cX13_writeMember 37 = .ok (.invokevirtual 285, 3) := by decide +kernel
theorem dX13_writeMember_40 : decode cX13_writeMember 40 = .ok (.aload_n 0, 1) := by decide +kernel
theorem dX13_writeMember_41 : decode cX13_writeMember 41 = .ok (.bipush 47, 2) := by decide +kernel
theorem dX13_writeMember_43 : decode cX13_writeMember 43 = .ok (.invokevirtual 288, 3) := by decide +kernel
theorem dX13_writeMember_46 : decode cX13_writeMember 46 = .ok (.aload_n 0, 1) := by decide +kernel
theorem dX13_writeMember_47 : decode cX13_writeMember 47 = .ok (.aload_n 0, 1) := by decide +kernel
theorem dX13_writeMember_48 : decode cX13_writeMember 48 = .ok (.iload_n 1, 1) := by decide +kernel
theorem dX13_writeMember_49 : decode cX13_writeMember 49 = .ok (.iconst 2, 1) := by decide +kernel
theorem dX13_writeMember_50 : decode cX13_writeMember 50 = .ok (.invokevirtual 74, 3) := by decide +kernel
theorem dX13_writeMember_53 : decode cX13_writeMember 53 = .ok (.invokevirtual 285, 3) := by decide +kernel
theorem dX13_writeMember_56 : decode cX13_writeMember 56 = .ok (.aload_n 0, 1) := by decide +kernel
theorem dX13_writeMember_57 : decode cX13_writeMember 57 = .ok (.bipush 47, 2) := by decide +kernel
theorem dX13_writeMember_59 : decode cX13_writeMember 59 = .ok (.invokevirtual 288, 3) := by decide +kernel
theorem dX13_writeMember_62 : decode cX13_writeMember 62 = .ok (.aload_n 0, 1) := by decide +kernel
theorem dX13_writeMember_63 : decode cX13_writeMember 63 = .ok (.aload_n 0, 1) := by decide +kernel
theorem dX13_writeMember_64 : decode cX13_writeMember 64 = .ok (.iload_n 1, 1) := by decide +kernel
theorem dX13_writeMember_65 : decode cX13_writeMember 65 = .ok (.iconst 0, 1) := by decide +kernel
theorem dX13_writeMember_66 : decode cX13_writeMember 66 = .ok (.invokevirtual 74, 3) := by decide +kernel
theorem dX13_writeMember_69 : decode cX13_writeMember 69 = .ok (.invokevirtual 285, 3) := by decide +kernel
theorem dX13_writeMember_72 : decode cX13_writeMember 72 = .ok (.aload_n 0, 1) := by decide +kernel
theorem dX13_writeMember_73 : decode cX13_writeMember 73 = .ok (.bipush 118, 2) := by decide +kernel
theorem dX13_writeMember_75 : decode cX13_writeMember 75 = .ok (.invokevirtual 288, 3) := by decide +kernel
theorem dX13_writeMember_78 : decode cX13_writeMember 78 = .ok (.aload_n 0, 1) := by decide +kernel
theorem dX13_writeMember_79 : decode cX13_writeMember 79 = .ok (.aload_n 0, 1) := by decide +kernel
theorem dX13_writeMember_80 : decode cX13_writeMember 80 = .ok (.iload_n 1, 1) := by decide +kernel
theorem dX13_writeMember_81 : decode cX13_writeMember 81 = .ok (.iconst 1, 1) := by decide +kernel
theorem dX13_writeMember_82 : decode cX13_writeMember 82 = .ok (.invokevirtual 74, 3) := by decide +kernel
theorem dX13_writeMember_85 : decode cX13_writeMember 85 = .ok (.invokevirtual 285, 3) := by decide +kernel
theorem dX13_writeMember_88 : decode cX13_writeMember 88 = .ok (.iconst 0, 1) := by decide +kernel
theorem dX13_writeMember_89 : decode cX13_writeMember 89 = .ok (.istore_n 2, 1) := by decide +kernel
theorem dX13_writeMember_90 : decode cX13_writeMember 90 = .ok (.iload_n 2, 1) := by decide +kernel
theorem dX13_writeMember_91 : decode cX13_writeMember 91 = .ok (.aload_n 0, 1) := by decide +kernel
theorem dX13_writeMember_92 : decode cX13_writeMember 92 = .ok (.iload_n 1, 1) := by decide +kernel
theorem dX13_writeMember_93 : decode cX13_writeMember 93 = .ok (.iconst 4, 1) := by decide +kernel
theorem dX13_writeMember_94 : decode cX13_writeMember 94 = .ok (.invokevirtual 74, 3) := by decide +kernel
theorem dX13_writeMember_97 : decode cX13_writeMember 97 = .ok (.invokestatic 193, 3) := by decide +kernel
theorem dX13_writeMember_100 : decode cX13_writeMember 100 = .ok (.if_icmp .ge 28, 3) := by decide +kernel
theorem dX13_writeMember_103 : decode cX13_writeMember 103 = .ok (.aload_n 0, 1) := by decide +kernel
theorem dX13_writeMember_104 : decode cX13_writeMember 104 = .ok (.aload_n 0, 1) := by decide +kernel
theorem dX13_writeMember_105 : decode cX13_writeMember 105 = .ok (.iload_n 1, 1) := by decide +kernel
theorem dX13_writeMember_106 : decode cX13_writeMember 106 = .ok (.invokevirtual 114, 3) := by decide +kernel
theorem dX13_writeMember_109 : decode cX13_writeMember 109 = .ok (.ifCond .eq 8, 3) := by decide +kernel
theorem dX13_writeMember_112 : decode cX13_writeMember 112 = .ok (.bipush 120, 2) := by decide +kernel
theorem dX13_writeMember_114 : decode cX13_writeMember 114 = .ok (.goto 5, 3) := by decide +kernel
theorem dX13_writeMember_117 : decode cX13_writeMember 117 = .ok (.bipush 33, 2) := by decide +kernel
theorem dX13_writeMember_119 : decode cX13_writeMember 119 = .ok (.invokevirtual 288, 3) := by decide +kernel
theorem dX13_writeMember_122 : decode cX13_writeMember 122 = .ok (.iinc 2 1, 3) := by decide +kernel
theorem dX13_writeMember_125 : decode cX13_writeMember 125 = .ok (.goto (-35), 3) := by decide +kernel
theorem dX13_writeMember_128 : decode cX13_writeMember 128 = .ok (.aload_n 0, 1) := by decide +kernel
theorem dX13_writeMember_129 : decode cX13_writeMember 129 = .ok (.getfield 282, 3) := by decide +kernel
theorem dX13_writeMember_132 : decode cX13_writeMember 132 = .ok (.ireturn, 1) := by decide +kernel
theorem dX13_lineCharacter_0 : decode cX13_lineCharacter 0 = .ok (.aload_n 0, 1) := by decide +kernel
theorem dX13_lineCharacter_1 : decode cX13_lineCharacter 1 = .ok (.iload_n 1, 1) := by decide +kernel
theorem dX13_lineCharacter_2 : decode cX13_lineCharacter 2 = .ok (.iconst 0, 1) := by decide +kernel
theorem dX13_lineCharacter_3 : decode cX13_lineCharacter 3 = .ok (.aload_n 0, 1) := by decide +kernel
theorem dX13_lineCharacter_4 : decode cX13_lineCharacter 4 = .ok (.getfield 282, 3) := by decide +kernel
theorem dX13_lineCharacter_7 : decode cX13_lineCharacter 7 = .ok (.iconst 1, 1) := by decide +kernel
theorem dX13_lineCharacter_8 : decode cX13_lineCharacter 8 = .ok (.isub, 1) := by decide +kernel
theorem dX13_lineCharacter_9 : decode cX13_lineCharacter 9 = .ok (.invokestatic 70, 3) := by decide +kernel
theorem dX13_lineCharacter_12 : decode cX13_lineCharacter 12 = .ok (.invokevirtual 107, 3) := by decide +kernel
theorem dX13_lineCharacter_15 : decode cX13_lineCharacter 15 = .ok (.ifCond .eq 12, 3) := by decide +kernel
theorem dX13_lineCharacter_18 : decode cX13_lineCharacter 18 = .ok (.aload_n 0, 1) := by decide +kernel
theorem dX13_lineCharacter_19 : decode cX13_lineCharacter 19 = .ok (.getfield 36, 3) := by decide +kernel
theorem dX13_lineCharacter_22 : decode cX13_lineCharacter 22 = .ok (.iload_n 1, 1) := by decide +kernel
theorem dX13_lineCharacter_23 : decode cX13_lineCharacter 23 = .ok (.caload, 1) := by decide +kernel
theorem dX13_lineCharacter_24 : decode cX13_lineCharacter 24 = .ok (.goto 5, 3) := by decide +kernel
theorem dX13_lineCharacter_27 : decode cX13_lineCharacter 27 = .ok (.bipush 32, 2) := by decide +kernel
theorem dX13_lineCharacter_29 : decode cX13_lineCharacter 29 = .ok (.ireturn, 1) := by decide +kernel
theorem dX13_denial_0 : decode cX13_denial 0 = .ok (.aload_n 0, 1) := by decide +kernel
theorem dX13_denial_1 : decode cX13_denial 1 = .ok (.aload_n 0, 1) := by decide +kernel
theorem dX13_denial_2 : decode cX13_denial 2 = .ok (.getfield 51, 3) := by decide +kernel
theorem dX13_denial_5 : decode cX13_denial 5 = .ok (.ifCond .le 7, 3) := by decide +kernel
theorem dX13_denial_8 : decode cX13_denial 8 = .ok (.iconst 1, 1) := by decide +kernel
theorem dX13_denial_9 : decode cX13_denial 9 = .ok (.goto 4, 3) := by decide +kernel
theorem dX13_denial_12 : decode cX13_denial 12 = .ok (.iconst 0, 1) := by decide +kernel
theorem dX13_denial_13 : decode cX13_denial 13 = .ok (.invokevirtual 107, 3) := by decide +kernel
theorem dX13_denial_16 : decode cX13_denial 16 = .ok (.ifCond .eq 10, 3) := by decide +kernel
theorem dX13_denial_19 : decode cX13_denial 19 = .ok (.aload_n 0, 1) := by decide +kernel
theorem dX13_denial_20 : decode cX13_denial 20 = .ok (.getfield 51, 3) := by decide +kernel
theorem dX13_denial_23 : decode cX13_denial 23 = .ok (.goto 4, 3) := by decide +kernel
theorem dX13_denial_26 : decode cX13_denial 26 = .ok (.iconst 0, 1) := by decide +kernel
theorem dX13_denial_27 : decode cX13_denial 27 = .ok (.ireturn, 1) := by decide +kernel
theorem dX13_denialDetail_0 : decode cX13_denialDetail 0 = .ok (.aload_n 0, 1) := by decide +kernel
theorem dX13_denialDetail_1 : decode cX13_denialDetail 1 = .ok (.aload_n 0, 1) := by decide +kernel
theorem dX13_denialDetail_2 : decode cX13_denialDetail 2 = .ok (.getfield 51, 3) := by decide +kernel
theorem dX13_denialDetail_5 : decode cX13_denialDetail 5 = .ok (.ifCond .le 7, 3) := by decide +kernel
theorem dX13_denialDetail_8 : decode cX13_denialDetail 8 = .ok (.iconst 1, 1) := by decide +kernel
theorem dX13_denialDetail_9 : decode cX13_denialDetail 9 = .ok (.goto 4, 3) := by decide +kernel
theorem dX13_denialDetail_12 : decode cX13_denialDetail 12 = .ok (.iconst 0, 1) := by decide +kernel
theorem dX13_denialDetail_13 : decode cX13_denialDetail 13 = .ok (.invokevirtual 107, 3) := by decide +kernel
theorem dX13_denialDetail_16 : decode cX13_denialDetail 16 = .ok (.ifCond .eq 10, 3) := by decide +kernel
theorem dX13_denialDetail_19 : decode cX13_denialDetail 19 = .ok (.aload_n 0, 1) := by decide +kernel
theorem dX13_denialDetail_20 : decode cX13_denialDetail 20 = .ok (.getfield 57, 3) := by decide +kernel
theorem dX13_denialDetail_23 : decode cX13_denialDetail 23 = .ok (.goto 4, 3) := by decide +kernel
theorem dX13_denialDetail_26 : decode cX13_denialDetail 26 = .ok (.iconst 0, 1) := by decide +kernel
theorem dX13_denialDetail_27 : decode cX13_denialDetail 27 = .ok (.ireturn, 1) := by decide +kernel
theorem dX13_denialCause_0 : decode cX13_denialCause 0 = .ok (.aload_n 0, 1) := by decide +kernel
theorem dX13_denialCause_1 : decode cX13_denialCause 1 = .ok (.aload_n 0, 1) := by decide +kernel
theorem dX13_denialCause_2 : decode cX13_denialCause 2 = .ok (.getfield 51, 3) := by decide +kernel
theorem dX13_denialCause_5 : decode cX13_denialCause 5 = .ok (.ifCond .le 14, 3) := by decide +kernel
theorem dX13_denialCause_8 : decode cX13_denialCause 8 = .ok (.aload_n 0, 1) := by decide +kernel
theorem dX13_denialCause_9 : decode cX13_denialCause 9 = .ok (.getfield 60, 3) := by decide +kernel
theorem dX13_denialCause_12 : decode cX13_denialCause 12 = .ok (.ifCond .le 7, 3) := by decide +kernel
theorem dX13_denialCause_15 : decode cX13_denialCause 15 = .ok (.iconst 1, 1) := by decide +kernel
theorem dX13_denialCause_16 : decode cX13_denialCause 16 = .ok (.goto 4, 3) := by decide +kernel
theorem dX13_denialCause_19 : decode cX13_denialCause 19 = .ok (.iconst 0, 1) := by decide +kernel
theorem dX13_denialCause_20 : decode cX13_denialCause 20 = .ok (.invokevirtual 107, 3) := by decide +kernel
theorem dX13_denialCause_23 : decode cX13_denialCause 23 = .ok (.ifCond .eq 10, 3) := by decide +kernel
theorem dX13_denialCause_26 : decode cX13_denialCause 26 = .ok (.aload_n 0, 1) := by decide +kernel
theorem dX13_denialCause_27 : decode cX13_denialCause 27 = .ok (.getfield 60, 3) := by decide +kernel
theorem dX13_denialCause_30 : decode cX13_denialCause 30 = .ok (.goto 4, 3) := by decide +kernel
theorem dX13_denialCause_33 : decode cX13_denialCause 33 = .ok (.iconst 0, 1) := by decide +kernel
theorem dX13_denialCause_34 : decode cX13_denialCause 34 = .ok (.ireturn, 1) := by decide +kernel
theorem dX13_undo_0 : decode cX13_undo 0 = .ok (.aload_n 0, 1) := by decide +kernel
theorem dX13_undo_1 : decode cX13_undo 1 = .ok (.aload_n 0, 1) := by decide +kernel
theorem dX13_undo_2 : decode cX13_undo 2 = .ok (.getfield 63, 3) := by decide +kernel
theorem dX13_undo_5 : decode cX13_undo 5 = .ok (.ifCond .ne 7, 3) := by decide +kernel
theorem dX13_undo_8 : decode cX13_undo 8 = .ok (.iconst 1, 1) := by decide +kernel
theorem dX13_undo_9 : decode cX13_undo 9 = .ok (.goto 4, 3) := by decide +kernel
theorem dX13_undo_12 : decode cX13_undo 12 = .ok (.iconst 0, 1) := by decide +kernel
theorem dX13_undo_13 : decode cX13_undo 13 = .ok (.putfield 39, 3) := by decide +kernel
theorem dX13_undo_16 : decode cX13_undo 16 = .ok (.aload_n 0, 1) := by decide +kernel
theorem dX13_undo_17 : decode cX13_undo 17 = .ok (.getfield 39, 3) := by decide +kernel
theorem dX13_undo_20 : decode cX13_undo 20 = .ok (.ifCond .le 5, 3) := by decide +kernel
theorem dX13_undo_23 : decode cX13_undo 23 = .ok (.iconst 0, 1) := by decide +kernel
theorem dX13_undo_24 : decode cX13_undo 24 = .ok (.ireturn, 1) := by decide +kernel
theorem dX13_undo_25 : decode cX13_undo 25 = .ok (.aload_n 0, 1) := by decide +kernel
theorem dX13_undo_26 : decode cX13_undo 26 = .ok (.dup, 1) := by decide +kernel
theorem dX13_undo_27 : decode cX13_undo 27 = .ok (.getfield 63, 3) := by decide +kernel
theorem dX13_undo_30 : decode cX13_undo 30 = .ok (.iconst 1, 1) := by decide +kernel
theorem dX13_undo_31 : decode cX13_undo 31 = .ok (.isub, 1) := by decide +kernel
theorem dX13_undo_32 : decode cX13_undo 32 = .ok (.putfield 63, 3) := by decide +kernel
theorem dX13_undo_35 : decode cX13_undo 35 = .ok (.aload_n 0, 1) := by decide +kernel
theorem dX13_undo_36 : decode cX13_undo 36 = .ok (.getfield 19, 3) := by decide +kernel
theorem dX13_undo_39 : decode cX13_undo 39 = .ok (.bipush 91, 2) := by decide +kernel
theorem dX13_undo_41 : decode cX13_undo 41 = .ok (.aload_n 0, 1) := by decide +kernel
theorem dX13_undo_42 : decode cX13_undo 42 = .ok (.getfield 63, 3) := by decide +kernel
theorem dX13_undo_45 : decode cX13_undo 45 = .ok (.imul, 1) := by decide +kernel
theorem dX13_undo_46 : decode cX13_undo 46 = .ok (.aload_n 0, 1) := by decide +kernel
theorem dX13_undo_47 : decode cX13_undo 47 = .ok (.getfield 9, 3) := by decide +kernel
theorem dX13_undo_50 : decode cX13_undo 50 = .ok (.iconst 0, 1) := by decide +kernel
theorem dX13_undo_51 : decode cX13_undo 51 = .ok (.bipush 91, 2) := by decide +kernel
theorem dX13_undo_53 : decode cX13_undo 53 = .ok (.invokestatic 45, 3) := by decide +kernel
theorem dX13_undo_56 : decode cX13_undo 56 = .ok (.aload_n 0, 1) := by decide +kernel
theorem dX13_undo_57 : decode cX13_undo 57 = .ok (.getfield 63, 3) := by decide +kernel
theorem dX13_undo_60 : decode cX13_undo 60 = .ok (.ireturn, 1) := by decide +kernel
theorem dX13_undoCount_0 : decode cX13_undoCount 0 = .ok (.aload_n 0, 1) := by decide +kernel
theorem dX13_undoCount_1 : decode cX13_undoCount 1 = .ok (.iconst 0, 1) := by decide +kernel
theorem dX13_undoCount_2 : decode cX13_undoCount 2 = .ok (.putfield 39, 3) := by decide +kernel
theorem dX13_undoCount_5 : decode cX13_undoCount 5 = .ok (.aload_n 0, 1) := by decide +kernel
theorem dX13_undoCount_6 : decode cX13_undoCount 6 = .ok (.getfield 63, 3) := by decide +kernel
theorem dX13_undoCount_9 : decode cX13_undoCount 9 = .ok (.ireturn, 1) := by decide +kernel
theorem dX13_saveSnapshot_0 : decode cX13_saveSnapshot 0 = .ok (.aload_n 0, 1) := by decide +kernel
theorem dX13_saveSnapshot_1 : decode cX13_saveSnapshot 1 = .ok (.iconst 0, 1) := by decide +kernel
theorem dX13_saveSnapshot_2 : decode cX13_saveSnapshot 2 = .ok (.putfield 39, 3) := by decide +kernel
theorem dX13_saveSnapshot_5 : decode cX13_saveSnapshot 5 = .ok (.aload_n 0, 1) := by decide +kernel
theorem dX13_saveSnapshot_6 : decode cX13_saveSnapshot 6 = .ok (.getfield 9, 3) := by decide +kernel
theorem dX13_saveSnapshot_9 : decode cX13_saveSnapshot 9 = .ok (.iconst 0, 1) := by decide +kernel
theorem dX13_saveSnapshot_10 : decode cX13_saveSnapshot 10 = .ok (.aload_n 0, 1) := by decide +kernel
theorem dX13_saveSnapshot_11 : decode cX13_saveSnapshot 11 = .ok (.getfield 16, 3) := by decide +kernel
theorem dX13_saveSnapshot_14 : decode cX13_saveSnapshot 14 = .ok (.iconst 0, 1) := by decide +kernel
theorem dX13_saveSnapshot_15 : decode cX13_saveSnapshot 15 = .ok (.bipush 91, 2) := by decide +kernel
theorem dX13_saveSnapshot_17 : decode cX13_saveSnapshot 17 = .ok (.invokestatic 45, 3) := by decide +kernel
theorem dX13_saveSnapshot_20 : decode cX13_saveSnapshot 20 = .ok (.aload_n 0, 1) := by decide +kernel
theorem dX13_saveSnapshot_21 : decode cX13_saveSnapshot 21 = .ok (.iconst 1, 1) := by decide +kernel
theorem dX13_saveSnapshot_22 : decode cX13_saveSnapshot 22 = .ok (.putfield 291, 3) := by decide +kernel
theorem dX13_saveSnapshot_25 : decode cX13_saveSnapshot 25 = .ok (.aload_n 0, 1) := by decide +kernel
theorem dX13_saveSnapshot_26 : decode cX13_saveSnapshot 26 = .ok (.getfield 9, 3) := by decide +kernel
theorem dX13_saveSnapshot_29 : decode cX13_saveSnapshot 29 = .ok (.iconst 0, 1) := by decide +kernel
theorem dX13_saveSnapshot_30 : decode cX13_saveSnapshot 30 = .ok (.iaload, 1) := by decide +kernel
theorem dX13_saveSnapshot_31 : decode cX13_saveSnapshot 31 = .ok (.ireturn, 1) := by decide +kernel
theorem dX13_restoreSnapshot_0 : decode cX13_restoreSnapshot 0 = .ok (.aload_n 0, 1) := by decide +kernel
theorem dX13_restoreSnapshot_1 : decode cX13_restoreSnapshot 1 = .ok (.aload_n 0, 1) := by decide +kernel
theorem dX13_restoreSnapshot_2 : decode cX13_restoreSnapshot 2 = .ok (.getfield 291, 3) := by decide +kernel
theorem dX13_restoreSnapshot_5 : decode cX13_restoreSnapshot 5 = .ok (.ifCond .eq 7, 3) := by decide +kernel
theorem dX13_restoreSnapshot_8 : decode cX13_restoreSnapshot 8 = .ok (.iconst 0, 1) := by decide +kernel
theorem dX13_restoreSnapshot_9 : decode cX13_restoreSnapshot 9 = .ok (.goto 4, 3) := by decide +kernel
theorem dX13_restoreSnapshot_12 : decode cX13_restoreSnapshot 12 = .ok (.iconst 1, 1) := by decide +kernel
theorem dX13_restoreSnapshot_13 : decode cX13_restoreSnapshot 13 = .ok (.putfield 39, 3) := by decide +kernel
theorem dX13_restoreSnapshot_16 : decode cX13_restoreSnapshot 16 = .ok (.aload_n 0, 1) := by decide +kernel
theorem dX13_restoreSnapshot_17 : decode cX13_restoreSnapshot 17 = .ok (.getfield 39, 3) := by decide +kernel
theorem dX13_restoreSnapshot_20 : decode cX13_restoreSnapshot 20 = .ok (.ifCond .le 5, 3) := by decide +kernel
theorem dX13_restoreSnapshot_23 : decode cX13_restoreSnapshot 23 = .ok (.iconst 0, 1) := by decide +kernel
theorem dX13_restoreSnapshot_24 : decode cX13_restoreSnapshot 24 = .ok (.ireturn, 1) := by decide +kernel
theorem dX13_restoreSnapshot_25 : decode cX13_restoreSnapshot 25 = .ok (.aload_n 0, 1) := by decide +kernel
theorem dX13_restoreSnapshot_26 : decode cX13_restoreSnapshot 26 = .ok (.getfield 16, 3) := by decide +kernel
theorem dX13_restoreSnapshot_29 : decode cX13_restoreSnapshot 29 = .ok (.iconst 0, 1) := by decide +kernel
theorem dX13_restoreSnapshot_30 : decode cX13_restoreSnapshot 30 = .ok (.aload_n 0, 1) := by decide +kernel
theorem dX13_restoreSnapshot_31 : decode cX13_restoreSnapshot 31 = .ok (.getfield 9, 3) := by decide +kernel
theorem dX13_restoreSnapshot_34 : decode cX13_restoreSnapshot 34 = .ok (.iconst 0, 1) := by decide +kernel
theorem dX13_restoreSnapshot_35 : decode cX13_restoreSnapshot 35 = .ok (.bipush 91, 2) := by decide +kernel
theorem dX13_restoreSnapshot_37 : decode cX13_restoreSnapshot 37 = .ok (.invokestatic 45, 3) := by decide +kernel
theorem dX13_restoreSnapshot_40 : decode cX13_restoreSnapshot 40 = .ok (.aload_n 0, 1) := by decide +kernel
theorem dX13_restoreSnapshot_41 : decode cX13_restoreSnapshot 41 = .ok (.iconst 0, 1) := by decide +kernel
theorem dX13_restoreSnapshot_42 : decode cX13_restoreSnapshot 42 = .ok (.putfield 63, 3) := by decide +kernel
theorem dX13_restoreSnapshot_45 : decode cX13_restoreSnapshot 45 = .ok (.aload_n 0, 1) := by decide +kernel
theorem dX13_restoreSnapshot_46 : decode cX13_restoreSnapshot 46 = .ok (.getfield 9, 3) := by decide +kernel
theorem dX13_restoreSnapshot_49 : decode cX13_restoreSnapshot 49 = .ok (.iconst 0, 1) := by decide +kernel
theorem dX13_restoreSnapshot_50 : decode cX13_restoreSnapshot 50 = .ok (.iaload, 1) := by decide +kernel
theorem dX13_restoreSnapshot_51 : decode cX13_restoreSnapshot 51 = .ok (.ireturn, 1) := by decide +kernel
