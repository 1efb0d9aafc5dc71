theorem dX1_init_0 : decode cX1_init 0 = .ok (.aload_n 0, 1) := by decide +kernel
theorem dX1_init_1 : decode cX1_init 1 = .ok (.invokespecial 3, 3) := by decide +kernel
theorem dX1_init_4 : decode cX1_init 4 = .ok (.aload_n 0, 1) := by decide +kernel
theorem dX1_init_5 : decode cX1_init 5 = .ok (.bipush 7, 2) := by decide +kernel
theorem dX1_init_7 : decode cX1_init 7 = .ok (.newarray .int, 2) := by decide +kernel
theorem dX1_init_9 : decode cX1_init 9 = .ok (.putfield 9, 3) := by decide +kernel
theorem dX1_init_12 : decode cX1_init 12 = .ok (.aload_n 0, 1) := by decide +kernel
theorem dX1_init_13 : decode cX1_init 13 = .ok (.bipush 7, 2) := by decide +kernel
theorem dX1_init_15 : decode cX1_init 15 = .ok (.newarray .int, 2) := by decide +kernel
theorem dX1_init_17 : decode cX1_init 17 = .ok (.putfield 15, 3) := by decide +kernel
theorem dX1_init_20 : decode cX1_init 20 = .ok (.return_, 1) := by decide +kernel
theorem dX1_apportion_0 : decode cX1_apportion 0 = .ok (.iconst 0, 1) := by decide +kernel
theorem dX1_apportion_1 : decode cX1_apportion 1 = .ok (.istore 4, 2) := by decide +kernel
theorem dX1_apportion_3 : decode cX1_apportion 3 = .ok (.iload 4, 2) := by decide +kernel
theorem dX1_apportion_5 : decode cX1_apportion 5 = .ok (.aload_n 0, 1) := by decide +kernel
theorem dX1_apportion_6 : decode cX1_apportion 6 = .ok (.getfield 9, 3) := by decide +kernel
theorem dX1_apportion_9 : decode cX1_apportion 9 = .ok (.arraylength, 1) := by decide +kernel
theorem dX1_apportion_10 : decode cX1_apportion 10 = .ok (.if_icmp .ge 17, 3) := by decide +kernel
theorem dX1_apportion_13 : decode cX1_apportion 13 = .ok (.aload_n 0, 1) := by decide +kernel
theorem dX1_apportion_14 : decode cX1_apportion 14 = .ok (.getfield 9, 3) := by decide +kernel
theorem dX1_apportion_17 : decode cX1_apportion 17 = .ok (.iload 4, 2) := by decide +kernel
theorem dX1_apportion_19 : decode cX1_apportion 19 = .ok (.iconst 0, 1) := by decide +kernel
theorem dX1_apportion_20 : decode cX1_apportion 20 = .ok (.iastore, 1) := by decide +kernel
theorem dX1_apportion_21 : decode cX1_apportion 21 = .ok (.iinc 4 1, 3) := by decide +kernel
theorem dX1_apportion_24 : decode cX1_apportion 24 = .ok (.goto (-21), 3) := by decide +kernel
theorem dX1_apportion_27 : decode cX1_apportion 27 = .ok (.iconst 0, 1) := by decide +kernel
theorem dX1_apportion_28 : decode cX1_apportion 28 = .ok (.istore 4, 2) := by decide +kernel
theorem dX1_apportion_30 : decode cX1_apportion 30 = .ok (.iconst 0, 1) := by decide +kernel
theorem dX1_apportion_31 : decode cX1_apportion 31 = .ok (.istore 5, 2) := by decide +kernel
theorem dX1_apportion_33 : decode cX1_apportion 33 = .ok (.iload 5, 2) := by decide +kernel
theorem dX1_apportion_35 : decode cX1_apportion 35 = .ok (.aload_n 1, 1) := by decide +kernel
theorem dX1_apportion_36 : decode cX1_apportion 36 = .ok (.getfield 18, 3) := by decide +kernel
theorem dX1_apportion_39 : decode cX1_apportion 39 = .ok (.if_icmp .ge 41, 3) := by decide +kernel
theorem dX1_apportion_42 : decode cX1_apportion 42 = .ok (.iload 4, 2) := by decide +kernel
theorem dX1_apportion_44 : decode cX1_apportion 44 = .ok (.aload_n 1, 1) := by decide +kernel
theorem dX1_apportion_45 : decode cX1_apportion 45 = .ok (.getfield 24, 3) := by decide +kernel
theorem dX1_apportion_48 : decode cX1_apportion 48 = .ok (.iload 5, 2) := by decide +kernel
theorem dX1_apportion_50 : decode cX1_apportion 50 = .ok (.aaload, 1) := by decide +kernel
theorem dX1_apportion_51 : decode cX1_apportion 51 = .ok (.invokevirtual 28, 3) := by decide +kernel
theorem dX1_apportion_54 : decode cX1_apportion 54 = .ok (.ifCond .eq 16, 3) := by decide +kernel
theorem dX1_apportion_57 : decode cX1_apportion 57 = .ok (.aload_n 1, 1) := by decide +kernel
theorem dX1_apportion_58 : decode cX1_apportion 58 = .ok (.getfield 24, 3) := by decide +kernel
theorem dX1_apportion_61 : decode cX1_apportion 61 = .ok (.iload 5, 2) := by decide +kernel
theorem dX1_apportion_63 : decode cX1_apportion 63 = .ok (.aaload, 1) := by decide +kernel
theorem dX1_apportion_64 : decode cX1_apportion 64 = .ok (.getfield 34, 3) := by decide +kernel
theorem dX1_apportion_67 : decode cX1_apportion 67 = .ok (.goto 4, 3) := by decide +kernel
theorem dX1_apportion_70 : decode cX1_apportion 70 = .ok (.iconst 0, 1) := by decide +kernel
theorem dX1_apportion_71 : decode cX1_apportion 71 = .ok (.iadd, 1) := by decide +kernel
theorem dX1_apportion_72 : decode cX1_apportion 72 = .ok (.istore 4, 2) := by decide +kernel
theorem dX1_apportion_74 : decode cX1_apportion 74 = .ok (.iinc 5 1, 3) := by decide +kernel
theorem dX1_apportion_77 : decode cX1_apportion 77 = .ok (.goto (-44), 3) := by decide +kernel
theorem dX1_apportion_80 : decode cX1_apportion 80 = .ok (.iload 4, 2) := by decide +kernel
theorem dX1_apportion_82 : decode cX1_apportion 82 = .ok (.ifCond .ne 4, 3) := by decide +kernel
theorem dX1_apportion_85 : decode cX1_apportion 85 = .ok (.return_, 1) := by decide +kernel
theorem dX1_apportion_86 : decode cX1_apportion 86 = .ok (.iload_n 3, 1) := by decide +kernel
theorem dX1_apportion_87 : decode cX1_apportion 87 = .ok (.ifCond .ne 14, 3) := by decide +kernel
theorem dX1_apportion_90 : decode cX1_apportion 90 = .ok (.aload_n 0, 1) := by decide +kernel
theorem dX1_apportion_91 : decode cX1_apportion 91 = .ok (.aload_n 1, 1) := by decide +kernel
theorem dX1_apportion_92 : decode cX1_apportion 92 = .ok (.iload_n 2, 1) := by decide +kernel
theorem dX1_apportion_93 : decode cX1_apportion 93 = .ok (.iload 4, 2) := by decide +kernel
theorem dX1_apportion_95 : decode cX1_apportion 95 = .ok (.invokevirtual 37, 3) := by decide +kernel
theorem dX1_apportion_98 : decode cX1_apportion 98 = .ok (.goto 9, 3) := by decide +kernel
theorem dX1_apportion_101 : decode cX1_apportion 101 = .ok (.aload_n 0, 1) := by decide +kernel
theorem dX1_apportion_102 : decode cX1_apportion 102 = .ok (.aload_n 1, 1) := by decide +kernel
theorem dX1_apportion_103 : decode cX1_apportion 103 = .ok (.iload_n 2, 1) := by decide +kernel
theorem dX1_apportion_104 : decode cX1_apportion 104 = .ok (.invokevirtual 41, 3) := by decide +kernel
theorem dX1_apportion_107 : decode cX1_apportion 107 = .ok (.return_, 1) := by decide +kernel
theorem dX1_giveByRemainders_0 : decode cX1_giveByRemainders 0 = .ok (.iload_n 3, 1) := by decide +kernel
theorem dX1_giveByRemainders_1 : decode cX1_giveByRemainders 1 = .ok (.ifCond .ne 4, 3) := by decide +kernel
theorem dX1_giveByRemainders_4 : decode cX1_giveByRemainders 4 = .ok (.return_, 1) := by decide +kernel
theorem dX1_giveByRemainders_5 : decode cX1_giveByRemainders 5 = .ok (.iload_n 2, 1) := by decide +kernel
theorem dX1_giveByRemainders_6 : decode cX1_giveByRemainders 6 = .ok (.istore 4, 2) := by decide +kernel
theorem dX1_giveByRemainders_8 : decode cX1_giveByRemainders 8 = .ok (.iconst 0, 1) := by decide +kernel
theorem dX1_giveByRemainders_9 : decode cX1_giveByRemainders 9 = .ok (.istore 5, 2) := by decide +kernel
theorem dX1_giveByRemainders_11 : decode cX1_giveByRemainders 11 = .ok (.iload 5, 2) := by decide +kernel
theorem dX1_giveByRemainders_13 : decode cX1_giveByRemainders 13 = .ok (.aload_n 1, 1) := by decide +kernel
theorem dX1_giveByRemainders_14 : decode cX1_giveByRemainders 14 = .ok (.getfield 18, 3) := by decide +kernel
theorem dX1_giveByRemainders_17 : decode cX1_giveByRemainders 17 = .ok (.if_icmp .ge 78, 3) := by decide +kernel
theorem dX1_giveByRemainders_20 : decode cX1_giveByRemainders 20 = .ok (.aload_n 0, 1) := by decide +kernel
theorem dX1_giveByRemainders_21 : decode cX1_giveByRemainders 21 = .ok (.getfield 15, 3) := by decide +kernel
theorem dX1_giveByRemainders_24 : decode cX1_giveByRemainders 24 = .ok (.iload 5, 2) := by decide +kernel
theorem dX1_giveByRemainders_26 : decode cX1_giveByRemainders 26 = .ok (.iconst (-1), 1) := by decide +kernel
theorem dX1_giveByRemainders_27 : decode cX1_giveByRemainders 27 = .ok (.iastore, 1) := by decide +kernel
theorem dX1_giveByRemainders_28 : decode cX1_giveByRemainders 28 = .ok (.aload_n 1, 1) := by decide +kernel
theorem dX1_giveByRemainders_29 : decode cX1_giveByRemainders 29 = .ok (.getfield 24, 3) := by decide +kernel
theorem dX1_giveByRemainders_32 : decode cX1_giveByRemainders 32 = .ok (.iload 5, 2) := by decide +kernel
theorem dX1_giveByRemainders_34 : decode cX1_giveByRemainders 34 = .ok (.aaload, 1) := by decide +kernel
theorem dX1_giveByRemainders_35 : decode cX1_giveByRemainders 35 = .ok (.invokevirtual 28, 3) := by decide +kernel
theorem dX1_giveByRemainders_38 : decode cX1_giveByRemainders 38 = .ok (.ifCond .eq 51, 3) := by decide +kernel
theorem dX1_giveByRemainders_41 : decode cX1_giveByRemainders 41 = .ok (.iload_n 2, 1) := by decide +kernel
theorem dX1_giveByRemainders_42 : decode cX1_giveByRemainders 42 = .ok (.aload_n 1, 1) := by decide +kernel
theorem dX1_giveByRemainders_43 : decode cX1_giveByRemainders 43 = .ok (.getfield 24, 3) := by decide +kernel
theorem dX1_giveByRemainders_46 : decode cX1_giveByRemainders 46 = .ok (.iload 5, 2) := by decide +kernel
theorem dX1_giveByRemainders_48 : decode cX1_giveByRemainders 48 = .ok (.aaload, 1) := by decide +kernel
theorem dX1_giveByRemainders_49 : decode cX1_giveByRemainders 49 = .ok (.getfield 34, 3) := by decide +kernel
theorem dX1_giveByRemainders_52 : decode cX1_giveByRemainders 52 = .ok (.imul, 1) := by decide +kernel
theorem dX1_giveByRemainders_53 : decode cX1_giveByRemainders 53 = .ok (.istore 6, 2) := by decide +kernel
theorem dX1_giveByRemainders_55 : decode cX1_giveByRemainders 55 = .ok (.aload_n 0, 1) := by decide +kernel
theorem dX1_giveByRemainders_56 : decode cX1_giveByRemainders 56 = .ok (.getfield 9, 3) := by decide +kernel
theorem dX1_giveByRemainders_59 : decode cX1_giveByRemainders 59 = .ok (.iload 5, 2) := by decide +kernel
theorem dX1_giveByRemainders_61 : decode cX1_giveByRemainders 61 = .ok (.iload 6, 2) := by decide +kernel
theorem dX1_giveByRemainders_63 : decode cX1_giveByRemainders 63 = .ok (.iload_n 3, 1) := by decide +kernel
theorem dX1_giveByRemainders_64 : decode cX1_giveByRemainders 64 = .ok (.idiv, 1) := by decide +kernel
theorem dX1_giveByRemainders_65 : decode cX1_giveByRemainders 65 = .ok (.iastore, 1) := by decide +kernel
theorem dX1_giveByRemainders_66 : decode cX1_giveByRemainders 66 = .ok (.aload_n 0, 1) := by decide +kernel
theorem dX1_giveByRemainders_67 : decode cX1_giveByRemainders 67 = .ok (.getfield 15, 3) := by decide +kernel
theorem dX1_giveByRemainders_70 : decode cX1_giveByRemainders 70 = .ok (.iload 5, 2) := by decide +kernel
theorem dX1_giveByRemainders_72 : decode cX1_giveByRemainders 72 = .ok (.iload 6, 2) := by decide +kernel
theorem dX1_giveByRemainders_74 : decode cX1_giveByRemainders 74 = .ok (.iload_n 3, 1) := by decide +kernel
theorem dX1_giveByRemainders_75 : decode cX1_giveByRemainders 75 = .ok (.irem, 1) := by decide +kernel
theorem dX1_giveByRemainders_76 : decode cX1_giveByRemainders 76 = .ok (.iastore, 1) := by decide +kernel
theorem dX1_giveByRemainders_77 : decode cX1_giveByRemainders 77 = .ok (.iload 4, 2) := by decide +kernel
theorem dX1_giveByRemainders_79 : decode cX1_giveByRemainders 79 = .ok (.aload_n 0, 1) := by decide +kernel
theorem dX1_giveByRemainders_80 : decode cX1_giveByRemainders 80 = .ok (.getfield 9, 3) := by decide +kernel
theorem dX1_giveByRemainders_83 : decode cX1_giveByRemainders 83 = .ok (.iload 5, 2) := by decide +kernel
theorem dX1_giveByRemainders_85 : decode cX1_giveByRemainders 85 = .ok (.iaload, 1) := by decide +kernel
theorem dX1_giveByRemainders_86 : decode cX1_giveByRemainders 86 = .ok (.isub, 1) := by decide +kernel
theorem dX1_giveByRemainders_87 : decode cX1_giveByRemainders 87 = .ok (.istore 4, 2) := by decide +kernel
theorem dX1_giveByRemainders_89 : decode cX1_giveByRemainders 89 = .ok (.iinc 5 1, 3) := by decide +kernel
theorem dX1_giveByRemainders_92 : decode cX1_giveByRemainders 92 = .ok (.goto (-81), 3) := by decide +kernel
theorem dX1_giveByRemainders_95 : decode cX1_giveByRemainders 95 = .ok (.iconst 0, 1) := by decide +kernel
theorem dX1_giveByRemainders_96 : decode cX1_giveByRemainders 96 = .ok (.istore 5, 2) := by decide +kernel
theorem dX1_giveByRemainders_98 : decode cX1_giveByRemainders 98 = .ok (.iload 5, 2) := by decide +kernel
theorem dX1_giveByRemainders_100 : decode cX1_giveByRemainders 100 = .ok (.aload_n 1, 1) := by decide +kernel
theorem dX1_giveByRemainders_101 : decode cX1_giveByRemainders 101 = .ok (.getfield 18, 3) := by decide +kernel
theorem dX1_giveByRemainders_104 : decode cX1_giveByRemainders 104 = .ok (.if_icmp .ge 45, 3) := by decide +kernel
theorem dX1_giveByRemainders_107 : decode cX1_giveByRemainders 107 = .ok (.aload_n 0, 1) := by decide +kernel
theorem dX1_giveByRemainders_108 : decode cX1_giveByRemainders 108 = .ok (.getfield 15, 3) := by decide +kernel
theorem dX1_giveByRemainders_111 : decode cX1_giveByRemainders 111 = .ok (.iload 5, 2) := by decide +kernel
theorem dX1_giveByRemainders_113 : decode cX1_giveByRemainders 113 = .ok (.iaload, 1) := by decide +kernel
theorem dX1_giveByRemainders_114 : decode cX1_giveByRemainders 114 = .ok (.ifCond .lt 29, 3) := by decide +kernel
theorem dX1_giveByRemainders_117 : decode cX1_giveByRemainders 117 = .ok (.aload_n 0, 1) := by decide +kernel
theorem dX1_giveByRemainders_118 : decode cX1_giveByRemainders 118 = .ok (.iload 5, 2) := by decide +kernel
theorem dX1_giveByRemainders_120 : decode cX1_giveByRemainders 120 = .ok (.aload_n 1, 1) := by decide +kernel
theorem dX1_giveByRemainders_121 : decode cX1_giveByRemainders 121 = .ok (.getfield 18, 3) := by decide +kernel
theorem dX1_giveByRemainders_124 : decode cX1_giveByRemainders 124 = .ok (.invokevirtual 45, 3) := by decide +kernel
theorem dX1_giveByRemainders_127 : decode cX1_giveByRemainders 127 = .ok (.iload 4, 2) := by decide +kernel
theorem dX1_giveByRemainders_129 : decode cX1_giveByRemainders 129 = .ok (.if_icmp .ge 14, 3) := by decide +kernel
theorem dX1_giveByRemainders_132 : decode cX1_giveByRemainders 132 = .ok (.aload_n 0, 1) := by decide +kernel
theorem dX1_giveByRemainders_133 : decode cX1_giveByRemainders 133 = .ok (.getfield 9, 3) := by decide +kernel
theorem dX1_giveByRemainders_136 : decode cX1_giveByRemainders 136 = .ok (.iload 5, 2) := by decide +kernel
theorem dX1_giveByRemainders_138 : decode cX1_giveByRemainders 138 = .ok (.dup2, 1) := by decide +kernel
theorem dX1_giveByRemainders_139 : decode cX1_giveByRemainders 139 = .ok (.iaload, 1) := by decide +kernel
theorem dX1_giveByRemainders_140 : decode cX1_giveByRemainders 140 = .ok (.iconst 1, 1) := by decide +kernel
theorem dX1_giveByRemainders_141 : decode cX1_giveByRemainders 141 = .ok (.iadd, 1) := by decide +kernel
theorem dX1_giveByRemainders_142 : decode cX1_giveByRemainders 142 = .ok (.iastore, 1) := by decide +kernel
theorem dX1_giveByRemainders_143 : decode cX1_giveByRemainders 143 = .ok (.iinc 5 1, 3) := by decide +kernel
theorem dX1_giveByRemainders_146 : decode cX1_giveByRemainders 146 = .ok (.goto (-48), 3) := by decide +kernel
theorem dX1_giveByRemainders_149 : decode cX1_giveByRemainders 149 = .ok (.return_, 1) := by decide +kernel
theorem dX1_remaindersAheadOf_0 : decode cX1_remaindersAheadOf 0 = .ok (.iconst 0, 1) := by decide +kernel
theorem dX1_remaindersAheadOf_1 : decode cX1_remaindersAheadOf 1 = .ok (.istore_n 3, 1) := by decide +kernel
theorem dX1_remaindersAheadOf_2 : decode cX1_remaindersAheadOf 2 = .ok (.iconst 0, 1) := by decide +kernel
theorem dX1_remaindersAheadOf_3 : decode cX1_remaindersAheadOf 3 = .ok (.istore 4, 2) := by decide +kernel
theorem dX1_remaindersAheadOf_5 : decode cX1_remaindersAheadOf 5 = .ok (.iload 4, 2) := by decide +kernel
theorem dX1_remaindersAheadOf_7 : decode cX1_remaindersAheadOf 7 = .ok (.iload_n 2, 1) := by decide +kernel
theorem dX1_remaindersAheadOf_8 : decode cX1_remaindersAheadOf 8 = .ok (.if_icmp .ge 79, 3) := by decide +kernel
theorem dX1_remaindersAheadOf_11 : decode cX1_remaindersAheadOf 11 = .ok (.aload_n 0, 1) := by decide +kernel
theorem dX1_remaindersAheadOf_12 : decode cX1_remaindersAheadOf 12 = .ok (.getfield 15, 3) := by decide +kernel
theorem dX1_remaindersAheadOf_15 : decode cX1_remaindersAheadOf 15 = .ok (.iload 4, 2) := by decide +kernel
theorem dX1_remaindersAheadOf_17 : decode cX1_remaindersAheadOf 17 = .ok (.iaload, 1) := by decide +kernel
theorem dX1_remaindersAheadOf_18 : decode cX1_remaindersAheadOf 18 = .ok (.aload_n 0, 1) := by decide +kernel
theorem dX1_remaindersAheadOf_19 : decode cX1_remaindersAheadOf 19 = .ok (.getfield 15, 3) := by decide +kernel
theorem dX1_remaindersAheadOf_22 : decode cX1_remaindersAheadOf 22 = .ok (.iload_n 1, 1) := by decide +kernel
theorem dX1_remaindersAheadOf_23 : decode cX1_remaindersAheadOf 23 = .ok (.iaload, 1) := by decide +kernel
theorem dX1_remaindersAheadOf_24 : decode cX1_remaindersAheadOf 24 = .ok (.if_icmp .le 7, 3) := by decide +kernel
theorem dX1_remaindersAheadOf_27 : decode cX1_remaindersAheadOf 27 = .ok (.iconst 1, 1) := by decide +kernel
theorem dX1_remaindersAheadOf_28 : decode cX1_remaindersAheadOf 28 = .ok (.goto 4, 3) := by decide +kernel
theorem dX1_remaindersAheadOf_31 : decode cX1_remaindersAheadOf 31 = .ok (.iconst 0, 1) := by decide +kernel
theorem dX1_remaindersAheadOf_32 : decode cX1_remaindersAheadOf 32 = .ok (.istore 5, 2) := by decide +kernel
theorem dX1_remaindersAheadOf_34 : decode cX1_remaindersAheadOf 34 = .ok (.aload_n 0, 1) := by decide +kernel
theorem dX1_remaindersAheadOf_35 : decode cX1_remaindersAheadOf 35 = .ok (.getfield 15, 3) := by decide +kernel
theorem dX1_remaindersAheadOf_38 : decode cX1_remaindersAheadOf 38 = .ok (.iload 4, 2) := by decide +kernel
theorem dX1_remaindersAheadOf_40 : decode cX1_remaindersAheadOf 40 = .ok (.iaload, 1) := by decide +kernel
theorem dX1_remaindersAheadOf_41 : decode cX1_remaindersAheadOf 41 = .ok (.aload_n 0, 1) := by decide +kernel
theorem dX1_remaindersAheadOf_42 : decode cX1_remaindersAheadOf 42 = .ok (.getfield 15, 3) := by decide +kernel
theorem dX1_remaindersAheadOf_45 : decode cX1_remaindersAheadOf 45 = .ok (.iload_n 1, 1) := by decide +kernel
theorem dX1_remaindersAheadOf_46 : decode cX1_remaindersAheadOf 46 = .ok (.iaload, 1) := by decide +kernel
theorem dX1_remaindersAheadOf_47 : decode cX1_remaindersAheadOf 47 = .ok (.if_icmp .ne 13, 3) := by decide +kernel
theorem dX1_remaindersAheadOf_50 : decode cX1_remaindersAheadOf 50 = .ok (.iload 4, 2) := by decide +kernel
theorem dX1_remaindersAheadOf_52 : decode cX1_remaindersAheadOf 52 = .ok (.iload_n 1, 1) := by decide +kernel
theorem dX1_remaindersAheadOf_53 : decode cX1_remaindersAheadOf 53 = .ok (.if_icmp .ge 7, 3) := by decide +kernel
theorem dX1_remaindersAheadOf_56 : decode cX1_remaindersAheadOf 56 = .ok (.iconst 1, 1) := by decide +kernel
theorem dX1_remaindersAheadOf_57 : decode cX1_remaindersAheadOf 57 = .ok (.goto 4, 3) := by decide +kernel
theorem dX1_remaindersAheadOf_60 : decode cX1_remaindersAheadOf 60 = .ok (.iconst 0, 1) := by decide +kernel
theorem dX1_remaindersAheadOf_61 : decode cX1_remaindersAheadOf 61 = .ok (.istore 6, 2) := by decide +kernel
theorem dX1_remaindersAheadOf_63 : decode cX1_remaindersAheadOf 63 = .ok (.iload_n 3, 1) := by decide +kernel
theorem dX1_remaindersAheadOf_64 : decode cX1_remaindersAheadOf 64 = .ok (.iload 5, 2) := by decide +kernel
theorem dX1_remaindersAheadOf_66 : decode cX1_remaindersAheadOf 66 = .ok (.ifCond .ne 8, 3) := by decide +kernel
theorem dX1_remaindersAheadOf_69 : decode cX1_remaindersAheadOf 69 = .ok (.iload 6, 2) := by decide +kernel
theorem dX1_remaindersAheadOf_71 : decode cX1_remaindersAheadOf 71 = .ok (.ifCond .eq 7, 3) := by decide +kernel
theorem dX1_remaindersAheadOf_74 : decode cX1_remaindersAheadOf 74 = .ok (.iconst 1, 1) := by decide +kernel
theorem dX1_remaindersAheadOf_75 : decode cX1_remaindersAheadOf 75 = .ok (.goto 4, 3) := by decide +kernel
theorem dX1_remaindersAheadOf_78 : decode cX1_remaindersAheadOf 78 = .ok (.iconst 0, 1) := by decide +kernel
theorem dX1_remaindersAheadOf_79 : decode cX1_remaindersAheadOf 79 = .ok (.iadd, 1) := by decide +kernel
theorem dX1_remaindersAheadOf_80 : decode cX1_remaindersAheadOf 80 = .ok (.istore_n 3, 1) := by decide +kernel
theorem dX1_remaindersAheadOf_81 : decode cX1_remaindersAheadOf 81 = .ok (.iinc 4 1, 3) := by decide +kernel
theorem dX1_remaindersAheadOf_84 : decode cX1_remaindersAheadOf 84 = .ok (.goto (-79), 3) := by decide +kernel
theorem dX1_remaindersAheadOf_87 : decode cX1_remaindersAheadOf 87 = .ok (.iload_n 3, 1) := by decide +kernel
theorem dX1_remaindersAheadOf_88 : decode cX1_remaindersAheadOf 88 = .ok (.ireturn, 1) := by decide +kernel
theorem dX1_giveOneByOne_0 : decode cX1_giveOneByOne 0 = .ok (.iconst 0, 1) := by decide +kernel
theorem dX1_giveOneByOne_1 : decode cX1_giveOneByOne 1 = .ok (.istore_n 3, 1) := by decide +kernel
theorem dX1_giveOneByOne_2 : decode cX1_giveOneByOne 2 = .ok (.iload_n 3, 1) := by decide +kernel
theorem dX1_giveOneByOne_3 : decode cX1_giveOneByOne 3 = .ok (.iload_n 2, 1) := by decide +kernel
theorem dX1_giveOneByOne_4 : decode cX1_giveOneByOne 4 = .ok (.if_icmp .ge 80, 3) := by decide +kernel
theorem dX1_giveOneByOne_7 : decode cX1_giveOneByOne 7 = .ok (.iconst (-1), 1) := by decide +kernel
theorem dX1_giveOneByOne_8 : decode cX1_giveOneByOne 8 = .ok (.istore 4, 2) := by decide +kernel
theorem dX1_giveOneByOne_10 : decode cX1_giveOneByOne 10 = .ok (.iconst 0, 1) := by decide +kernel
theorem dX1_giveOneByOne_11 : decode cX1_giveOneByOne 11 = .ok (.istore 5, 2) := by decide +kernel
theorem dX1_giveOneByOne_13 : decode cX1_giveOneByOne 13 = .ok (.iload 5, 2) := by decide +kernel
theorem dX1_giveOneByOne_15 : decode cX1_giveOneByOne 15 = .ok (.aload_n 1, 1) := by decide +kernel
theorem dX1_giveOneByOne_16 : decode cX1_giveOneByOne 16 = .ok (.getfield 18, 3) := by decide +kernel
theorem dX1_giveOneByOne_19 : decode cX1_giveOneByOne 19 = .ok (.if_icmp .ge 43, 3) := by decide +kernel
theorem dX1_giveOneByOne_22 : decode cX1_giveOneByOne 22 = .ok (.aload_n 1, 1) := by decide +kernel
theorem dX1_giveOneByOne_23 : decode cX1_giveOneByOne 23 = .ok (.getfield 24, 3) := by decide +kernel
theorem dX1_giveOneByOne_26 : decode cX1_giveOneByOne 26 = .ok (.iload 5, 2) := by decide +kernel
theorem dX1_giveOneByOne_28 : decode cX1_giveOneByOne 28 = .ok (.aaload, 1) := by decide +kernel
theorem dX1_giveOneByOne_29 : decode cX1_giveOneByOne 29 = .ok (.invokevirtual 28, 3) := by decide +kernel
theorem dX1_giveOneByOne_32 : decode cX1_giveOneByOne 32 = .ok (.ifCond .eq 24, 3) := by decide +kernel
theorem dX1_giveOneByOne_35 : decode cX1_giveOneByOne 35 = .ok (.iload 4, 2) := by decide +kernel
theorem dX1_giveOneByOne_37 : decode cX1_giveOneByOne 37 = .ok (.ifCond .lt 15, 3) := by decide +kernel
theorem dX1_giveOneByOne_40 : decode cX1_giveOneByOne 40 = .ok (.aload_n 0, 1) := by decide +kernel
theorem dX1_giveOneByOne_41 : decode cX1_giveOneByOne 41 = .ok (.aload_n 1, 1) := by decide +kernel
theorem dX1_giveOneByOne_42 : decode cX1_giveOneByOne 42 = .ok (.iload 5, 2) := by decide +kernel
theorem dX1_giveOneByOne_44 : decode cX1_giveOneByOne 44 = .ok (.iload 4, 2) := by decide +kernel
theorem dX1_giveOneByOne_46 : decode cX1_giveOneByOne 46 = .ok (.invokevirtual 49, 3) := by decide +kernel
theorem dX1_giveOneByOne_49 : decode cX1_giveOneByOne 49 = .ok (.ifCond .eq 7, 3) := by decide +kernel
theorem dX1_giveOneByOne_52 : decode cX1_giveOneByOne 52 = .ok (.iload 5, 2) := by decide +kernel
theorem dX1_giveOneByOne_54 : decode cX1_giveOneByOne 54 = .ok (.istore 4, 2) := by decide +kernel
theorem dX1_giveOneByOne_56 : decode cX1_giveOneByOne 56 = .ok (.iinc 5 1, 3) := by decide +kernel
theorem dX1_giveOneByOne_59 : decode cX1_giveOneByOne 59 = .ok (.goto (-46), 3) := by decide +kernel
theorem dX1_giveOneByOne_62 : decode cX1_giveOneByOne 62 = .ok (.iload 4, 2) := by decide +kernel
theorem dX1_giveOneByOne_64 : decode cX1_giveOneByOne 64 = .ok (.ifCond .lt 14, 3) := by decide +kernel
theorem dX1_giveOneByOne_67 : decode cX1_giveOneByOne 67 = .ok (.aload_n 0, 1) := by decide +kernel
theorem dX1_giveOneByOne_68 : decode cX1_giveOneByOne 68 = .ok (.getfield 9, 3) := by decide +kernel
theorem dX1_giveOneByOne_71 : decode cX1_giveOneByOne 71 = .ok (.iload 4, 2) := by decide +kernel
theorem dX1_giveOneByOne_73 : decode cX1_giveOneByOne 73 = .ok (.dup2, 1) := by decide +kernel
theorem dX1_giveOneByOne_74 : decode cX1_giveOneByOne 74 = .ok (.iaload, 1) := by decide +kernel
theorem dX1_giveOneByOne_75 : decode cX1_giveOneByOne 75 = .ok (.iconst 1, 1) := by decide +kernel
theorem dX1_giveOneByOne_76 : decode cX1_giveOneByOne 76 = .ok (.iadd, 1) := by decide +kernel
theorem dX1_giveOneByOne_77 : decode cX1_giveOneByOne 77 = .ok (.iastore, 1) := by decide +kernel
theorem dX1_giveOneByOne_78 : decode cX1_giveOneByOne 78 = .ok (.iinc 3 1, 3) := by decide +kernel
theorem dX1_giveOneByOne_81 : decode cX1_giveOneByOne 81 = .ok (.goto (-79), 3) := by decide +kernel
theorem dX1_giveOneByOne_84 : decode cX1_giveOneByOne 84 = .ok (.return_, 1) := by decide +kernel
theorem dX1_isGreater_0 : decode cX1_isGreater 0 = .ok (.aload_n 1, 1) := by decide +kernel
theorem dX1_isGreater_1 : decode cX1_isGreater 1 = .ok (.getfield 24, 3) := by decide +kernel
theorem dX1_isGreater_4 : decode cX1_isGreater 4 = .ok (.iload_n 2, 1) := by decide +kernel
theorem dX1_isGreater_5 : decode cX1_isGreater 5 = .ok (.aaload, 1) := by decide +kernel
theorem dX1_isGreater_6 : decode cX1_isGreater 6 = .ok (.getfield 34, 3) := by decide +kernel
theorem dX1_isGreater_9 : decode cX1_isGreater 9 = .ok (.aload_n 0, 1) := by decide +kernel
theorem dX1_isGreater_10 : decode cX1_isGreater 10 = .ok (.getfield 9, 3) := by decide +kernel
theorem dX1_isGreater_13 : decode cX1_isGreater 13 = .ok (.iload_n 3, 1) := by decide +kernel
theorem dX1_isGreater_14 : decode cX1_isGreater 14 = .ok (.iaload, 1) := by decide +kernel
theorem dX1_isGreater_15 : decode cX1_isGreater 15 = .ok (.iconst 1, 1) := by decide +kernel
theorem dX1_isGreater_16 : decode cX1_isGreater 16 = .ok (.iadd, 1) := by decide +kernel
theorem dX1_isGreater_17 : decode cX1_isGreater 17 = .ok (.imul, 1) := by decide +kernel
theorem dX1_isGreater_18 : decode cX1_isGreater 18 = .ok (.aload_n 1, 1) := by decide +kernel
theorem dX1_isGreater_19 : decode cX1_isGreater 19 = .ok (.getfield 24, 3) := by decide +kernel
theorem dX1_isGreater_22 : decode cX1_isGreater 22 = .ok (.iload_n 3, 1) := by decide +kernel
theorem dX1_isGreater_23 : decode cX1_isGreater 23 = .ok (.aaload, 1) := by decide +kernel
theorem dX1_isGreater_24 : decode cX1_isGreater 24 = .ok (.getfield 34, 3) := by decide +kernel
theorem dX1_isGreater_27 : decode cX1_isGreater 27 = .ok (.aload_n 0, 1) := by decide +kernel
theorem dX1_isGreater_28 : decode cX1_isGreater 28 = .ok (.getfield 9, 3) := by decide +kernel
theorem dX1_isGreater_31 : decode cX1_isGreater 31 = .ok (.iload_n 2, 1) := by decide +kernel
theorem dX1_isGreater_32 : decode cX1_isGreater 32 = .ok (.iaload, 1) := by decide +kernel
theorem dX1_isGreater_33 : decode cX1_isGreater 33 = .ok (.iconst 1, 1) := by decide +kernel
theorem dX1_isGreater_34 : decode cX1_isGreater 34 = .ok (.iadd, 1) := by decide +kernel
theorem dX1_isGreater_35 : decode cX1_isGreater 35 = .ok (.imul, 1) := by decide +kernel
theorem dX1_isGreater_36 : decode cX1_isGreater 36 = .ok (.if_icmp .le 7, 3) := by decide +kernel
theorem dX1_isGreater_39 : decode cX1_isGreater 39 = .ok (.iconst 1, 1) := by decide +kernel
theorem dX1_isGreater_40 : decode cX1_isGreater 40 = .ok (.goto 4, 3) := by decide +kernel
theorem dX1_isGreater_43 : decode cX1_isGreater 43 = .ok (.iconst 0, 1) := by decide +kernel
theorem dX1_isGreater_44 : decode cX1_isGreater 44 = .ok (.ireturn, 1) := by decide +kernel
theorem dX3_init_0 : decode cX3_init 0 = .ok (.aload_n 0, 1) := by decide +kernel
theorem dX3_init_1 : decode cX3_init 1 = .ok (.invokespecial 3, 3) := by decide +kernel
theorem dX3_init_4 : decode cX3_init 4 = .ok (.aload_n 0, 1) := by decide +kernel
theorem dX3_init_5 : decode cX3_init 5 = .ok (.bipush 7, 2) := by decide +kernel
theorem dX3_init_7 : decode cX3_init 7 = .ok (.newarray .int, 2) := by decide +kernel
theorem dX3_init_9 : decode cX3_init 9 = .ok (.putfield 9, 3) := by decide +kernel
theorem dX3_init_12 : decode cX3_init 12 = .ok (.return_, 1) := by decide +kernel
theorem dX3_byOrders_0 : decode cX3_byOrders 0 = .ok (.aload_n 0, 1) := by decide +kernel
theorem dX3_byOrders_1 : decode cX3_byOrders 1 = .ok (.aload_n 1, 1) := by decide +kernel
theorem dX3_byOrders_2 : decode cX3_byOrders 2 = .ok (.invokevirtual 15, 3) := by decide +kernel
theorem dX3_byOrders_5 : decode cX3_byOrders 5 = .ok (.aload_n 0, 1) := by decide +kernel
theorem dX3_byOrders_6 : decode cX3_byOrders 6 = .ok (.iload_n 2, 1) := by decide +kernel
theorem dX3_byOrders_7 : decode cX3_byOrders 7 = .ok (.iconst 0, 1) := by decide +kernel
theorem dX3_byOrders_8 : decode cX3_byOrders 8 = .ok (.iconst 0, 1) := by decide +kernel
theorem dX3_byOrders_9 : decode cX3_byOrders 9 = .ok (.iconst 0, 1) := by decide +kernel
theorem dX3_byOrders_10 : decode cX3_byOrders 10 = .ok (.iconst 0, 1) := by decide +kernel
theorem dX3_byOrders_11 : decode cX3_byOrders 11 = .ok (.invokestatic 19, 3) := by decide +kernel
theorem dX3_byOrders_14 : decode cX3_byOrders 14 = .ok (.ireturn, 1) := by decide +kernel
theorem dX3_bySteps_0 : decode cX3_bySteps 0 = .ok (.aload_n 0, 1) := by decide +kernel
theorem dX3_bySteps_1 : decode cX3_bySteps 1 = .ok (.aload_n 1, 1) := by decide +kernel
theorem dX3_bySteps_2 : decode cX3_bySteps 2 = .ok (.invokevirtual 15, 3) := by decide +kernel
theorem dX3_bySteps_5 : decode cX3_bySteps 5 = .ok (.iconst 1, 1) := by decide +kernel
theorem dX3_bySteps_6 : decode cX3_bySteps 6 = .ok (.istore_n 3, 1) := by decide +kernel
theorem dX3_bySteps_7 : decode cX3_bySteps 7 = .ok (.iconst 2, 1) := by decide +kernel
theorem dX3_bySteps_8 : decode cX3_bySteps 8 = .ok (.istore 4, 2) := by decide +kernel
theorem dX3_bySteps_10 : decode cX3_bySteps 10 = .ok (.iload 4, 2) := by decide +kernel
theorem dX3_bySteps_12 : decode cX3_bySteps 12 = .ok (.aload_n 0, 1) := by decide +kernel
theorem dX3_bySteps_13 : decode cX3_bySteps 13 = .ok (.getfield 23, 3) := by decide +kernel
theorem dX3_bySteps_16 : decode cX3_bySteps 16 = .ok (.if_icmp .gt 14, 3) := by decide +kernel
theorem dX3_bySteps_19 : decode cX3_bySteps 19 = .ok (.iload_n 3, 1) := by decide +kernel
theorem dX3_bySteps_20 : decode cX3_bySteps 20 = .ok (.iload 4, 2) := by decide +kernel
theorem dX3_bySteps_22 : decode cX3_bySteps 22 = .ok (.imul, 1) := by decide +kernel
theorem dX3_bySteps_23 : decode cX3_bySteps 23 = .ok (.istore_n 3, 1) := by decide +kernel
theorem dX3_bySteps_24 : decode cX3_bySteps 24 = .ok (.iinc 4 1, 3) := by decide +kernel
theorem dX3_bySteps_27 : decode cX3_bySteps 27 = .ok (.goto (-17), 3) := by decide +kernel
theorem dX3_bySteps_30 : decode cX3_bySteps 30 = .ok (.iconst 0, 1) := by decide +kernel
theorem dX3_bySteps_31 : decode cX3_bySteps 31 = .ok (.istore 4, 2) := by decide +kernel
theorem dX3_bySteps_33 : decode cX3_bySteps 33 = .ok (.iconst 0, 1) := by decide +kernel
theorem dX3_bySteps_34 : decode cX3_bySteps 34 = .ok (.istore 5, 2) := by decide +kernel
theorem dX3_bySteps_36 : decode cX3_bySteps 36 = .ok (.iconst 0, 1) := by decide +kernel
theorem dX3_bySteps_37 : decode cX3_bySteps 37 = .ok (.istore 6, 2) := by decide +kernel
theorem dX3_bySteps_39 : decode cX3_bySteps 39 = .ok (.iload 6, 2) := by decide +kernel
theorem dX3_bySteps_41 : decode cX3_bySteps 41 = .ok (.aload_n 0, 1) := by decide +kernel
theorem dX3_bySteps_42 : decode cX3_bySteps 42 = .ok (.getfield 23, 3) := by decide +kernel
theorem dX3_bySteps_45 : decode cX3_bySteps 45 = .ok (.if_icmp .ge 60, 3) := by decide +kernel
theorem dX3_bySteps_48 : decode cX3_bySteps 48 = .ok (.iload 5, 2) := by decide +kernel
theorem dX3_bySteps_50 : decode cX3_bySteps 50 = .ok (.aload_n 0, 1) := by decide +kernel
theorem dX3_bySteps_51 : decode cX3_bySteps 51 = .ok (.getfield 9, 3) := by decide +kernel
theorem dX3_bySteps_54 : decode cX3_bySteps 54 = .ok (.iload_n 2, 1) := by decide +kernel
theorem dX3_bySteps_55 : decode cX3_bySteps 55 = .ok (.iaload, 1) := by decide +kernel
theorem dX3_bySteps_56 : decode cX3_bySteps 56 = .ok (.if_icmp .ge 49, 3) := by decide +kernel
theorem dX3_bySteps_59 : decode cX3_bySteps 59 = .ok (.aload_n 0, 1) := by decide +kernel
theorem dX3_bySteps_60 : decode cX3_bySteps 60 = .ok (.iload 5, 2) := by decide +kernel
theorem dX3_bySteps_62 : decode cX3_bySteps 62 = .ok (.invokevirtual 27, 3) := by decide +kernel
theorem dX3_bySteps_65 : decode cX3_bySteps 65 = .ok (.istore 7, 2) := by decide +kernel
theorem dX3_bySteps_67 : decode cX3_bySteps 67 = .ok (.aload_n 0, 1) := by decide +kernel
theorem dX3_bySteps_68 : decode cX3_bySteps 68 = .ok (.iload 7, 2) := by decide +kernel
theorem dX3_bySteps_70 : decode cX3_bySteps 70 = .ok (.invokevirtual 31, 3) := by decide +kernel
theorem dX3_bySteps_73 : decode cX3_bySteps 73 = .ok (.istore 8, 2) := by decide +kernel
theorem dX3_bySteps_75 : decode cX3_bySteps 75 = .ok (.iload 8, 2) := by decide +kernel
theorem dX3_bySteps_77 : decode cX3_bySteps 77 = .ok (.ifCond .le 18, 3) := by decide +kernel
theorem dX3_bySteps_80 : decode cX3_bySteps 80 = .ok (.iload 4, 2) := by decide +kernel
theorem dX3_bySteps_82 : decode cX3_bySteps 82 = .ok (.iload 7, 2) := by decide +kernel
theorem dX3_bySteps_84 : decode cX3_bySteps 84 = .ok (.iload 5, 2) := by decide +kernel
theorem dX3_bySteps_86 : decode cX3_bySteps 86 = .ok (.isub, 1) := by decide +kernel
theorem dX3_bySteps_87 : decode cX3_bySteps 87 = .ok (.iload_n 3, 1) := by decide +kernel
theorem dX3_bySteps_88 : decode cX3_bySteps 88 = .ok (.iload 8, 2) := by decide +kernel
theorem dX3_bySteps_90 : decode cX3_bySteps 90 = .ok (.idiv, 1) := by decide +kernel
theorem dX3_bySteps_91 : decode cX3_bySteps 91 = .ok (.imul, 1) := by decide +kernel
theorem dX3_bySteps_92 : decode cX3_bySteps 92 = .ok (.iadd, 1) := by decide +kernel
theorem dX3_bySteps_93 : decode cX3_bySteps 93 = .ok (.istore 4, 2) := by decide +kernel
theorem dX3_bySteps_95 : decode cX3_bySteps 95 = .ok (.iload 7, 2) := by decide +kernel
theorem dX3_bySteps_97 : decode cX3_bySteps 97 = .ok (.istore 5, 2) := by decide +kernel
theorem dX3_bySteps_99 : decode cX3_bySteps 99 = .ok (.iinc 6 1, 3) := by decide +kernel
theorem dX3_bySteps_102 : decode cX3_bySteps 102 = .ok (.goto (-63), 3) := by decide +kernel
theorem dX3_bySteps_105 : decode cX3_bySteps 105 = .ok (.iload 4, 2) := by decide +kernel
theorem dX3_bySteps_107 : decode cX3_bySteps 107 = .ok (.ireturn, 1) := by decide +kernel
theorem dX3_readUnits_0 : decode cX3_readUnits 0 = .ok (.aload_n 0, 1) := by decide +kernel
theorem dX3_readUnits_1 : decode cX3_readUnits 1 = .ok (.aload_n 1, 1) := by decide +kernel
theorem dX3_readUnits_2 : decode cX3_readUnits 2 = .ok (.getfield 34, 3) := by decide +kernel
theorem dX3_readUnits_5 : decode cX3_readUnits 5 = .ok (.putfield 23, 3) := by decide +kernel
theorem dX3_readUnits_8 : decode cX3_readUnits 8 = .ok (.iconst 0, 1) := by decide +kernel
theorem dX3_readUnits_9 : decode cX3_readUnits 9 = .ok (.istore_n 2, 1) := by decide +kernel
theorem dX3_readUnits_10 : decode cX3_readUnits 10 = .ok (.iload_n 2, 1) := by decide +kernel
theorem dX3_readUnits_11 : decode cX3_readUnits 11 = .ok (.aload_n 0, 1) := by decide +kernel
theorem dX3_readUnits_12 : decode cX3_readUnits 12 = .ok (.getfield 23, 3) := by decide +kernel
theorem dX3_readUnits_15 : decode cX3_readUnits 15 = .ok (.if_icmp .ge 24, 3) := by decide +kernel
theorem dX3_readUnits_18 : decode cX3_readUnits 18 = .ok (.aload_n 0, 1) := by decide +kernel
theorem dX3_readUnits_19 : decode cX3_readUnits 19 = .ok (.getfield 9, 3) := by decide +kernel
theorem dX3_readUnits_22 : decode cX3_readUnits 22 = .ok (.iload_n 2, 1) := by decide +kernel
theorem dX3_readUnits_23 : decode cX3_readUnits 23 = .ok (.aload_n 1, 1) := by decide +kernel
theorem dX3_readUnits_24 : decode cX3_readUnits 24 = .ok (.getfield 37, 3) := by decide +kernel
theorem dX3_readUnits_27 : decode cX3_readUnits 27 = .ok (.iload_n 2, 1) := by decide +kernel
theorem dX3_readUnits_28 : decode cX3_readUnits 28 = .ok (.aaload, 1) := by decide +kernel
theorem dX3_readUnits_29 : decode cX3_readUnits 29 = .ok (.invokevirtual 41, 3) := by decide +kernel
theorem dX3_readUnits_32 : decode cX3_readUnits 32 = .ok (.iastore, 1) := by decide +kernel
theorem dX3_readUnits_33 : decode cX3_readUnits 33 = .ok (.iinc 2 1, 3) := by decide +kernel
theorem dX3_readUnits_36 : decode cX3_readUnits 36 = .ok (.goto (-26), 3) := by decide +kernel
theorem dX3_readUnits_39 : decode cX3_readUnits 39 = .ok (.return_, 1) := by decide +kernel
theorem dX3_sumOverOrders_0 : decode cX3_sumOverOrders 0 = .ok (.iload_n 2, 1) := by decide +kernel
theorem dX3_sumOverOrders_1 : decode cX3_sumOverOrders 1 = .ok (.aload_n 0, 1) := by decide +kernel
theorem dX3_sumOverOrders_2 : decode cX3_sumOverOrders 2 = .ok (.getfield 23, 3) := by decide +kernel
theorem dX3_sumOverOrders_5 : decode cX3_sumOverOrders 5 = .ok (.if_icmp .lt 6, 3) := by decide +kernel
theorem dX3_sumOverOrders_8 : decode cX3_sumOverOrders 8 = .ok (.iload 5, 2) := by decide +kernel
theorem dX3_sumOverOrders_10 : decode cX3_sumOverOrders 10 = .ok (.ireturn, 1) := by decide +kernel
theorem dX3_sumOverOrders_11 : decode cX3_sumOverOrders 11 = .ok (.iconst 0, 1) := by decide +kernel
theorem dX3_sumOverOrders_12 : decode cX3_sumOverOrders 12 = .ok (.istore 6, 2) := by decide +kernel
theorem dX3_sumOverOrders_14 : decode cX3_sumOverOrders 14 = .ok (.iconst 0, 1) := by decide +kernel
theorem dX3_sumOverOrders_15 : decode cX3_sumOverOrders 15 = .ok (.istore 7, 2) := by decide +kernel
theorem dX3_sumOverOrders_17 : decode cX3_sumOverOrders 17 = .ok (.iload 7, 2) := by decide +kernel
theorem dX3_sumOverOrders_19 : decode cX3_sumOverOrders 19 = .ok (.aload_n 0, 1) := by decide +kernel
theorem dX3_sumOverOrders_20 : decode cX3_sumOverOrders 20 = .ok (.getfield 23, 3) := by decide +kernel
theorem dX3_sumOverOrders_23 : decode cX3_sumOverOrders 23 = .ok (.if_icmp .ge 73, 3) := by decide +kernel
theorem dX3_sumOverOrders_26 : decode cX3_sumOverOrders 26 = .ok (.iload_n 3, 1) := by decide +kernel
theorem dX3_sumOverOrders_27 : decode cX3_sumOverOrders 27 = .ok (.iload 7, 2) := by decide +kernel
theorem dX3_sumOverOrders_29 : decode cX3_sumOverOrders 29 = .ok (.ishr, 1) := by decide +kernel
theorem dX3_sumOverOrders_30 : decode cX3_sumOverOrders 30 = .ok (.iconst 1, 1) := by decide +kernel
theorem dX3_sumOverOrders_31 : decode cX3_sumOverOrders 31 = .ok (.iand, 1) := by decide +kernel
theorem dX3_sumOverOrders_32 : decode cX3_sumOverOrders 32 = .ok (.ifCond .ne 58, 3) := by decide +kernel
theorem dX3_sumOverOrders_35 : decode cX3_sumOverOrders 35 = .ok (.iload 4, 2) := by decide +kernel
theorem dX3_sumOverOrders_37 : decode cX3_sumOverOrders 37 = .ok (.aload_n 0, 1) := by decide +kernel
theorem dX3_sumOverOrders_38 : decode cX3_sumOverOrders 38 = .ok (.getfield 9, 3) := by decide +kernel
theorem dX3_sumOverOrders_41 : decode cX3_sumOverOrders 41 = .ok (.iload 7, 2) := by decide +kernel
theorem dX3_sumOverOrders_43 : decode cX3_sumOverOrders 43 = .ok (.iaload, 1) := by decide +kernel
theorem dX3_sumOverOrders_44 : decode cX3_sumOverOrders 44 = .ok (.invokestatic 47, 3) := by decide +kernel
theorem dX3_sumOverOrders_47 : decode cX3_sumOverOrders 47 = .ok (.istore 8, 2) := by decide +kernel
theorem dX3_sumOverOrders_49 : decode cX3_sumOverOrders 49 = .ok (.iload 7, 2) := by decide +kernel
theorem dX3_sumOverOrders_51 : decode cX3_sumOverOrders 51 = .ok (.iload_n 1, 1) := by decide +kernel
theorem dX3_sumOverOrders_52 : decode cX3_sumOverOrders 52 = .ok (.if_icmp .ne 11, 3) := by decide +kernel
theorem dX3_sumOverOrders_55 : decode cX3_sumOverOrders 55 = .ok (.iload 8, 2) := by decide +kernel
theorem dX3_sumOverOrders_57 : decode cX3_sumOverOrders 57 = .ok (.iload 4, 2) := by decide +kernel
theorem dX3_sumOverOrders_59 : decode cX3_sumOverOrders 59 = .ok (.isub, 1) := by decide +kernel
theorem dX3_sumOverOrders_60 : decode cX3_sumOverOrders 60 = .ok (.goto 5, 3) := by decide +kernel
theorem dX3_sumOverOrders_63 : decode cX3_sumOverOrders 63 = .ok (.iload 5, 2) := by decide +kernel
theorem dX3_sumOverOrders_65 : decode cX3_sumOverOrders 65 = .ok (.istore 9, 2) := by decide +kernel
theorem dX3_sumOverOrders_67 : decode cX3_sumOverOrders 67 = .ok (.iload 6, 2) := by decide +kernel
theorem dX3_sumOverOrders_69 : decode cX3_sumOverOrders 69 = .ok (.aload_n 0, 1) := by decide +kernel
theorem dX3_sumOverOrders_70 : decode cX3_sumOverOrders 70 = .ok (.iload_n 1, 1) := by decide +kernel
theorem dX3_sumOverOrders_71 : decode cX3_sumOverOrders 71 = .ok (.iload_n 2, 1) := by decide +kernel
theorem dX3_sumOverOrders_72 : decode cX3_sumOverOrders 72 = .ok (.iconst 1, 1) := by decide +kernel
theorem dX3_sumOverOrders_73 : decode cX3_sumOverOrders 73 = .ok (.iadd, 1) := by decide +kernel
theorem dX3_sumOverOrders_74 : decode cX3_sumOverOrders 74 = .ok (.iload_n 3, 1) := by decide +kernel
theorem dX3_sumOverOrders_75 : decode cX3_sumOverOrders 75 = .ok (.iconst 1, 1) := by decide +kernel
theorem dX3_sumOverOrders_76 : decode cX3_sumOverOrders 76 = .ok (.iload 7, 2) := by decide +kernel
theorem dX3_sumOverOrders_78 : decode cX3_sumOverOrders 78 = .ok (.ishl, 1) := by decide +kernel
theorem dX3_sumOverOrders_79 : decode cX3_sumOverOrders 79 = .ok (.ior, 1) := by decide +kernel
theorem dX3_sumOverOrders_80 : decode cX3_sumOverOrders 80 = .ok (.iload 8, 2) := by decide +kernel
theorem dX3_sumOverOrders_82 : decode cX3_sumOverOrders 82 = .ok (.iload 9, 2) := by decide +kernel
theorem dX3_sumOverOrders_84 : decode cX3_sumOverOrders 84 = .ok (.invokestatic 19, 3) := by decide +kernel
theorem dX3_sumOverOrders_87 : decode cX3_sumOverOrders 87 = .ok (.iadd, 1) := by decide +kernel
theorem dX3_sumOverOrders_88 : decode cX3_sumOverOrders 88 = .ok (.istore 6, 2) := by decide +kernel
theorem dX3_sumOverOrders_90 : decode cX3_sumOverOrders 90 = .ok (.iinc 7 1, 3) := by decide +kernel
theorem dX3_sumOverOrders_93 : decode cX3_sumOverOrders 93 = .ok (.goto (-76), 3) := by decide +kernel
theorem dX3_sumOverOrders_96 : decode cX3_sumOverOrders 96 = .ok (.iload 6, 2) := by decide +kernel
theorem dX3_sumOverOrders_98 : decode cX3_sumOverOrders 98 = .ok (.ireturn, 1) := by decide +kernel
theorem dX3_nextLevel_0 : decode cX3_nextLevel 0 = .ok (.iload_n 1, 1) := by decide +kernel
theorem dX3_nextLevel_1 : decode cX3_nextLevel 1 = .ok (.istore_n 2, 1) := by decide +kernel
theorem dX3_nextLevel_2 : decode cX3_nextLevel 2 = .ok (.iconst 0, 1) := by decide +kernel
theorem dX3_nextLevel_3 : decode cX3_nextLevel 3 = .ok (.istore_n 3, 1) := by decide +kernel
theorem dX3_nextLevel_4 : decode cX3_nextLevel 4 = .ok (.iload_n 3, 1) := by decide +kernel
theorem dX3_nextLevel_5 : decode cX3_nextLevel 5 = .ok (.aload_n 0, 1) := by decide +kernel
theorem dX3_nextLevel_6 : decode cX3_nextLevel 6 = .ok (.getfield 23, 3) := by decide +kernel
theorem dX3_nextLevel_9 : decode cX3_nextLevel 9 = .ok (.if_icmp .ge 41, 3) := by decide +kernel
theorem dX3_nextLevel_12 : decode cX3_nextLevel 12 = .ok (.aload_n 0, 1) := by decide +kernel
theorem dX3_nextLevel_13 : decode cX3_nextLevel 13 = .ok (.getfield 9, 3) := by decide +kernel
theorem dX3_nextLevel_16 : decode cX3_nextLevel 16 = .ok (.iload_n 3, 1) := by decide +kernel
theorem dX3_nextLevel_17 : decode cX3_nextLevel 17 = .ok (.iaload, 1) := by decide +kernel
theorem dX3_nextLevel_18 : decode cX3_nextLevel 18 = .ok (.iload_n 1, 1) := by decide +kernel
theorem dX3_nextLevel_19 : decode cX3_nextLevel 19 = .ok (.if_icmp .le 25, 3) := by decide +kernel
theorem dX3_nextLevel_22 : decode cX3_nextLevel 22 = .ok (.iload_n 2, 1) := by decide +kernel
theorem dX3_nextLevel_23 : decode cX3_nextLevel 23 = .ok (.iload_n 1, 1) := by decide +kernel
theorem dX3_nextLevel_24 : decode cX3_nextLevel 24 = .ok (.if_icmp .eq 13, 3) := by decide +kernel
theorem dX3_nextLevel_27 : decode cX3_nextLevel 27 = .ok (.aload_n 0, 1) := by decide +kernel
theorem dX3_nextLevel_28 : decode cX3_nextLevel 28 = .ok (.getfield 9, 3) := by decide +kernel
theorem dX3_nextLevel_31 : decode cX3_nextLevel 31 = .ok (.iload_n 3, 1) := by decide +kernel
theorem dX3_nextLevel_32 : decode cX3_nextLevel 32 = .ok (.iaload, 1) := by decide +kernel
theorem dX3_nextLevel_33 : decode cX3_nextLevel 33 = .ok (.iload_n 2, 1) := by decide +kernel
theorem dX3_nextLevel_34 : decode cX3_nextLevel 34 = .ok (.if_icmp .ge 10, 3) := by decide +kernel
theorem dX3_nextLevel_37 : decode cX3_nextLevel 37 = .ok (.aload_n 0, 1) := by decide +kernel
theorem dX3_nextLevel_38 : decode cX3_nextLevel 38 = .ok (.getfield 9, 3) := by decide +kernel
theorem dX3_nextLevel_41 : decode cX3_nextLevel 41 = .ok (.iload_n 3, 1) := by decide +kernel
theorem dX3_nextLevel_42 : decode cX3_nextLevel 42 = .ok (.iaload, 1) := by decide +kernel
theorem dX3_nextLevel_43 : decode cX3_nextLevel 43 = .ok (.istore_n 2, 1) := by decide +kernel
theorem dX3_nextLevel_44 : decode cX3_nextLevel 44 = .ok (.iinc 3 1, 3) := by decide +kernel
theorem dX3_nextLevel_47 : decode cX3_nextLevel 47 = .ok (.goto (-43), 3) := by decide +kernel
theorem dX3_nextLevel_50 : decode cX3_nextLevel 50 = .ok (.iload_n 2, 1) := by decide +kernel
theorem dX3_nextLevel_51 : decode cX3_nextLevel 51 = .ok (.ireturn, 1) := by decide +kernel
theorem dX3_bearersOf_0 : decode cX3_bearersOf 0 = .ok (.iconst 0, 1) := by decide +kernel
theorem dX3_bearersOf_1 : decode cX3_bearersOf 1 = .ok (.istore_n 2, 1) := by decide +kernel
theorem dX3_bearersOf_2 : decode cX3_bearersOf 2 = .ok (.iconst 0, 1) := by decide +kernel
theorem dX3_bearersOf_3 : decode cX3_bearersOf 3 = .ok (.istore_n 3, 1) := by decide +kernel
theorem dX3_bearersOf_4 : decode cX3_bearersOf 4 = .ok (.iload_n 3, 1) := by decide +kernel
theorem dX3_bearersOf_5 : decode cX3_bearersOf 5 = .ok (.aload_n 0, 1) := by decide +kernel
theorem dX3_bearersOf_6 : decode cX3_bearersOf 6 = .ok (.getfield 23, 3) := by decide +kernel
theorem dX3_bearersOf_9 : decode cX3_bearersOf 9 = .ok (.if_icmp .ge 27, 3) := by decide +kernel
theorem dX3_bearersOf_12 : decode cX3_bearersOf 12 = .ok (.iload_n 2, 1) := by decide +kernel
theorem dX3_bearersOf_13 : decode cX3_bearersOf 13 = .ok (.aload_n 0, 1) := by decide +kernel
theorem dX3_bearersOf_14 : decode cX3_bearersOf 14 = .ok (.getfield 9, 3) := by decide +kernel
theorem dX3_bearersOf_17 : decode cX3_bearersOf 17 = .ok (.iload_n 3, 1) := by decide +kernel
theorem dX3_bearersOf_18 : decode cX3_bearersOf 18 = .ok (.iaload, 1) := by decide +kernel
theorem dX3_bearersOf_19 : decode cX3_bearersOf 19 = .ok (.iload_n 1, 1) := by decide +kernel
theorem dX3_bearersOf_20 : decode cX3_bearersOf 20 = .ok (.if_icmp .lt 7, 3) := by decide +kernel
theorem dX3_bearersOf_23 : decode cX3_bearersOf 23 = .ok (.iconst 1, 1) := by decide +kernel
theorem dX3_bearersOf_24 : decode cX3_bearersOf 24 = .ok (.goto 4, 3) := by decide +kernel
theorem dX3_bearersOf_27 : decode cX3_bearersOf 27 = .ok (.iconst 0, 1) := by decide +kernel
theorem dX3_bearersOf_28 : decode cX3_bearersOf 28 = .ok (.iadd, 1) := by decide +kernel
theorem dX3_bearersOf_29 : decode cX3_bearersOf 29 = .ok (.istore_n 2, 1) := by decide +kernel
theorem dX3_bearersOf_30 : decode cX3_bearersOf 30 = .ok (.iinc 3 1, 3) := by decide +kernel
theorem dX3_bearersOf_33 : decode cX3_bearersOf 33 = .ok (.goto (-29), 3) := by decide +kernel
theorem dX3_bearersOf_36 : decode cX3_bearersOf 36 = .ok (.iload_n 2, 1) := by decide +kernel
theorem dX3_bearersOf_37 : decode cX3_bearersOf 37 = .ok (.ireturn, 1) := by decide +kernel
theorem dX4_init_0 : decode cX4_init 0 = .ok (.aload_n 0, 1) := by decide +kernel
theorem dX4_init_1 : decode cX4_init 1 = .ok (.invokespecial 1, 3) := by decide +kernel
theorem dX4_init_4 : decode cX4_init 4 = .ok (.aload_n 0, 1) := by decide +kernel
theorem dX4_init_5 : decode cX4_init 5 = .ok (.bipush 8, 2) := by decide +kernel
theorem dX4_init_7 : decode cX4_init 7 = .ok (.anewarray 9, 3) := by decide +kernel
theorem dX4_init_10 : decode cX4_init 10 = .ok (.putfield 11, 3) := by decide +kernel
theorem dX4_init_13 : decode cX4_init 13 = .ok (.iconst 0, 1) := by decide +kernel
theorem dX4_init_14 : decode cX4_init 14 = .ok (.istore_n 1, 1) := by decide +kernel
theorem dX4_init_15 : decode cX4_init 15 = .ok (.iload_n 1, 1) := by decide +kernel
theorem dX4_init_16 : decode cX4_init 16 = .ok (.aload_n 0, 1) := by decide +kernel
theorem dX4_init_17 : decode cX4_init 17 = .ok (.getfield 11, 3) := by decide +kernel
theorem dX4_init_20 : decode cX4_init 20 = .ok (.arraylength, 1) := by decide +kernel
theorem dX4_init_21 : decode cX4_init 21 = .ok (.if_icmp .ge 22, 3) := by decide +kernel
theorem dX4_init_24 : decode cX4_init 24 = .ok (.aload_n 0, 1) := by decide +kernel
theorem dX4_init_25 : decode cX4_init 25 = .ok (.getfield 11, 3) := by decide +kernel
theorem dX4_init_28 : decode cX4_init 28 = .ok (.iload_n 1, 1) := by decide +kernel
theorem dX4_init_29 : decode cX4_init 29 = .ok (.new 9, 3) := by decide +kernel
theorem dX4_init_32 : decode cX4_init 32 = .ok (.dup, 1) := by decide +kernel
theorem dX4_init_33 : decode cX4_init 33 = .ok (.invokespecial 15, 3) := by decide +kernel
theorem dX4_init_36 : decode cX4_init 36 = .ok (.aastore, 1) := by decide +kernel
theorem dX4_init_37 : decode cX4_init 37 = .ok (.iinc 1 1, 3) := by decide +kernel
theorem dX4_init_40 : decode cX4_init 40 = .ok (.goto (-25), 3) := by decide +kernel
theorem dX4_init_43 : decode cX4_init 43 = .ok (.return_, 1) := by decide +kernel
theorem dX4_keep_0 : decode cX4_keep 0 = .ok (.aload_n 0, 1) := by decide +kernel
theorem dX4_keep_1 : decode cX4_keep 1 = .ok (.getfield 11, 3) := by decide +kernel
theorem dX4_keep_4 : decode cX4_keep 4 = .ok (.aload_n 0, 1) := by decide +kernel
theorem dX4_keep_5 : decode cX4_keep 5 = .ok (.getfield 16, 3) := by decide +kernel
theorem dX4_keep_8 : decode cX4_keep 8 = .ok (.aload_n 0, 1) := by decide +kernel
theorem dX4_keep_9 : decode cX4_keep 9 = .ok (.getfield 20, 3) := by decide +kernel
theorem dX4_keep_12 : decode cX4_keep 12 = .ok (.iadd, 1) := by decide +kernel
theorem dX4_keep_13 : decode cX4_keep 13 = .ok (.bipush 8, 2) := by decide +kernel
theorem dX4_keep_15 : decode cX4_keep 15 = .ok (.irem, 1) := by decide +kernel
theorem dX4_keep_16 : decode cX4_keep 16 = .ok (.aaload, 1) := by decide +kernel
theorem dX4_keep_17 : decode cX4_keep 17 = .ok (.aload_n 1, 1) := by decide +kernel
theorem dX4_keep_18 : decode cX4_keep 18 = .ok (.invokevirtual 23, 3) := by decide +kernel
theorem dX4_keep_21 : decode cX4_keep 21 = .ok (.aload_n 0, 1) := by decide +kernel
theorem dX4_keep_22 : decode cX4_keep 22 = .ok (.getfield 20, 3) := by decide +kernel
theorem dX4_keep_25 : decode cX4_keep 25 = .ok (.bipush 8, 2) := by decide +kernel
theorem dX4_keep_27 : decode cX4_keep 27 = .ok (.if_icmp .ge 16, 3) := by decide +kernel
theorem dX4_keep_30 : decode cX4_keep 30 = .ok (.aload_n 0, 1) := by decide +kernel
theorem dX4_keep_31 : decode cX4_keep 31 = .ok (.dup, 1) := by decide +kernel
theorem dX4_keep_32 : decode cX4_keep 32 = .ok (.getfield 20, 3) := by decide +kernel
theorem dX4_keep_35 : decode cX4_keep 35 = .ok (.iconst 1, 1) := by decide +kernel
theorem dX4_keep_36 : decode cX4_keep 36 = .ok (.iadd, 1) := by decide +kernel
theorem dX4_keep_37 : decode cX4_keep 37 = .ok (.putfield 20, 3) := by decide +kernel
theorem dX4_keep_40 : decode cX4_keep 40 = .ok (.goto 16, 3) := by decide +kernel
theorem dX4_keep_43 : decode cX4_keep 43 = .ok (.aload_n 0, 1) := by decide +kernel
theorem dX4_keep_44 : decode cX4_keep 44 = .ok (.aload_n 0, 1) := by decide +kernel
theorem dX4_keep_45 : decode cX4_keep 45 = .ok (.getfield 16, 3) := by decide +kernel
theorem dX4_keep_48 : decode cX4_keep 48 = .ok (.iconst 1, 1) := by decide +kernel
theorem dX4_keep_49 : decode cX4_keep 49 = .ok (.iadd, 1) := by decide +kernel
theorem dX4_keep_50 : decode cX4_keep 50 = .ok (.bipush 8, 2) := by decide +kernel
theorem dX4_keep_52 : decode cX4_keep 52 = .ok (.irem, 1) := by decide +kernel
theorem dX4_keep_53 : decode cX4_keep 53 = .ok (.putfield 16, 3) := by decide +kernel
theorem dX4_keep_56 : decode cX4_keep 56 = .ok (.return_, 1) := by decide +kernel
theorem dX4_takeBack_0 : decode cX4_takeBack 0 = .ok (.aload_n 0, 1) := by decide +kernel
theorem dX4_takeBack_1 : decode cX4_takeBack 1 = .ok (.getfield 20, 3) := by decide +kernel
theorem dX4_takeBack_4 : decode cX4_takeBack 4 = .ok (.ifCond .le 34, 3) := by decide +kernel
theorem dX4_takeBack_7 : decode cX4_takeBack 7 = .ok (.aload_n 0, 1) := by decide +kernel
theorem dX4_takeBack_8 : decode cX4_takeBack 8 = .ok (.dup, 1) := by decide +kernel
theorem dX4_takeBack_9 : decode cX4_takeBack 9 = .ok (.getfield 20, 3) := by decide +kernel
theorem dX4_takeBack_12 : decode cX4_takeBack 12 = .ok (.iconst 1, 1) := by decide +kernel
theorem dX4_takeBack_13 : decode cX4_takeBack 13 = .ok (.isub, 1) := by decide +kernel
theorem dX4_takeBack_14 : decode cX4_takeBack 14 = .ok (.putfield 20, 3) := by decide +kernel
theorem dX4_takeBack_17 : decode cX4_takeBack 17 = .ok (.aload_n 1, 1) := by decide +kernel
theorem dX4_takeBack_18 : decode cX4_takeBack 18 = .ok (.aload_n 0, 1) := by decide +kernel
theorem dX4_takeBack_19 : decode cX4_takeBack 19 = .ok (.getfield 11, 3) := by decide +kernel
theorem dX4_takeBack_22 : decode cX4_takeBack 22 = .ok (.aload_n 0, 1) := by decide +kernel
theorem dX4_takeBack_23 : decode cX4_takeBack 23 = .ok (.getfield 16, 3) := by decide +kernel
theorem dX4_takeBack_26 : decode cX4_takeBack 26 = .ok (.aload_n 0, 1) := by decide +kernel
theorem dX4_takeBack_27 : decode cX4_takeBack 27 = .ok (.getfield 20, 3) := by decide +kernel
theorem dX4_takeBack_30 : decode cX4_takeBack 30 = .ok (.iadd, 1) := by decide +kernel
theorem dX4_takeBack_31 : decode cX4_takeBack 31 = .ok (.bipush 8, 2) := by decide +kernel
theorem dX4_takeBack_33 : decode cX4_takeBack 33 = .ok (.irem, 1) := by decide +kernel
theorem dX4_takeBack_34 : decode cX4_takeBack 34 = .ok (.aaload, 1) := by decide +kernel
theorem dX4_takeBack_35 : decode cX4_takeBack 35 = .ok (.invokevirtual 23, 3) := by decide +kernel
theorem dX4_takeBack_38 : decode cX4_takeBack 38 = .ok (.return_, 1) := by decide +kernel
theorem dX5_init_0 : decode cX5_init 0 = .ok (.aload_n 0, 1) := by decide +kernel
theorem dX5_init_1 : decode cX5_init 1 = .ok (.invokespecial 3, 3) := by decide +kernel
theorem dX5_init_4 : decode cX5_init 4 = .ok (.aload_n 0, 1) := by decide +kernel
theorem dX5_init_5 : decode cX5_init 5 = .ok (.bipush 7, 2) := by decide +kernel
theorem dX5_init_7 : decode cX5_init 7 = .ok (.newarray .int, 2) := by decide +kernel
theorem dX5_init_9 : decode cX5_init 9 = .ok (.putfield 9, 3) := by decide +kernel
theorem dX5_init_12 : decode cX5_init 12 = .ok (.return_, 1) := by decide +kernel
theorem dX5_copyFrom_0 : decode cX5_copyFrom 0 = .ok (.aload_n 1, 1) := by decide +kernel
theorem dX5_copyFrom_1 : decode cX5_copyFrom 1 = .ok (.getfield 9, 3) := by decide +kernel
theorem dX5_copyFrom_4 : decode cX5_copyFrom 4 = .ok (.iconst 0, 1) := by decide +kernel
theorem dX5_copyFrom_5 : decode cX5_copyFrom 5 = .ok (.aload_n 0, 1) := by decide +kernel
theorem dX5_copyFrom_6 : decode cX5_copyFrom 6 = .ok (.getfield 9, 3) := by decide +kernel
theorem dX5_copyFrom_9 : decode cX5_copyFrom 9 = .ok (.iconst 0, 1) := by decide +kernel
theorem dX5_copyFrom_10 : decode cX5_copyFrom 10 = .ok (.aload_n 0, 1) := by decide +kernel
theorem dX5_copyFrom_11 : decode cX5_copyFrom 11 = .ok (.getfield 9, 3) := by decide +kernel
theorem dX5_copyFrom_14 : decode cX5_copyFrom 14 = .ok (.arraylength, 1) := by decide +kernel
theorem dX5_copyFrom_15 : decode cX5_copyFrom 15 = .ok (.invokestatic 15, 3) := by decide +kernel
theorem dX5_copyFrom_18 : decode cX5_copyFrom 18 = .ok (.return_, 1) := by decide +kernel
theorem dX5_connects_0 : decode cX5_connects 0 = .ok (.aload_n 0, 1) := by decide +kernel
theorem dX5_connects_1 : decode cX5_connects 1 = .ok (.getfield 9, 3) := by decide +kernel
theorem dX5_connects_4 : decode cX5_connects 4 = .ok (.iload_n 1, 1) := by decide +kernel
theorem dX5_connects_5 : decode cX5_connects 5 = .ok (.iaload, 1) := by decide +kernel
theorem dX5_connects_6 : decode cX5_connects 6 = .ok (.iload_n 2, 1) := by decide +kernel
theorem dX5_connects_7 : decode cX5_connects 7 = .ok (.ishr, 1) := by decide +kernel
theorem dX5_connects_8 : decode cX5_connects 8 = .ok (.iconst 1, 1) := by decide +kernel
theorem dX5_connects_9 : decode cX5_connects 9 = .ok (.iand, 1) := by decide +kernel
theorem dX5_connects_10 : decode cX5_connects 10 = .ok (.iconst 1, 1) := by decide +kernel
theorem dX5_connects_11 : decode cX5_connects 11 = .ok (.if_icmp .ne 7, 3) := by decide +kernel
theorem dX5_connects_14 : decode cX5_connects 14 = .ok (.iconst 1, 1) := by decide +kernel
theorem dX5_connects_15 : decode cX5_connects 15 = .ok (.goto 4, 3) := by decide +kernel
theorem dX5_connects_18 : decode cX5_connects 18 = .ok (.iconst 0, 1) := by decide +kernel
theorem dX5_connects_19 : decode cX5_connects 19 = .ok (.ireturn, 1) := by decide +kernel
theorem dX5_flip_0 : decode cX5_flip 0 = .ok (.aload_n 0, 1) := by decide +kernel
theorem dX5_flip_1 : decode cX5_flip 1 = .ok (.getfield 9, 3) := by decide +kernel
theorem dX5_flip_4 : decode cX5_flip 4 = .ok (.iload_n 1, 1) := by decide +kernel
theorem dX5_flip_5 : decode cX5_flip 5 = .ok (.dup2, 1) := by decide +kernel
theorem dX5_flip_6 : decode cX5_flip 6 = .ok (.iaload, 1) := by decide +kernel
theorem dX5_flip_7 : decode cX5_flip 7 = .ok (.iconst 1, 1) := by decide +kernel
theorem dX5_flip_8 : decode cX5_flip 8 = .ok (.iload_n 2, 1) := by decide +kernel
theorem dX5_flip_9 : decode cX5_flip 9 = .ok (.ishl, 1) := by decide +kernel
theorem dX5_flip_10 : decode cX5_flip 10 = .ok (.ixor, 1) := by decide +kernel
theorem dX5_flip_11 : decode cX5_flip 11 = .ok (.iastore, 1) := by decide +kernel
theorem dX5_flip_12 : decode cX5_flip 12 = .ok (.aload_n 0, 1) := by decide +kernel
theorem dX5_flip_13 : decode cX5_flip 13 = .ok (.getfield 9, 3) := by decide +kernel
theorem dX5_flip_16 : decode cX5_flip 16 = .ok (.iload_n 2, 1) := by decide +kernel
theorem dX5_flip_17 : decode cX5_flip 17 = .ok (.dup2, 1) := by decide +kernel
theorem dX5_flip_18 : decode cX5_flip 18 = .ok (.iaload, 1) := by decide +kernel
theorem dX5_flip_19 : decode cX5_flip 19 = .ok (.iconst 1, 1) := by decide +kernel
theorem dX5_flip_20 : decode cX5_flip 20 = .ok (.iload_n 1, 1) := by decide +kernel
theorem dX5_flip_21 : decode cX5_flip 21 = .ok (.ishl, 1) := by decide +kernel
theorem dX5_flip_22 : decode cX5_flip 22 = .ok (.ixor, 1) := by decide +kernel
theorem dX5_flip_23 : decode cX5_flip 23 = .ok (.iastore, 1) := by decide +kernel
theorem dX5_flip_24 : decode cX5_flip 24 = .ok (.return_, 1) := by decide +kernel
theorem dX5_total_0 : decode cX5_total 0 = .ok (.iconst 0, 1) := by decide +kernel
theorem dX5_total_1 : decode cX5_total 1 = .ok (.istore_n 1, 1) := by decide +kernel
theorem dX5_total_2 : decode cX5_total 2 = .ok (.iconst 0, 1) := by decide +kernel
theorem dX5_total_3 : decode cX5_total 3 = .ok (.istore_n 2, 1) := by decide +kernel
theorem dX5_total_4 : decode cX5_total 4 = .ok (.iload_n 2, 1) := by decide +kernel
theorem dX5_total_5 : decode cX5_total 5 = .ok (.aload_n 0, 1) := by decide +kernel
theorem dX5_total_6 : decode cX5_total 6 = .ok (.getfield 9, 3) := by decide +kernel
theorem dX5_total_9 : decode cX5_total 9 = .ok (.arraylength, 1) := by decide +kernel
theorem dX5_total_10 : decode cX5_total 10 = .ok (.if_icmp .ge 21, 3) := by decide +kernel
theorem dX5_total_13 : decode cX5_total 13 = .ok (.iload_n 1, 1) := by decide +kernel
theorem dX5_total_14 : decode cX5_total 14 = .ok (.aload_n 0, 1) := by decide +kernel
theorem dX5_total_15 : decode cX5_total 15 = .ok (.getfield 9, 3) := by decide +kernel
theorem dX5_total_18 : decode cX5_total 18 = .ok (.iload_n 2, 1) := by decide +kernel
theorem dX5_total_19 : decode cX5_total 19 = .ok (.iaload, 1) := by decide +kernel
theorem dX5_total_20 : decode cX5_total 20 = .ok (.invokestatic 21, 3) := by decide +kernel
theorem dX5_total_23 : decode cX5_total 23 = .ok (.iadd, 1) := by decide +kernel
theorem dX5_total_24 : decode cX5_total 24 = .ok (.istore_n 1, 1) := by decide +kernel
theorem dX5_total_25 : decode cX5_total 25 = .ok (.iinc 2 1, 3) := by decide +kernel
theorem dX5_total_28 : decode cX5_total 28 = .ok (.goto (-24), 3) := by decide +kernel
theorem dX5_total_31 : decode cX5_total 31 = .ok (.iload_n 1, 1) := by decide +kernel
theorem dX5_total_32 : decode cX5_total 32 = .ok (.iconst 2, 1) := by decide +kernel
theorem dX5_total_33 : decode cX5_total 33 = .ok (.idiv, 1) := by decide +kernel
theorem dX5_total_34 : decode cX5_total 34 = .ok (.ireturn, 1) := by decide +kernel
theorem dX5_fewestBySets_0 : decode cX5_fewestBySets 0 = .ok (.iload_n 1, 1) := by decide +kernel
theorem dX5_fewestBySets_1 : decode cX5_fewestBySets 1 = .ok (.istore_n 2, 1) := by decide +kernel
theorem dX5_fewestBySets_2 : decode cX5_fewestBySets 2 = .ok (.iconst 0, 1) := by decide +kernel
theorem dX5_fewestBySets_3 : decode cX5_fewestBySets 3 = .ok (.istore_n 3, 1) := by decide +kernel
theorem dX5_fewestBySets_4 : decode cX5_fewestBySets 4 = .ok (.iload_n 3, 1) := by decide +kernel
theorem dX5_fewestBySets_5 : decode cX5_fewestBySets 5 = .ok (.iconst 1, 1) := by decide +kernel
theorem dX5_fewestBySets_6 : decode cX5_fewestBySets 6 = .ok (.iload_n 1, 1) := by decide +kernel
theorem dX5_fewestBySets_7 : decode cX5_fewestBySets 7 = .ok (.ishl, 1) := by decide +kernel
theorem dX5_fewestBySets_8 : decode cX5_fewestBySets 8 = .ok (.if_icmp .ge 26, 3) := by decide +kernel
theorem dX5_fewestBySets_11 : decode cX5_fewestBySets 11 = .ok (.aload_n 0, 1) := by decide +kernel
theorem dX5_fewestBySets_12 : decode cX5_fewestBySets 12 = .ok (.iload_n 3, 1) := by decide +kernel
theorem dX5_fewestBySets_13 : decode cX5_fewestBySets 13 = .ok (.invokevirtual 27, 3) := by decide +kernel
theorem dX5_fewestBySets_16 : decode cX5_fewestBySets 16 = .ok (.ifCond .ge 12, 3) := by decide +kernel
theorem dX5_fewestBySets_19 : decode cX5_fewestBySets 19 = .ok (.iload_n 2, 1) := by decide +kernel
theorem dX5_fewestBySets_20 : decode cX5_fewestBySets 20 = .ok (.iload_n 3, 1) := by decide +kernel
theorem dX5_fewestBySets_21 : decode cX5_fewestBySets 21 = .ok (.invokestatic 21, 3) := by decide +kernel
theorem dX5_fewestBySets_24 : decode cX5_fewestBySets 24 = .ok (.invokestatic 30, 3) := by decide +kernel
theorem dX5_fewestBySets_27 : decode cX5_fewestBySets 27 = .ok (.istore_n 2, 1) := by decide +kernel
theorem dX5_fewestBySets_28 : decode cX5_fewestBySets 28 = .ok (.iinc 3 1, 3) := by decide +kernel
theorem dX5_fewestBySets_31 : decode cX5_fewestBySets 31 = .ok (.goto (-27), 3) := by decide +kernel
theorem dX5_fewestBySets_34 : decode cX5_fewestBySets 34 = .ok (.iload_n 2, 1) := by decide +kernel
theorem dX5_fewestBySets_35 : decode cX5_fewestBySets 35 = .ok (.ireturn, 1) := by decide +kernel
theorem dX5_firstUnwatched_0 : decode cX5_firstUnwatched 0 = .ok (.iconst 0, 1) := by decide +kernel
theorem dX5_firstUnwatched_1 : decode cX5_firstUnwatched 1 = .ok (.istore_n 2, 1) := by decide +kernel
theorem dX5_firstUnwatched_2 : decode cX5_firstUnwatched 2 = .ok (.iload_n 2, 1) := by decide +kernel
theorem dX5_firstUnwatched_3 : decode cX5_firstUnwatched 3 = .ok (.aload_n 0, 1) := by decide +kernel
theorem dX5_firstUnwatched_4 : decode cX5_firstUnwatched 4 = .ok (.getfield 9, 3) := by decide +kernel
theorem dX5_firstUnwatched_7 : decode cX5_firstUnwatched 7 = .ok (.arraylength, 1) := by decide +kernel
theorem dX5_firstUnwatched_8 : decode cX5_firstUnwatched 8 = .ok (.if_icmp .ge 32, 3) := by decide +kernel
theorem dX5_firstUnwatched_11 : decode cX5_firstUnwatched 11 = .ok (.iload_n 1, 1) := by decide +kernel
theorem dX5_firstUnwatched_12 : decode cX5_firstUnwatched 12 = .ok (.iload_n 2, 1) := by decide +kernel
theorem dX5_firstUnwatched_13 : decode cX5_firstUnwatched 13 = .ok (.ishr, 1) := by decide +kernel
theorem dX5_firstUnwatched_14 : decode cX5_firstUnwatched 14 = .ok (.iconst 1, 1) := by decide +kernel
theorem dX5_firstUnwatched_15 : decode cX5_firstUnwatched 15 = .ok (.iand, 1) := by decide +kernel
theorem dX5_firstUnwatched_16 : decode cX5_firstUnwatched 16 = .ok (.ifCond .ne 18, 3) := by decide +kernel
theorem dX5_firstUnwatched_19 : decode cX5_firstUnwatched 19 = .ok (.aload_n 0, 1) := by decide +kernel
theorem dX5_firstUnwatched_20 : decode cX5_firstUnwatched 20 = .ok (.getfield 9, 3) := by decide +kernel
theorem dX5_firstUnwatched_23 : decode cX5_firstUnwatched 23 = .ok (.iload_n 2, 1) := by decide +kernel
theorem dX5_firstUnwatched_24 : decode cX5_firstUnwatched 24 = .ok (.iaload, 1) := by decide +kernel
theorem dX5_firstUnwatched_25 : decode cX5_firstUnwatched 25 = .ok (.iload_n 1, 1) := by decide +kernel
theorem dX5_firstUnwatched_26 : decode cX5_firstUnwatched 26 = .ok (.iconst (-1), 1) := by decide +kernel
theorem dX5_firstUnwatched_27 : decode cX5_firstUnwatched 27 = .ok (.ixor, 1) := by decide +kernel
theorem dX5_firstUnwatched_28 : decode cX5_firstUnwatched 28 = .ok (.iand, 1) := by decide +kernel
theorem dX5_firstUnwatched_29 : decode cX5_firstUnwatched 29 = .ok (.ifCond .eq 5, 3) := by decide +kernel
theorem dX5_firstUnwatched_32 : decode cX5_firstUnwatched 32 = .ok (.iload_n 2, 1) := by decide +kernel
theorem dX5_firstUnwatched_33 : decode cX5_firstUnwatched 33 = .ok (.ireturn, 1) := by decide +kernel
theorem dX5_firstUnwatched_34 : decode cX5_firstUnwatched 34 = .ok (.iinc 2 1, 3) := by decide +kernel
theorem dX5_firstUnwatched_37 : decode cX5_firstUnwatched 37 = .ok (.goto (-35), 3) := by decide +kernel
theorem dX5_firstUnwatched_40 : decode cX5_firstUnwatched 40 = .ok (.iconst (-1), 1) := by decide +kernel
theorem dX5_firstUnwatched_41 : decode cX5_firstUnwatched 41 = .ok (.ireturn, 1) := by decide +kernel
theorem dX5_fewestFrom_0 : decode cX5_fewestFrom 0 = .ok (.aload_n 0, 1) := by decide +kernel
theorem dX5_fewestFrom_1 : decode cX5_fewestFrom 1 = .ok (.iload_n 2, 1) := by decide +kernel
theorem dX5_fewestFrom_2 : decode cX5_fewestFrom 2 = .ok (.invokevirtual 27, 3) := by decide +kernel
theorem dX5_fewestFrom_5 : decode cX5_fewestFrom 5 = .ok (.istore 4, 2) := by decide +kernel
theorem dX5_fewestFrom_7 : decode cX5_fewestFrom 7 = .ok (.iload 4, 2) := by decide +kernel
theorem dX5_fewestFrom_9 : decode cX5_fewestFrom 9 = .ok (.ifCond .lt 8, 3) := by decide +kernel
theorem dX5_fewestFrom_12 : decode cX5_fewestFrom 12 = .ok (.iload_n 3, 1) := by decide +kernel
theorem dX5_fewestFrom_13 : decode cX5_fewestFrom 13 = .ok (.iload_n 1, 1) := by decide +kernel
theorem dX5_fewestFrom_14 : decode cX5_fewestFrom 14 = .ok (.if_icmp .lt 5, 3) := by decide +kernel
theorem dX5_fewestFrom_17 : decode cX5_fewestFrom 17 = .ok (.iload_n 3, 1) := by decide +kernel
theorem dX5_fewestFrom_18 : decode cX5_fewestFrom 18 = .ok (.ireturn, 1) := by decide +kernel
theorem dX5_fewestFrom_19 : decode cX5_fewestFrom 19 = .ok (.aload_n 0, 1) := by decide +kernel
theorem dX5_fewestFrom_20 : decode cX5_fewestFrom 20 = .ok (.getfield 9, 3) := by decide +kernel
theorem dX5_fewestFrom_23 : decode cX5_fewestFrom 23 = .ok (.iload 4, 2) := by decide +kernel
theorem dX5_fewestFrom_25 : decode cX5_fewestFrom 25 = .ok (.iaload, 1) := by decide +kernel
theorem dX5_fewestFrom_26 : decode cX5_fewestFrom 26 = .ok (.iload_n 2, 1) := by decide +kernel
theorem dX5_fewestFrom_27 : decode cX5_fewestFrom 27 = .ok (.iconst (-1), 1) := by decide +kernel
theorem dX5_fewestFrom_28 : decode cX5_fewestFrom 28 = .ok (.ixor, 1) := by decide +kernel
theorem dX5_fewestFrom_29 : decode cX5_fewestFrom 29 = .ok (.iand, 1) := by decide +kernel
theorem dX5_fewestFrom_30 : decode cX5_fewestFrom 30 = .ok (.istore 5, 2) := by decide +kernel
theorem dX5_fewestFrom_32 : decode cX5_fewestFrom 32 = .ok (.iload 5, 2) := by decide +kernel
theorem dX5_fewestFrom_34 : decode cX5_fewestFrom 34 = .ok (.iload 5, 2) := by decide +kernel
theorem dX5_fewestFrom_36 : decode cX5_fewestFrom 36 = .ok (.ineg, 1) := by decide +kernel
theorem dX5_fewestFrom_37 : decode cX5_fewestFrom 37 = .ok (.iand, 1) := by decide +kernel
theorem dX5_fewestFrom_38 : decode cX5_fewestFrom 38 = .ok (.istore 6, 2) := by decide +kernel
theorem dX5_fewestFrom_40 : decode cX5_fewestFrom 40 = .ok (.aload_n 0, 1) := by decide +kernel
theorem dX5_fewestFrom_41 : decode cX5_fewestFrom 41 = .ok (.iload_n 1, 1) := by decide +kernel
theorem dX5_fewestFrom_42 : decode cX5_fewestFrom 42 = .ok (.iload_n 2, 1) := by decide +kernel
theorem dX5_fewestFrom_43 : decode cX5_fewestFrom 43 = .ok (.iconst 1, 1) := by decide +kernel
theorem dX5_fewestFrom_44 : decode cX5_fewestFrom 44 = .ok (.iload 4, 2) := by decide +kernel
theorem dX5_fewestFrom_46 : decode cX5_fewestFrom 46 = .ok (.ishl, 1) := by decide +kernel
theorem dX5_fewestFrom_47 : decode cX5_fewestFrom 47 = .ok (.ior, 1) := by decide +kernel
theorem dX5_fewestFrom_48 : decode cX5_fewestFrom 48 = .ok (.iload_n 3, 1) := by decide +kernel
theorem dX5_fewestFrom_49 : decode cX5_fewestFrom 49 = .ok (.iconst 1, 1) := by decide +kernel
theorem dX5_fewestFrom_50 : decode cX5_fewestFrom 50 = .ok (.iadd, 1) := by decide +kernel
theorem dX5_fewestFrom_51 : decode cX5_fewestFrom 51 = .ok (.invokestatic 36, 3) := by decide +kernel
theorem dX5_fewestFrom_54 : decode cX5_fewestFrom 54 = .ok (.istore 7, 2) := by decide +kernel
theorem dX5_fewestFrom_56 : decode cX5_fewestFrom 56 = .ok (.aload_n 0, 1) := by decide +kernel
theorem dX5_fewestFrom_57 : decode cX5_fewestFrom 57 = .ok (.iload_n 1, 1) := by decide +kernel
theorem dX5_fewestFrom_58 : decode cX5_fewestFrom 58 = .ok (.iload_n 2, 1) := by decide +kernel
theorem dX5_fewestFrom_59 : decode cX5_fewestFrom 59 = .ok (.iload 6, 2) := by decide +kernel
theorem dX5_fewestFrom_61 : decode cX5_fewestFrom 61 = .ok (.ior, 1) := by decide +kernel
theorem dX5_fewestFrom_62 : decode cX5_fewestFrom 62 = .ok (.iload_n 3, 1) := by decide +kernel
theorem dX5_fewestFrom_63 : decode cX5_fewestFrom 63 = .ok (.iconst 1, 1) := by decide +kernel
theorem dX5_fewestFrom_64 : decode cX5_fewestFrom 64 = .ok (.iadd, 1) := by decide +kernel
theorem dX5_fewestFrom_65 : decode cX5_fewestFrom 65 = .ok (.invokestatic 36, 3) := by decide +kernel
theorem dX5_fewestFrom_68 : decode cX5_fewestFrom 68 = .ok (.istore 8, 2) := by decide +kernel
theorem dX5_fewestFrom_70 : decode cX5_fewestFrom 70 = .ok (.iload 7, 2) := by decide +kernel
theorem dX5_fewestFrom_72 : decode cX5_fewestFrom 72 = .ok (.iload 8, 2) := by decide +kernel
theorem dX5_fewestFrom_74 : decode cX5_fewestFrom 74 = .ok (.invokestatic 30, 3) := by decide +kernel
theorem dX5_fewestFrom_77 : decode cX5_fewestFrom 77 = .ok (.ireturn, 1) := by decide +kernel
theorem dX6_init_0 : decode cX6_init 0 = .ok (.aload_n 0, 1) := by decide +kernel
theorem dX6_init_1 : decode cX6_init 1 = .ok (.invokespecial 1, 3) := by decide +kernel
theorem dX6_init_4 : decode cX6_init 4 = .ok (.return_, 1) := by decide +kernel
theorem dX6_enter_0 : decode cX6_enter 0 = .ok (.aload_n 0, 1) := by decide +kernel
theorem dX6_enter_1 : decode cX6_enter 1 = .ok (.iload_n 1, 1) := by decide +kernel
theorem dX6_enter_2 : decode cX6_enter 2 = .ok (.putfield 7, 3) := by decide +kernel
theorem dX6_enter_5 : decode cX6_enter 5 = .ok (.aload_n 0, 1) := by decide +kernel
theorem dX6_enter_6 : decode cX6_enter 6 = .ok (.iload_n 2, 1) := by decide +kernel
theorem dX6_enter_7 : decode cX6_enter 7 = .ok (.putfield 13, 3) := by decide +kernel
theorem dX6_enter_10 : decode cX6_enter 10 = .ok (.aload_n 0, 1) := by decide +kernel
theorem dX6_enter_11 : decode cX6_enter 11 = .ok (.iconst 0, 1) := by decide +kernel
theorem dX6_enter_12 : decode cX6_enter 12 = .ok (.putfield 16, 3) := by decide +kernel
theorem dX6_enter_15 : decode cX6_enter 15 = .ok (.aload_n 0, 1) := by decide +kernel
theorem dX6_enter_16 : decode cX6_enter 16 = .ok (.iconst 0, 1) := by decide +kernel
theorem dX6_enter_17 : decode cX6_enter 17 = .ok (.putfield 19, 3) := by decide +kernel
theorem dX6_enter_20 : decode cX6_enter 20 = .ok (.aload_n 0, 1) := by decide +kernel
theorem dX6_enter_21 : decode cX6_enter 21 = .ok (.invokevirtual 22, 3) := by decide +kernel
theorem dX6_enter_24 : decode cX6_enter 24 = .ok (.return_, 1) := by decide +kernel
theorem dX6_isActive_0 : decode cX6_isActive 0 = .ok (.aload_n 0, 1) := by decide +kernel
theorem dX6_isActive_1 : decode cX6_isActive 1 = .ok (.getfield 25, 3) := by decide +kernel
theorem dX6_isActive_4 : decode cX6_isActive 4 = .ok (.ifCond .ne 7, 3) := by decide +kernel
theorem dX6_isActive_7 : decode cX6_isActive 7 = .ok (.iconst 1, 1) := by decide +kernel
theorem dX6_isActive_8 : decode cX6_isActive 8 = .ok (.goto 4, 3) := by decide +kernel
theorem dX6_isActive_11 : decode cX6_isActive 11 = .ok (.iconst 0, 1) := by decide +kernel
theorem dX6_isActive_12 : decode cX6_isActive 12 = .ok (.ireturn, 1) := by decide +kernel
theorem dX6_isLoyal_0 : decode cX6_isLoyal 0 = .ok (.aload_n 0, 1) := by decide +kernel
theorem dX6_isLoyal_1 : decode cX6_isLoyal 1 = .ok (.getfield 25, 3) := by decide +kernel
theorem dX6_isLoyal_4 : decode cX6_isLoyal 4 = .ok (.ifCond .ne 14, 3) := by decide +kernel
theorem dX6_isLoyal_7 : decode cX6_isLoyal 7 = .ok (.aload_n 0, 1) := by decide +kernel
theorem dX6_isLoyal_8 : decode cX6_isLoyal 8 = .ok (.getfield 28, 3) := by decide +kernel
theorem dX6_isLoyal_11 : decode cX6_isLoyal 11 = .ok (.ifCond .ne 7, 3) := by decide +kernel
theorem dX6_isLoyal_14 : decode cX6_isLoyal 14 = .ok (.iconst 1, 1) := by decide +kernel
theorem dX6_isLoyal_15 : decode cX6_isLoyal 15 = .ok (.goto 4, 3) := by decide +kernel
theorem dX6_isLoyal_18 : decode cX6_isLoyal 18 = .ok (.iconst 0, 1) := by decide +kernel
theorem dX6_isLoyal_19 : decode cX6_isLoyal 19 = .ok (.ireturn, 1) := by decide +kernel
theorem dX6_unitsAbove_0 : decode cX6_unitsAbove 0 = .ok (.iconst 0, 1) := by decide +kernel
theorem dX6_unitsAbove_1 : decode cX6_unitsAbove 1 = .ok (.aload_n 0, 1) := by decide +kernel
theorem dX6_unitsAbove_2 : decode cX6_unitsAbove 2 = .ok (.getfield 19, 3) := by decide +kernel
theorem dX6_unitsAbove_5 : decode cX6_unitsAbove 5 = .ok (.aload_n 0, 1) := by decide +kernel
theorem dX6_unitsAbove_6 : decode cX6_unitsAbove 6 = .ok (.getfield 16, 3) := by decide +kernel
theorem dX6_unitsAbove_9 : decode cX6_unitsAbove 9 = .ok (.isub, 1) := by decide +kernel
theorem dX6_unitsAbove_10 : decode cX6_unitsAbove 10 = .ok (.invokestatic 31, 3) := by decide +kernel
theorem dX6_unitsAbove_13 : decode cX6_unitsAbove 13 = .ok (.ireturn, 1) := by decide +kernel
theorem dX6_forgive_0 : decode cX6_forgive 0 = .ok (.aload_n 0, 1) := by decide +kernel
theorem dX6_forgive_1 : decode cX6_forgive 1 = .ok (.iconst 0, 1) := by decide +kernel
theorem dX6_forgive_2 : decode cX6_forgive 2 = .ok (.putfield 28, 3) := by decide +kernel
theorem dX6_forgive_5 : decode cX6_forgive 5 = .ok (.aload_n 0, 1) := by decide +kernel
theorem dX6_forgive_6 : decode cX6_forgive 6 = .ok (.iconst 0, 1) := by decide +kernel
theorem dX6_forgive_7 : decode cX6_forgive 7 = .ok (.putfield 25, 3) := by decide +kernel
theorem dX6_forgive_10 : decode cX6_forgive 10 = .ok (.return_, 1) := by decide +kernel
theorem dX6_warn_0 : decode cX6_warn 0 = .ok (.aload_n 0, 1) := by decide +kernel
theorem dX6_warn_1 : decode cX6_warn 1 = .ok (.getfield 28, 3) := by decide +kernel
theorem dX6_warn_4 : decode cX6_warn 4 = .ok (.iconst 2, 1) := by decide +kernel
theorem dX6_warn_5 : decode cX6_warn 5 = .ok (.if_icmp .ge 16, 3) := by decide +kernel
theorem dX6_warn_8 : decode cX6_warn 8 = .ok (.aload_n 0, 1) := by decide +kernel
theorem dX6_warn_9 : decode cX6_warn 9 = .ok (.dup, 1) := by decide +kernel
theorem dX6_warn_10 : decode cX6_warn 10 = .ok (.getfield 28, 3) := by decide +kernel
theorem dX6_warn_13 : decode cX6_warn 13 = .ok (.iconst 1, 1) := by decide +kernel
theorem dX6_warn_14 : decode cX6_warn 14 = .ok (.iadd, 1) := by decide +kernel
theorem dX6_warn_15 : decode cX6_warn 15 = .ok (.putfield 28, 3) := by decide +kernel
theorem dX6_warn_18 : decode cX6_warn 18 = .ok (.goto 13, 3) := by decide +kernel
theorem dX6_warn_21 : decode cX6_warn 21 = .ok (.aload_n 0, 1) := by decide +kernel
theorem dX6_warn_22 : decode cX6_warn 22 = .ok (.iconst 0, 1) := by decide +kernel
theorem dX6_warn_23 : decode cX6_warn 23 = .ok (.putfield 28, 3) := by decide +kernel
theorem dX6_warn_26 : decode cX6_warn 26 = .ok (.aload_n 0, 1) := by decide +kernel
theorem dX6_warn_27 : decode cX6_warn 27 = .ok (.iconst 2, 1) := by decide +kernel
theorem dX6_warn_28 : decode cX6_warn 28 = .ok (.putfield 25, 3) := by decide +kernel
theorem dX6_warn_31 : decode cX6_warn 31 = .ok (.return_, 1) := by decide +kernel
theorem dX6_improve_0 : decode cX6_improve 0 = .ok (.aload_n 0, 1) := by decide +kernel
theorem dX6_improve_1 : decode cX6_improve 1 = .ok (.getfield 28, 3) := by decide +kernel
theorem dX6_improve_4 : decode cX6_improve 4 = .ok (.ifCond .le 16, 3) := by decide +kernel
theorem dX6_improve_7 : decode cX6_improve 7 = .ok (.aload_n 0, 1) := by decide +kernel
theorem dX6_improve_8 : decode cX6_improve 8 = .ok (.dup, 1) := by decide +kernel
theorem dX6_improve_9 : decode cX6_improve 9 = .ok (.getfield 28, 3) := by decide +kernel
theorem dX6_improve_12 : decode cX6_improve 12 = .ok (.iconst 1, 1) := by decide +kernel
theorem dX6_improve_13 : decode cX6_improve 13 = .ok (.isub, 1) := by decide +kernel
theorem dX6_improve_14 : decode cX6_improve 14 = .ok (.putfield 28, 3) := by decide +kernel
theorem dX6_improve_17 : decode cX6_improve 17 = .ok (.goto 20, 3) := by decide +kernel
theorem dX6_improve_20 : decode cX6_improve 20 = .ok (.aload_n 0, 1) := by decide +kernel
theorem dX6_improve_21 : decode cX6_improve 21 = .ok (.getfield 25, 3) := by decide +kernel
theorem dX6_improve_24 : decode cX6_improve 24 = .ok (.ifCond .le 13, 3) := by decide +kernel
theorem dX6_improve_27 : decode cX6_improve 27 = .ok (.aload_n 0, 1) := by decide +kernel
theorem dX6_improve_28 : decode cX6_improve 28 = .ok (.dup, 1) := by decide +kernel
theorem dX6_improve_29 : decode cX6_improve 29 = .ok (.getfield 25, 3) := by decide +kernel
theorem dX6_improve_32 : decode cX6_improve 32 = .ok (.iconst 1, 1) := by decide +kernel
theorem dX6_improve_33 : decode cX6_improve 33 = .ok (.isub, 1) := by decide +kernel
theorem dX6_improve_34 : decode cX6_improve 34 = .ok (.putfield 25, 3) := by decide +kernel
theorem dX6_improve_37 : decode cX6_improve 37 = .ok (.return_, 1) := by decide +kernel
theorem dX6_copyFrom_0 : decode cX6_copyFrom 0 = .ok (.aload_n 0, 1) := by decide +kernel
theorem dX6_copyFrom_1 : decode cX6_copyFrom 1 = .ok (.aload_n 1, 1) := by decide +kernel
theorem dX6_copyFrom_2 : decode cX6_copyFrom 2 = .ok (.getfield 7, 3) := by decide +kernel
theorem dX6_copyFrom_5 : decode cX6_copyFrom 5 = .ok (.putfield 7, 3) := by decide +kernel
theorem dX6_copyFrom_8 : decode cX6_copyFrom 8 = .ok (.aload_n 0, 1) := by decide +kernel
theorem dX6_copyFrom_9 : decode cX6_copyFrom 9 = .ok (.aload_n 1, 1) := by decide +kernel
theorem dX6_copyFrom_10 : decode cX6_copyFrom 10 = .ok (.getfield 13, 3) := by decide +kernel
theorem dX6_copyFrom_13 : decode cX6_copyFrom 13 = .ok (.putfield 13, 3) := by decide +kernel
theorem dX6_copyFrom_16 : decode cX6_copyFrom 16 = .ok (.aload_n 0, 1) := by decide +kernel
theorem dX6_copyFrom_17 : decode cX6_copyFrom 17 = .ok (.aload_n 1, 1) := by decide +kernel
theorem dX6_copyFrom_18 : decode cX6_copyFrom 18 = .ok (.getfield 16, 3) := by decide +kernel
theorem dX6_copyFrom_21 : decode cX6_copyFrom 21 = .ok (.putfield 16, 3) := by decide +kernel
theorem dX6_copyFrom_24 : decode cX6_copyFrom 24 = .ok (.aload_n 0, 1) := by decide +kernel
theorem dX6_copyFrom_25 : decode cX6_copyFrom 25 = .ok (.aload_n 1, 1) := by decide +kernel
theorem dX6_copyFrom_26 : decode cX6_copyFrom 26 = .ok (.getfield 19, 3) := by decide +kernel
theorem dX6_copyFrom_29 : decode cX6_copyFrom 29 = .ok (.putfield 19, 3) := by decide +kernel
theorem dX6_copyFrom_32 : decode cX6_copyFrom 32 = .ok (.aload_n 0, 1) := by decide +kernel
theorem dX6_copyFrom_33 : decode cX6_copyFrom 33 = .ok (.aload_n 1, 1) := by decide +kernel
theorem dX6_copyFrom_34 : decode cX6_copyFrom 34 = .ok (.getfield 28, 3) := by decide +kernel
theorem dX6_copyFrom_37 : decode cX6_copyFrom 37 = .ok (.putfield 28, 3) := by decide +kernel
theorem dX6_copyFrom_40 : decode cX6_copyFrom 40 = .ok (.aload_n 0, 1) := by decide +kernel
theorem dX6_copyFrom_41 : decode cX6_copyFrom 41 = .ok (.aload_n 1, 1) := by decide +kernel
theorem dX6_copyFrom_42 : decode cX6_copyFrom 42 = .ok (.getfield 25, 3) := by decide +kernel
theorem dX6_copyFrom_45 : decode cX6_copyFrom 45 = .ok (.putfield 25, 3) := by decide +kernel
theorem dX6_copyFrom_48 : decode cX6_copyFrom 48 = .ok (.return_, 1) := by decide +kernel
theorem dX8_init_0 : decode cX8_init 0 = .ok (.aload_n 0, 1) := by decide +kernel
theorem dX8_init_1 : decode cX8_init 1 = .ok (.invokespecial 1, 3) := by decide +kernel
theorem dX8_init_4 : decode cX8_init 4 = .ok (.aload_n 0, 1) := by decide +kernel
theorem dX8_init_5 : decode cX8_init 5 = .ok (.iload_n 1, 1) := by decide +kernel
theorem dX8_init_6 : decode cX8_init 6 = .ok (.putfield 7, 3) := by decide +kernel
theorem dX8_init_9 : decode cX8_init 9 = .ok (.aload_n 0, 1) := by decide +kernel
theorem dX8_init_10 : decode cX8_init 10 = .ok (.iload_n 2, 1) := by decide +kernel
theorem dX8_init_11 : decode cX8_init 11 = .ok (.putfield 13, 3) := by decide +kernel
theorem dX8_init_14 : decode cX8_init 14 = .ok (.aload_n 0, 1) := by decide +kernel
theorem dX8_init_15 : decode cX8_init 15 = .ok (.aload_n 3, 1) := by decide +kernel
theorem dX8_init_16 : decode cX8_init 16 = .ok (.putfield 16, 3) := by decide +kernel
theorem dX8_init_19 : decode cX8_init 19 = .ok (.return_, 1) := by decide +kernel
theorem dX8_ofCommand_0 : decode cX8_ofCommand 0 = .ok (.aload_n 1, 1) := by decide +kernel
theorem dX8_ofCommand_1 : decode cX8_ofCommand 1 = .ok (.getfield 7, 3) := by decide +kernel
theorem dX8_ofCommand_4 : decode cX8_ofCommand 4 = .ok (.ifCond .le 7, 3) := by decide +kernel
theorem dX8_ofCommand_7 : decode cX8_ofCommand 7 = .ok (.aload_n 1, 1) := by decide +kernel
theorem dX8_ofCommand_8 : decode cX8_ofCommand 8 = .ok (.goto 14, 3) := by decide +kernel
theorem dX8_ofCommand_11 : decode cX8_ofCommand 11 = .ok (.new 8, 3) := by decide +kernel
theorem dX8_ofCommand_14 : decode cX8_ofCommand 14 = .ok (.dup, 1) := by decide +kernel
theorem dX8_ofCommand_15 : decode cX8_ofCommand 15 = .ok (.bipush 9, 2) := by decide +kernel
theorem dX8_ofCommand_17 : decode cX8_ofCommand 17 = .ok (.iconst 0, 1) := by decide +kernel
theorem dX8_ofCommand_18 : decode cX8_ofCommand 18 = .ok (.aconst_null, 1) := by decide +kernel
theorem dX8_ofCommand_19 : decode cX8_ofCommand 19 = .ok (.invokespecial 20, 3) := by decide +kernel
theorem dX8_ofCommand_22 : decode cX8_ofCommand 22 = .ok (.astore_n 2, 1) := by decide +kernel
theorem dX8_ofCommand_23 : decode cX8_ofCommand 23 = .ok (.new 8, 3) := by decide +kernel
theorem dX8_ofCommand_26 : decode cX8_ofCommand 26 = .ok (.dup, 1) := by decide +kernel
theorem dX8_ofCommand_27 : decode cX8_ofCommand 27 = .ok (.bipush 8, 2) := by decide +kernel
theorem dX8_ofCommand_29 : decode cX8_ofCommand 29 = .ok (.iload_n 0, 1) := by decide +kernel
theorem dX8_ofCommand_30 : decode cX8_ofCommand 30 = .ok (.aload_n 2, 1) := by decide +kernel
theorem dX8_ofCommand_31 : decode cX8_ofCommand 31 = .ok (.invokespecial 20, 3) := by decide +kernel
theorem dX8_ofCommand_34 : decode cX8_ofCommand 34 = .ok (.areturn, 1) := by decide +kernel
