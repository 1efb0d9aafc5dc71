theorem dX7_init_0 : decode cX7_init 0 = .ok (.aload_n 0, 1) := by decide +kernel
theorem dX7_init_1 : decode cX7_init 1 = .ok (.invokespecial 3, 3) := by decide +kernel
theorem dX7_init_4 : decode cX7_init 4 = .ok (.aload_n 0, 1) := by decide +kernel
theorem dX7_init_5 : decode cX7_init 5 = .ok (.new 9, 3) := by decide +kernel
theorem dX7_init_8 : decode cX7_init 8 = .ok (.dup, 1) := by decide +kernel
theorem dX7_init_9 : decode cX7_init 9 = .ok (.invokespecial 11, 3) := by decide +kernel
theorem dX7_init_12 : decode cX7_init 12 = .ok (.putfield 12, 3) := by decide +kernel
theorem dX7_init_15 : decode cX7_init 15 = .ok (.aload_n 0, 1) := by decide +kernel
theorem dX7_init_16 : decode cX7_init 16 = .ok (.new 18, 3) := by decide +kernel
theorem dX7_init_19 : decode cX7_init 19 = .ok (.dup, 1) := by decide +kernel
theorem dX7_init_20 : decode cX7_init 20 = .ok (.invokespecial 20, 3) := by decide +kernel
theorem dX7_init_23 : decode cX7_init 23 = .ok (.putfield 21, 3) := by decide +kernel
theorem dX7_init_26 : decode cX7_init 26 = .ok (.aload_n 0, 1) := by decide +kernel
theorem dX7_init_27 : decode cX7_init 27 = .ok (.bipush 7, 2) := by decide +kernel
theorem dX7_init_29 : decode cX7_init 29 = .ok (.newarray .int, 2) := by decide +kernel
theorem dX7_init_31 : decode cX7_init 31 = .ok (.putfield 25, 3) := by decide +kernel
theorem dX7_init_34 : decode cX7_init 34 = .ok (.return_, 1) := by decide +kernel
theorem dX7_refusal_0 : decode cX7_refusal 0 = .ok (.getstatic 29, 3) := by decide +kernel
theorem dX7_refusal_3 : decode cX7_refusal 3 = .ok (.aload_n 1, 1) := by decide +kernel
theorem dX7_refusal_4 : decode cX7_refusal 4 = .ok (.invokevirtual 34, 3) := by decide +kernel
theorem dX7_refusal_7 : decode cX7_refusal 7 = .ok (.iaload, 1) := by decide +kernel
theorem dX7_refusal_8 : decode cX7_refusal 8 = .ok (.tableswitch 143 1 10 #[56, 63, 72, 86, 93, 99, 106, 113, 119, 134], 56) := by decide +kernel
theorem dX7_refusal_64 : decode cX7_refusal 64 = .ok (.aload_n 0, 1) := by decide +kernel
theorem dX7_refusal_65 : decode cX7_refusal 65 = .ok (.iload_n 2, 1) := by decide +kernel
theorem dX7_refusal_66 : decode cX7_refusal 66 = .ok (.iload_n 3, 1) := by decide +kernel
theorem dX7_refusal_67 : decode cX7_refusal 67 = .ok (.invokevirtual 40, 3) := by decide +kernel
theorem dX7_refusal_70 : decode cX7_refusal 70 = .ok (.areturn, 1) := by decide +kernel
theorem dX7_refusal_71 : decode cX7_refusal 71 = .ok (.iload_n 2, 1) := by decide +kernel
theorem dX7_refusal_72 : decode cX7_refusal 72 = .ok (.iconst 0, 1) := by decide +kernel
theorem dX7_refusal_73 : decode cX7_refusal 73 = .ok (.sipush 300, 3) := by decide +kernel
theorem dX7_refusal_76 : decode cX7_refusal 76 = .ok (.invokestatic 44, 3) := by decide +kernel
theorem dX7_refusal_79 : decode cX7_refusal 79 = .ok (.areturn, 1) := by decide +kernel
theorem dX7_refusal_80 : decode cX7_refusal 80 = .ok (.iload_n 2, 1) := by decide +kernel
theorem dX7_refusal_81 : decode cX7_refusal 81 = .ok (.iconst 0, 1) := by decide +kernel
theorem dX7_refusal_82 : decode cX7_refusal 82 = .ok (.iconst 1, 1) := by decide +kernel
theorem dX7_refusal_83 : decode cX7_refusal 83 = .ok (.aload_n 0, 1) := by decide +kernel
theorem dX7_refusal_84 : decode cX7_refusal 84 = .ok (.getfield 12, 3) := by decide +kernel
theorem dX7_refusal_87 : decode cX7_refusal 87 = .ok (.getfield 48, 3) := by decide +kernel
theorem dX7_refusal_90 : decode cX7_refusal 90 = .ok (.invokestatic 52, 3) := by decide +kernel
theorem dX7_refusal_93 : decode cX7_refusal 93 = .ok (.areturn, 1) := by decide +kernel
theorem dX7_refusal_94 : decode cX7_refusal 94 = .ok (.aload_n 0, 1) := by decide +kernel
theorem dX7_refusal_95 : decode cX7_refusal 95 = .ok (.iload_n 2, 1) := by decide +kernel
theorem dX7_refusal_96 : decode cX7_refusal 96 = .ok (.iload_n 3, 1) := by decide +kernel
theorem dX7_refusal_97 : decode cX7_refusal 97 = .ok (.invokevirtual 56, 3) := by decide +kernel
theorem dX7_refusal_100 : decode cX7_refusal 100 = .ok (.areturn, 1) := by decide +kernel
theorem dX7_refusal_101 : decode cX7_refusal 101 = .ok (.aload_n 0, 1) := by decide +kernel
theorem dX7_refusal_102 : decode cX7_refusal 102 = .ok (.iload_n 2, 1) := by decide +kernel
theorem dX7_refusal_103 : decode cX7_refusal 103 = .ok (.invokevirtual 59, 3) := by decide +kernel
theorem dX7_refusal_106 : decode cX7_refusal 106 = .ok (.areturn, 1) := by decide +kernel
theorem dX7_refusal_107 : decode cX7_refusal 107 = .ok (.aload_n 0, 1) := by decide +kernel
theorem dX7_refusal_108 : decode cX7_refusal 108 = .ok (.iload_n 2, 1) := by decide +kernel
theorem dX7_refusal_109 : decode cX7_refusal 109 = .ok (.iload_n 3, 1) := by decide +kernel
theorem dX7_refusal_110 : decode cX7_refusal 110 = .ok (.invokevirtual 63, 3) := by decide +kernel
theorem dX7_refusal_113 : decode cX7_refusal 113 = .ok (.areturn, 1) := by decide +kernel
theorem dX7_refusal_114 : decode cX7_refusal 114 = .ok (.aload_n 0, 1) := by decide +kernel
theorem dX7_refusal_115 : decode cX7_refusal 115 = .ok (.iload_n 2, 1) := by decide +kernel
theorem dX7_refusal_116 : decode cX7_refusal 116 = .ok (.iload_n 3, 1) := by decide +kernel
theorem dX7_refusal_117 : decode cX7_refusal 117 = .ok (.invokevirtual 66, 3) := by decide +kernel
theorem dX7_refusal_120 : decode cX7_refusal 120 = .ok (.areturn, 1) := by decide +kernel
theorem dX7_refusal_121 : decode cX7_refusal 121 = .ok (.aload_n 0, 1) := by decide +kernel
theorem dX7_refusal_122 : decode cX7_refusal 122 = .ok (.iload_n 2, 1) := by decide +kernel
theorem dX7_refusal_123 : decode cX7_refusal 123 = .ok (.invokevirtual 69, 3) := by decide +kernel
theorem dX7_refusal_126 : decode cX7_refusal 126 = .ok (.areturn, 1) := by decide +kernel
theorem dX7_refusal_127 : decode cX7_refusal 127 = .ok (.iload_n 2, 1) := by decide +kernel
theorem dX7_refusal_128 : decode cX7_refusal 128 = .ok (.iconst 1, 1) := by decide +kernel
theorem dX7_refusal_129 : decode cX7_refusal 129 = .ok (.bipush 99, 2) := by decide +kernel
theorem dX7_refusal_131 : decode cX7_refusal 131 = .ok (.aload_n 0, 1) := by decide +kernel
theorem dX7_refusal_132 : decode cX7_refusal 132 = .ok (.getfield 12, 3) := by decide +kernel
theorem dX7_refusal_135 : decode cX7_refusal 135 = .ok (.getfield 72, 3) := by decide +kernel
theorem dX7_refusal_138 : decode cX7_refusal 138 = .ok (.invokestatic 52, 3) := by decide +kernel
theorem dX7_refusal_141 : decode cX7_refusal 141 = .ok (.areturn, 1) := by decide +kernel
theorem dX7_refusal_142 : decode cX7_refusal 142 = .ok (.iload_n 2, 1) := by decide +kernel
theorem dX7_refusal_143 : decode cX7_refusal 143 = .ok (.iconst 0, 1) := by decide +kernel
theorem dX7_refusal_144 : decode cX7_refusal 144 = .ok (.sipush 1023, 3) := by decide +kernel
theorem dX7_refusal_147 : decode cX7_refusal 147 = .ok (.invokestatic 44, 3) := by decide +kernel
theorem dX7_refusal_150 : decode cX7_refusal 150 = .ok (.areturn, 1) := by decide +kernel
theorem dX7_refusal_151 : decode cX7_refusal 151 = .ok (.aconst_null, 1) := by decide +kernel
theorem dX7_refusal_152 : decode cX7_refusal 152 = .ok (.areturn, 1) := by decide +kernel
theorem dX7_carryOut_0 : decode cX7_carryOut 0 = .ok (.getstatic 29, 3) := by decide +kernel
theorem dX7_carryOut_3 : decode cX7_carryOut 3 = .ok (.aload_n 1, 1) := by decide +kernel
theorem dX7_carryOut_4 : decode cX7_carryOut 4 = .ok (.invokevirtual 34, 3) := by decide +kernel
theorem dX7_carryOut_7 : decode cX7_carryOut 7 = .ok (.iaload, 1) := by decide +kernel
theorem dX7_carryOut_8 : decode cX7_carryOut 8 = .ok (.tableswitch 113 1 10 #[56, 63, 69, 75, 82, 88, 88, 95, 101, 107], 56) := by decide +kernel
theorem dX7_carryOut_64 : decode cX7_carryOut 64 = .ok (.aload_n 0, 1) := by decide +kernel
theorem dX7_carryOut_65 : decode cX7_carryOut 65 = .ok (.iload_n 2, 1) := by decide +kernel
theorem dX7_carryOut_66 : decode cX7_carryOut 66 = .ok (.iload_n 3, 1) := by decide +kernel
theorem dX7_carryOut_67 : decode cX7_carryOut 67 = .ok (.invokevirtual 75, 3) := by decide +kernel
theorem dX7_carryOut_70 : decode cX7_carryOut 70 = .ok (.ireturn, 1) := by decide +kernel
theorem dX7_carryOut_71 : decode cX7_carryOut 71 = .ok (.aload_n 0, 1) := by decide +kernel
theorem dX7_carryOut_72 : decode cX7_carryOut 72 = .ok (.iload_n 2, 1) := by decide +kernel
theorem dX7_carryOut_73 : decode cX7_carryOut 73 = .ok (.invokevirtual 79, 3) := by decide +kernel
theorem dX7_carryOut_76 : decode cX7_carryOut 76 = .ok (.ireturn, 1) := by decide +kernel
theorem dX7_carryOut_77 : decode cX7_carryOut 77 = .ok (.aload_n 0, 1) := by decide +kernel
theorem dX7_carryOut_78 : decode cX7_carryOut 78 = .ok (.iload_n 2, 1) := by decide +kernel
theorem dX7_carryOut_79 : decode cX7_carryOut 79 = .ok (.invokevirtual 83, 3) := by decide +kernel
theorem dX7_carryOut_82 : decode cX7_carryOut 82 = .ok (.ireturn, 1) := by decide +kernel
theorem dX7_carryOut_83 : decode cX7_carryOut 83 = .ok (.aload_n 0, 1) := by decide +kernel
theorem dX7_carryOut_84 : decode cX7_carryOut 84 = .ok (.iload_n 2, 1) := by decide +kernel
theorem dX7_carryOut_85 : decode cX7_carryOut 85 = .ok (.iload_n 3, 1) := by decide +kernel
theorem dX7_carryOut_86 : decode cX7_carryOut 86 = .ok (.invokevirtual 86, 3) := by decide +kernel
theorem dX7_carryOut_89 : decode cX7_carryOut 89 = .ok (.ireturn, 1) := by decide +kernel
theorem dX7_carryOut_90 : decode cX7_carryOut 90 = .ok (.aload_n 0, 1) := by decide +kernel
theorem dX7_carryOut_91 : decode cX7_carryOut 91 = .ok (.iload_n 2, 1) := by decide +kernel
theorem dX7_carryOut_92 : decode cX7_carryOut 92 = .ok (.invokevirtual 89, 3) := by decide +kernel
theorem dX7_carryOut_95 : decode cX7_carryOut 95 = .ok (.ireturn, 1) := by decide +kernel
theorem dX7_carryOut_96 : decode cX7_carryOut 96 = .ok (.aload_n 0, 1) := by decide +kernel
theorem dX7_carryOut_97 : decode cX7_carryOut 97 = .ok (.iload_n 2, 1) := by decide +kernel
theorem dX7_carryOut_98 : decode cX7_carryOut 98 = .ok (.iload_n 3, 1) := by decide +kernel
theorem dX7_carryOut_99 : decode cX7_carryOut 99 = .ok (.invokevirtual 92, 3) := by decide +kernel
theorem dX7_carryOut_102 : decode cX7_carryOut 102 = .ok (.ireturn, 1) := by decide +kernel
theorem dX7_carryOut_103 : decode cX7_carryOut 103 = .ok (.aload_n 0, 1) := by decide +kernel
theorem dX7_carryOut_104 : decode cX7_carryOut 104 = .ok (.iload_n 2, 1) := by decide +kernel
theorem dX7_carryOut_105 : decode cX7_carryOut 105 = .ok (.invokevirtual 95, 3) := by decide +kernel
theorem dX7_carryOut_108 : decode cX7_carryOut 108 = .ok (.ireturn, 1) := by decide +kernel
theorem dX7_carryOut_109 : decode cX7_carryOut 109 = .ok (.aload_n 0, 1) := by decide +kernel
theorem dX7_carryOut_110 : decode cX7_carryOut 110 = .ok (.iload_n 2, 1) := by decide +kernel
theorem dX7_carryOut_111 : decode cX7_carryOut 111 = .ok (.invokevirtual 98, 3) := by decide +kernel
theorem dX7_carryOut_114 : decode cX7_carryOut 114 = .ok (.ireturn, 1) := by decide +kernel
theorem dX7_carryOut_115 : decode cX7_carryOut 115 = .ok (.aload_n 0, 1) := by decide +kernel
theorem dX7_carryOut_116 : decode cX7_carryOut 116 = .ok (.iload_n 2, 1) := by decide +kernel
theorem dX7_carryOut_117 : decode cX7_carryOut 117 = .ok (.invokevirtual 101, 3) := by decide +kernel
theorem dX7_carryOut_120 : decode cX7_carryOut 120 = .ok (.ireturn, 1) := by decide +kernel
theorem dX7_carryOut_121 : decode cX7_carryOut 121 = .ok (.aload_n 0, 1) := by decide +kernel
theorem dX7_carryOut_122 : decode cX7_carryOut 122 = .ok (.invokevirtual 104, 3) := by decide +kernel
theorem dX7_carryOut_125 : decode cX7_carryOut 125 = .ok (.ireturn, 1) := by decide +kernel
theorem dX7_refusalOfRange_0 : decode cX7_refusalOfRange 0 = .ok (.iload_n 0, 1) := by decide +kernel
theorem dX7_refusalOfRange_1 : decode cX7_refusalOfRange 1 = .ok (.iload_n 1, 1) := by decide +kernel
theorem dX7_refusalOfRange_2 : decode cX7_refusalOfRange 2 = .ok (.iload_n 2, 1) := by decide +kernel
theorem dX7_refusalOfRange_3 : decode cX7_refusalOfRange 3 = .ok (.invokestatic 107, 3) := by decide +kernel
theorem dX7_refusalOfRange_6 : decode cX7_refusalOfRange 6 = .ok (.ifCond .eq 7, 3) := by decide +kernel
theorem dX7_refusalOfRange_9 : decode cX7_refusalOfRange 9 = .ok (.aconst_null, 1) := by decide +kernel
theorem dX7_refusalOfRange_10 : decode cX7_refusalOfRange 10 = .ok (.goto 14, 3) := by decide +kernel
theorem dX7_refusalOfRange_13 : decode cX7_refusalOfRange 13 = .ok (.new 111, 3) := by decide +kernel
theorem dX7_refusalOfRange_16 : decode cX7_refusalOfRange 16 = .ok (.dup, 1) := by decide +kernel
theorem dX7_refusalOfRange_17 : decode cX7_refusalOfRange 17 = .ok (.bipush (-2), 2) := by decide +kernel
theorem dX7_refusalOfRange_19 : decode cX7_refusalOfRange 19 = .ok (.iconst 0, 1) := by decide +kernel
theorem dX7_refusalOfRange_20 : decode cX7_refusalOfRange 20 = .ok (.aconst_null, 1) := by decide +kernel
theorem dX7_refusalOfRange_21 : decode cX7_refusalOfRange 21 = .ok (.invokespecial 113, 3) := by decide +kernel
theorem dX7_refusalOfRange_24 : decode cX7_refusalOfRange 24 = .ok (.areturn, 1) := by decide +kernel
theorem dX7_refusalOfValue_0 : decode cX7_refusalOfValue 0 = .ok (.iload_n 0, 1) := by decide +kernel
theorem dX7_refusalOfValue_1 : decode cX7_refusalOfValue 1 = .ok (.iload_n 1, 1) := by decide +kernel
theorem dX7_refusalOfValue_2 : decode cX7_refusalOfValue 2 = .ok (.iload_n 2, 1) := by decide +kernel
theorem dX7_refusalOfValue_3 : decode cX7_refusalOfValue 3 = .ok (.invokestatic 107, 3) := by decide +kernel
theorem dX7_refusalOfValue_6 : decode cX7_refusalOfValue 6 = .ok (.ifCond .ne 15, 3) := by decide +kernel
theorem dX7_refusalOfValue_9 : decode cX7_refusalOfValue 9 = .ok (.new 111, 3) := by decide +kernel
theorem dX7_refusalOfValue_12 : decode cX7_refusalOfValue 12 = .ok (.dup, 1) := by decide +kernel
theorem dX7_refusalOfValue_13 : decode cX7_refusalOfValue 13 = .ok (.bipush (-2), 2) := by decide +kernel
theorem dX7_refusalOfValue_15 : decode cX7_refusalOfValue 15 = .ok (.iconst 0, 1) := by decide +kernel
theorem dX7_refusalOfValue_16 : decode cX7_refusalOfValue 16 = .ok (.aconst_null, 1) := by decide +kernel
theorem dX7_refusalOfValue_17 : decode cX7_refusalOfValue 17 = .ok (.invokespecial 113, 3) := by decide +kernel
theorem dX7_refusalOfValue_20 : decode cX7_refusalOfValue 20 = .ok (.areturn, 1) := by decide +kernel
theorem dX7_refusalOfValue_21 : decode cX7_refusalOfValue 21 = .ok (.iload_n 0, 1) := by decide +kernel
theorem dX7_refusalOfValue_22 : decode cX7_refusalOfValue 22 = .ok (.iload_n 3, 1) := by decide +kernel
theorem dX7_refusalOfValue_23 : decode cX7_refusalOfValue 23 = .ok (.if_icmp .eq 7, 3) := by decide +kernel
theorem dX7_refusalOfValue_26 : decode cX7_refusalOfValue 26 = .ok (.aconst_null, 1) := by decide +kernel
theorem dX7_refusalOfValue_27 : decode cX7_refusalOfValue 27 = .ok (.goto 14, 3) := by decide +kernel
theorem dX7_refusalOfValue_30 : decode cX7_refusalOfValue 30 = .ok (.new 111, 3) := by decide +kernel
theorem dX7_refusalOfValue_33 : decode cX7_refusalOfValue 33 = .ok (.dup, 1) := by decide +kernel
theorem dX7_refusalOfValue_34 : decode cX7_refusalOfValue 34 = .ok (.bipush 7, 2) := by decide +kernel
theorem dX7_refusalOfValue_36 : decode cX7_refusalOfValue 36 = .ok (.iload_n 3, 1) := by decide +kernel
theorem dX7_refusalOfValue_37 : decode cX7_refusalOfValue 37 = .ok (.aconst_null, 1) := by decide +kernel
theorem dX7_refusalOfValue_38 : decode cX7_refusalOfValue 38 = .ok (.invokespecial 113, 3) := by decide +kernel
theorem dX7_refusalOfValue_41 : decode cX7_refusalOfValue 41 = .ok (.areturn, 1) := by decide +kernel
theorem dX7_refusalOfJoin_0 : decode cX7_refusalOfJoin 0 = .ok (.iload_n 1, 1) := by decide +kernel
theorem dX7_refusalOfJoin_1 : decode cX7_refusalOfJoin 1 = .ok (.iconst 1, 1) := by decide +kernel
theorem dX7_refusalOfJoin_2 : decode cX7_refusalOfJoin 2 = .ok (.bipush 99, 2) := by decide +kernel
theorem dX7_refusalOfJoin_4 : decode cX7_refusalOfJoin 4 = .ok (.invokestatic 107, 3) := by decide +kernel
theorem dX7_refusalOfJoin_7 : decode cX7_refusalOfJoin 7 = .ok (.ifCond .eq 13, 3) := by decide +kernel
theorem dX7_refusalOfJoin_10 : decode cX7_refusalOfJoin 10 = .ok (.iload_n 2, 1) := by decide +kernel
theorem dX7_refusalOfJoin_11 : decode cX7_refusalOfJoin 11 = .ok (.iconst 1, 1) := by decide +kernel
theorem dX7_refusalOfJoin_12 : decode cX7_refusalOfJoin 12 = .ok (.bipush 20, 2) := by decide +kernel
theorem dX7_refusalOfJoin_14 : decode cX7_refusalOfJoin 14 = .ok (.invokestatic 107, 3) := by decide +kernel
theorem dX7_refusalOfJoin_17 : decode cX7_refusalOfJoin 17 = .ok (.ifCond .ne 15, 3) := by decide +kernel
theorem dX7_refusalOfJoin_20 : decode cX7_refusalOfJoin 20 = .ok (.new 111, 3) := by decide +kernel
theorem dX7_refusalOfJoin_23 : decode cX7_refusalOfJoin 23 = .ok (.dup, 1) := by decide +kernel
theorem dX7_refusalOfJoin_24 : decode cX7_refusalOfJoin 24 = .ok (.bipush (-2), 2) := by decide +kernel
theorem dX7_refusalOfJoin_26 : decode cX7_refusalOfJoin 26 = .ok (.iconst 0, 1) := by decide +kernel
theorem dX7_refusalOfJoin_27 : decode cX7_refusalOfJoin 27 = .ok (.aconst_null, 1) := by decide +kernel
theorem dX7_refusalOfJoin_28 : decode cX7_refusalOfJoin 28 = .ok (.invokespecial 113, 3) := by decide +kernel
theorem dX7_refusalOfJoin_31 : decode cX7_refusalOfJoin 31 = .ok (.areturn, 1) := by decide +kernel
theorem dX7_refusalOfJoin_32 : decode cX7_refusalOfJoin 32 = .ok (.aload_n 0, 1) := by decide +kernel
theorem dX7_refusalOfJoin_33 : decode cX7_refusalOfJoin 33 = .ok (.getfield 12, 3) := by decide +kernel
theorem dX7_refusalOfJoin_36 : decode cX7_refusalOfJoin 36 = .ok (.getfield 116, 3) := by decide +kernel
theorem dX7_refusalOfJoin_39 : decode cX7_refusalOfJoin 39 = .ok (.bipush 7, 2) := by decide +kernel
theorem dX7_refusalOfJoin_41 : decode cX7_refusalOfJoin 41 = .ok (.if_icmp .ge 7, 3) := by decide +kernel
theorem dX7_refusalOfJoin_44 : decode cX7_refusalOfJoin 44 = .ok (.aconst_null, 1) := by decide +kernel
theorem dX7_refusalOfJoin_45 : decode cX7_refusalOfJoin 45 = .ok (.goto 14, 3) := by decide +kernel
theorem dX7_refusalOfJoin_48 : decode cX7_refusalOfJoin 48 = .ok (.new 111, 3) := by decide +kernel
theorem dX7_refusalOfJoin_51 : decode cX7_refusalOfJoin 51 = .ok (.dup, 1) := by decide +kernel
theorem dX7_refusalOfJoin_52 : decode cX7_refusalOfJoin 52 = .ok (.iconst 1, 1) := by decide +kernel
theorem dX7_refusalOfJoin_53 : decode cX7_refusalOfJoin 53 = .ok (.bipush 7, 2) := by decide +kernel
theorem dX7_refusalOfJoin_55 : decode cX7_refusalOfJoin 55 = .ok (.aconst_null, 1) := by decide +kernel
theorem dX7_refusalOfJoin_56 : decode cX7_refusalOfJoin 56 = .ok (.invokespecial 113, 3) := by decide +kernel
theorem dX7_refusalOfJoin_59 : decode cX7_refusalOfJoin 59 = .ok (.areturn, 1) := by decide +kernel
theorem dX7_refusalOfPardon_0 : decode cX7_refusalOfPardon 0 = .ok (.aload_n 0, 1) := by decide +kernel
theorem dX7_refusalOfPardon_1 : decode cX7_refusalOfPardon 1 = .ok (.getfield 12, 3) := by decide +kernel
theorem dX7_refusalOfPardon_4 : decode cX7_refusalOfPardon 4 = .ok (.iload_n 1, 1) := by decide +kernel
theorem dX7_refusalOfPardon_5 : decode cX7_refusalOfPardon 5 = .ok (.invokevirtual 119, 3) := by decide +kernel
theorem dX7_refusalOfPardon_8 : decode cX7_refusalOfPardon 8 = .ok (.ifCond .ne 14, 3) := by decide +kernel
theorem dX7_refusalOfPardon_11 : decode cX7_refusalOfPardon 11 = .ok (.new 111, 3) := by decide +kernel
theorem dX7_refusalOfPardon_14 : decode cX7_refusalOfPardon 14 = .ok (.dup, 1) := by decide +kernel
theorem dX7_refusalOfPardon_15 : decode cX7_refusalOfPardon 15 = .ok (.iconst (-1), 1) := by decide +kernel
theorem dX7_refusalOfPardon_16 : decode cX7_refusalOfPardon 16 = .ok (.iconst 0, 1) := by decide +kernel
theorem dX7_refusalOfPardon_17 : decode cX7_refusalOfPardon 17 = .ok (.aconst_null, 1) := by decide +kernel
theorem dX7_refusalOfPardon_18 : decode cX7_refusalOfPardon 18 = .ok (.invokespecial 113, 3) := by decide +kernel
theorem dX7_refusalOfPardon_21 : decode cX7_refusalOfPardon 21 = .ok (.areturn, 1) := by decide +kernel
theorem dX7_refusalOfPardon_22 : decode cX7_refusalOfPardon 22 = .ok (.aload_n 0, 1) := by decide +kernel
theorem dX7_refusalOfPardon_23 : decode cX7_refusalOfPardon 23 = .ok (.getfield 12, 3) := by decide +kernel
theorem dX7_refusalOfPardon_26 : decode cX7_refusalOfPardon 26 = .ok (.getfield 123, 3) := by decide +kernel
theorem dX7_refusalOfPardon_29 : decode cX7_refusalOfPardon 29 = .ok (.iload_n 1, 1) := by decide +kernel
theorem dX7_refusalOfPardon_30 : decode cX7_refusalOfPardon 30 = .ok (.aaload, 1) := by decide +kernel
theorem dX7_refusalOfPardon_31 : decode cX7_refusalOfPardon 31 = .ok (.invokevirtual 127, 3) := by decide +kernel
theorem dX7_refusalOfPardon_34 : decode cX7_refusalOfPardon 34 = .ok (.ifCond .eq 16, 3) := by decide +kernel
theorem dX7_refusalOfPardon_37 : decode cX7_refusalOfPardon 37 = .ok (.new 111, 3) := by decide +kernel
theorem dX7_refusalOfPardon_40 : decode cX7_refusalOfPardon 40 = .ok (.dup, 1) := by decide +kernel
theorem dX7_refusalOfPardon_41 : decode cX7_refusalOfPardon 41 = .ok (.iconst 5, 1) := by decide +kernel
theorem dX7_refusalOfPardon_42 : decode cX7_refusalOfPardon 42 = .ok (.iload_n 1, 1) := by decide +kernel
theorem dX7_refusalOfPardon_43 : decode cX7_refusalOfPardon 43 = .ok (.aconst_null, 1) := by decide +kernel
theorem dX7_refusalOfPardon_44 : decode cX7_refusalOfPardon 44 = .ok (.invokespecial 113, 3) := by decide +kernel
theorem dX7_refusalOfPardon_47 : decode cX7_refusalOfPardon 47 = .ok (.goto 4, 3) := by decide +kernel
theorem dX7_refusalOfPardon_50 : decode cX7_refusalOfPardon 50 = .ok (.aconst_null, 1) := by decide +kernel
theorem dX7_refusalOfPardon_51 : decode cX7_refusalOfPardon 51 = .ok (.areturn, 1) := by decide +kernel
theorem dX7_refusalOfSale_0 : decode cX7_refusalOfSale 0 = .ok (.aload_n 0, 1) := by decide +kernel
theorem dX7_refusalOfSale_1 : decode cX7_refusalOfSale 1 = .ok (.getfield 12, 3) := by decide +kernel
theorem dX7_refusalOfSale_4 : decode cX7_refusalOfSale 4 = .ok (.iload_n 1, 1) := by decide +kernel
theorem dX7_refusalOfSale_5 : decode cX7_refusalOfSale 5 = .ok (.invokevirtual 119, 3) := by decide +kernel
theorem dX7_refusalOfSale_8 : decode cX7_refusalOfSale 8 = .ok (.ifCond .ne 14, 3) := by decide +kernel
theorem dX7_refusalOfSale_11 : decode cX7_refusalOfSale 11 = .ok (.new 111, 3) := by decide +kernel
theorem dX7_refusalOfSale_14 : decode cX7_refusalOfSale 14 = .ok (.dup, 1) := by decide +kernel
theorem dX7_refusalOfSale_15 : decode cX7_refusalOfSale 15 = .ok (.iconst (-1), 1) := by decide +kernel
theorem dX7_refusalOfSale_16 : decode cX7_refusalOfSale 16 = .ok (.iconst 0, 1) := by decide +kernel
theorem dX7_refusalOfSale_17 : decode cX7_refusalOfSale 17 = .ok (.aconst_null, 1) := by decide +kernel
theorem dX7_refusalOfSale_18 : decode cX7_refusalOfSale 18 = .ok (.invokespecial 113, 3) := by decide +kernel
theorem dX7_refusalOfSale_21 : decode cX7_refusalOfSale 21 = .ok (.areturn, 1) := by decide +kernel
theorem dX7_refusalOfSale_22 : decode cX7_refusalOfSale 22 = .ok (.iload_n 2, 1) := by decide +kernel
theorem dX7_refusalOfSale_23 : decode cX7_refusalOfSale 23 = .ok (.iconst 1, 1) := by decide +kernel
theorem dX7_refusalOfSale_24 : decode cX7_refusalOfSale 24 = .ok (.bipush 99, 2) := by decide +kernel
theorem dX7_refusalOfSale_26 : decode cX7_refusalOfSale 26 = .ok (.invokestatic 107, 3) := by decide +kernel
theorem dX7_refusalOfSale_29 : decode cX7_refusalOfSale 29 = .ok (.ifCond .ne 15, 3) := by decide +kernel
theorem dX7_refusalOfSale_32 : decode cX7_refusalOfSale 32 = .ok (.new 111, 3) := by decide +kernel
theorem dX7_refusalOfSale_35 : decode cX7_refusalOfSale 35 = .ok (.dup, 1) := by decide +kernel
theorem dX7_refusalOfSale_36 : decode cX7_refusalOfSale 36 = .ok (.bipush (-2), 2) := by decide +kernel
theorem dX7_refusalOfSale_38 : decode cX7_refusalOfSale 38 = .ok (.iconst 0, 1) := by decide +kernel
theorem dX7_refusalOfSale_39 : decode cX7_refusalOfSale 39 = .ok (.aconst_null, 1) := by decide +kernel
theorem dX7_refusalOfSale_40 : decode cX7_refusalOfSale 40 = .ok (.invokespecial 113, 3) := by decide +kernel
theorem dX7_refusalOfSale_43 : decode cX7_refusalOfSale 43 = .ok (.areturn, 1) := by decide +kernel
theorem dX7_refusalOfSale_44 : decode cX7_refusalOfSale 44 = .ok (.aload_n 0, 1) := by decide +kernel
theorem dX7_refusalOfSale_45 : decode cX7_refusalOfSale 45 = .ok (.getfield 12, 3) := by decide +kernel
theorem dX7_refusalOfSale_48 : decode cX7_refusalOfSale 48 = .ok (.getfield 123, 3) := by decide +kernel
theorem dX7_refusalOfSale_51 : decode cX7_refusalOfSale 51 = .ok (.iload_n 1, 1) := by decide +kernel
theorem dX7_refusalOfSale_52 : decode cX7_refusalOfSale 52 = .ok (.aaload, 1) := by decide +kernel
theorem dX7_refusalOfSale_53 : decode cX7_refusalOfSale 53 = .ok (.astore_n 3, 1) := by decide +kernel
theorem dX7_refusalOfSale_54 : decode cX7_refusalOfSale 54 = .ok (.aload_n 3, 1) := by decide +kernel
theorem dX7_refusalOfSale_55 : decode cX7_refusalOfSale 55 = .ok (.invokevirtual 133, 3) := by decide +kernel
theorem dX7_refusalOfSale_58 : decode cX7_refusalOfSale 58 = .ok (.ifCond .ne 17, 3) := by decide +kernel
theorem dX7_refusalOfSale_61 : decode cX7_refusalOfSale 61 = .ok (.new 111, 3) := by decide +kernel
theorem dX7_refusalOfSale_64 : decode cX7_refusalOfSale 64 = .ok (.dup, 1) := by decide +kernel
theorem dX7_refusalOfSale_65 : decode cX7_refusalOfSale 65 = .ok (.iconst 2, 1) := by decide +kernel
theorem dX7_refusalOfSale_66 : decode cX7_refusalOfSale 66 = .ok (.aload_n 3, 1) := by decide +kernel
theorem dX7_refusalOfSale_67 : decode cX7_refusalOfSale 67 = .ok (.getfield 136, 3) := by decide +kernel
theorem dX7_refusalOfSale_70 : decode cX7_refusalOfSale 70 = .ok (.aconst_null, 1) := by decide +kernel
theorem dX7_refusalOfSale_71 : decode cX7_refusalOfSale 71 = .ok (.invokespecial 113, 3) := by decide +kernel
theorem dX7_refusalOfSale_74 : decode cX7_refusalOfSale 74 = .ok (.areturn, 1) := by decide +kernel
theorem dX7_refusalOfSale_75 : decode cX7_refusalOfSale 75 = .ok (.aload_n 3, 1) := by decide +kernel
theorem dX7_refusalOfSale_76 : decode cX7_refusalOfSale 76 = .ok (.getfield 139, 3) := by decide +kernel
theorem dX7_refusalOfSale_79 : decode cX7_refusalOfSale 79 = .ok (.aload_n 3, 1) := by decide +kernel
theorem dX7_refusalOfSale_80 : decode cX7_refusalOfSale 80 = .ok (.getfield 142, 3) := by decide +kernel
theorem dX7_refusalOfSale_83 : decode cX7_refusalOfSale 83 = .ok (.isub, 1) := by decide +kernel
theorem dX7_refusalOfSale_84 : decode cX7_refusalOfSale 84 = .ok (.istore 4, 2) := by decide +kernel
theorem dX7_refusalOfSale_86 : decode cX7_refusalOfSale 86 = .ok (.iload_n 2, 1) := by decide +kernel
theorem dX7_refusalOfSale_87 : decode cX7_refusalOfSale 87 = .ok (.iload 4, 2) := by decide +kernel
theorem dX7_refusalOfSale_89 : decode cX7_refusalOfSale 89 = .ok (.if_icmp .gt 7, 3) := by decide +kernel
theorem dX7_refusalOfSale_92 : decode cX7_refusalOfSale 92 = .ok (.aconst_null, 1) := by decide +kernel
theorem dX7_refusalOfSale_93 : decode cX7_refusalOfSale 93 = .ok (.goto 14, 3) := by decide +kernel
theorem dX7_refusalOfSale_96 : decode cX7_refusalOfSale 96 = .ok (.new 111, 3) := by decide +kernel
theorem dX7_refusalOfSale_99 : decode cX7_refusalOfSale 99 = .ok (.dup, 1) := by decide +kernel
theorem dX7_refusalOfSale_100 : decode cX7_refusalOfSale 100 = .ok (.iconst 3, 1) := by decide +kernel
theorem dX7_refusalOfSale_101 : decode cX7_refusalOfSale 101 = .ok (.iload 4, 2) := by decide +kernel
theorem dX7_refusalOfSale_103 : decode cX7_refusalOfSale 103 = .ok (.aconst_null, 1) := by decide +kernel
theorem dX7_refusalOfSale_104 : decode cX7_refusalOfSale 104 = .ok (.invokespecial 113, 3) := by decide +kernel
theorem dX7_refusalOfSale_107 : decode cX7_refusalOfSale 107 = .ok (.areturn, 1) := by decide +kernel
theorem dX7_refusalOfAudit_0 : decode cX7_refusalOfAudit 0 = .ok (.iload_n 1, 1) := by decide +kernel
theorem dX7_refusalOfAudit_1 : decode cX7_refusalOfAudit 1 = .ok (.iconst 1, 1) := by decide +kernel
theorem dX7_refusalOfAudit_2 : decode cX7_refusalOfAudit 2 = .ok (.bipush 7, 2) := by decide +kernel
theorem dX7_refusalOfAudit_4 : decode cX7_refusalOfAudit 4 = .ok (.invokestatic 107, 3) := by decide +kernel
theorem dX7_refusalOfAudit_7 : decode cX7_refusalOfAudit 7 = .ok (.ifCond .ne 15, 3) := by decide +kernel
theorem dX7_refusalOfAudit_10 : decode cX7_refusalOfAudit 10 = .ok (.new 111, 3) := by decide +kernel
theorem dX7_refusalOfAudit_13 : decode cX7_refusalOfAudit 13 = .ok (.dup, 1) := by decide +kernel
theorem dX7_refusalOfAudit_14 : decode cX7_refusalOfAudit 14 = .ok (.bipush (-2), 2) := by decide +kernel
theorem dX7_refusalOfAudit_16 : decode cX7_refusalOfAudit 16 = .ok (.iconst 0, 1) := by decide +kernel
theorem dX7_refusalOfAudit_17 : decode cX7_refusalOfAudit 17 = .ok (.aconst_null, 1) := by decide +kernel
theorem dX7_refusalOfAudit_18 : decode cX7_refusalOfAudit 18 = .ok (.invokespecial 113, 3) := by decide +kernel
theorem dX7_refusalOfAudit_21 : decode cX7_refusalOfAudit 21 = .ok (.areturn, 1) := by decide +kernel
theorem dX7_refusalOfAudit_22 : decode cX7_refusalOfAudit 22 = .ok (.iload_n 1, 1) := by decide +kernel
theorem dX7_refusalOfAudit_23 : decode cX7_refusalOfAudit 23 = .ok (.aload_n 0, 1) := by decide +kernel
theorem dX7_refusalOfAudit_24 : decode cX7_refusalOfAudit 24 = .ok (.getfield 12, 3) := by decide +kernel
theorem dX7_refusalOfAudit_27 : decode cX7_refusalOfAudit 27 = .ok (.getfield 116, 3) := by decide +kernel
theorem dX7_refusalOfAudit_30 : decode cX7_refusalOfAudit 30 = .ok (.if_icmp .gt 7, 3) := by decide +kernel
theorem dX7_refusalOfAudit_33 : decode cX7_refusalOfAudit 33 = .ok (.aconst_null, 1) := by decide +kernel
theorem dX7_refusalOfAudit_34 : decode cX7_refusalOfAudit 34 = .ok (.goto 20, 3) := by decide +kernel
theorem dX7_refusalOfAudit_37 : decode cX7_refusalOfAudit 37 = .ok (.new 111, 3) := by decide +kernel
theorem dX7_refusalOfAudit_40 : decode cX7_refusalOfAudit 40 = .ok (.dup, 1) := by decide +kernel
theorem dX7_refusalOfAudit_41 : decode cX7_refusalOfAudit 41 = .ok (.bipush 6, 2) := by decide +kernel
theorem dX7_refusalOfAudit_43 : decode cX7_refusalOfAudit 43 = .ok (.aload_n 0, 1) := by decide +kernel
theorem dX7_refusalOfAudit_44 : decode cX7_refusalOfAudit 44 = .ok (.getfield 12, 3) := by decide +kernel
theorem dX7_refusalOfAudit_47 : decode cX7_refusalOfAudit 47 = .ok (.getfield 116, 3) := by decide +kernel
theorem dX7_refusalOfAudit_50 : decode cX7_refusalOfAudit 50 = .ok (.aconst_null, 1) := by decide +kernel
theorem dX7_refusalOfAudit_51 : decode cX7_refusalOfAudit 51 = .ok (.invokespecial 113, 3) := by decide +kernel
theorem dX7_refusalOfAudit_54 : decode cX7_refusalOfAudit 54 = .ok (.areturn, 1) := by decide +kernel
theorem dX7_refusalOfPair_0 : decode cX7_refusalOfPair 0 = .ok (.aload_n 0, 1) := by decide +kernel
theorem dX7_refusalOfPair_1 : decode cX7_refusalOfPair 1 = .ok (.getfield 12, 3) := by decide +kernel
theorem dX7_refusalOfPair_4 : decode cX7_refusalOfPair 4 = .ok (.iload_n 1, 1) := by decide +kernel
theorem dX7_refusalOfPair_5 : decode cX7_refusalOfPair 5 = .ok (.invokevirtual 119, 3) := by decide +kernel
theorem dX7_refusalOfPair_8 : decode cX7_refusalOfPair 8 = .ok (.ifCond .eq 14, 3) := by decide +kernel
theorem dX7_refusalOfPair_11 : decode cX7_refusalOfPair 11 = .ok (.aload_n 0, 1) := by decide +kernel
theorem dX7_refusalOfPair_12 : decode cX7_refusalOfPair 12 = .ok (.getfield 12, 3) := by decide +kernel
theorem dX7_refusalOfPair_15 : decode cX7_refusalOfPair 15 = .ok (.iload_n 2, 1) := by decide +kernel
theorem dX7_refusalOfPair_16 : decode cX7_refusalOfPair 16 = .ok (.invokevirtual 119, 3) := by decide +kernel
theorem dX7_refusalOfPair_19 : decode cX7_refusalOfPair 19 = .ok (.ifCond .ne 14, 3) := by decide +kernel
theorem dX7_refusalOfPair_22 : decode cX7_refusalOfPair 22 = .ok (.new 111, 3) := by decide +kernel
theorem dX7_refusalOfPair_25 : decode cX7_refusalOfPair 25 = .ok (.dup, 1) := by decide +kernel
theorem dX7_refusalOfPair_26 : decode cX7_refusalOfPair 26 = .ok (.iconst (-1), 1) := by decide +kernel
theorem dX7_refusalOfPair_27 : decode cX7_refusalOfPair 27 = .ok (.iconst 0, 1) := by decide +kernel
theorem dX7_refusalOfPair_28 : decode cX7_refusalOfPair 28 = .ok (.aconst_null, 1) := by decide +kernel
theorem dX7_refusalOfPair_29 : decode cX7_refusalOfPair 29 = .ok (.invokespecial 113, 3) := by decide +kernel
theorem dX7_refusalOfPair_32 : decode cX7_refusalOfPair 32 = .ok (.areturn, 1) := by decide +kernel
theorem dX7_refusalOfPair_33 : decode cX7_refusalOfPair 33 = .ok (.iload_n 1, 1) := by decide +kernel
theorem dX7_refusalOfPair_34 : decode cX7_refusalOfPair 34 = .ok (.iload_n 2, 1) := by decide +kernel
theorem dX7_refusalOfPair_35 : decode cX7_refusalOfPair 35 = .ok (.if_icmp .eq 7, 3) := by decide +kernel
theorem dX7_refusalOfPair_38 : decode cX7_refusalOfPair 38 = .ok (.aconst_null, 1) := by decide +kernel
theorem dX7_refusalOfPair_39 : decode cX7_refusalOfPair 39 = .ok (.goto 14, 3) := by decide +kernel
theorem dX7_refusalOfPair_42 : decode cX7_refusalOfPair 42 = .ok (.new 111, 3) := by decide +kernel
theorem dX7_refusalOfPair_45 : decode cX7_refusalOfPair 45 = .ok (.dup, 1) := by decide +kernel
theorem dX7_refusalOfPair_46 : decode cX7_refusalOfPair 46 = .ok (.bipush (-2), 2) := by decide +kernel
theorem dX7_refusalOfPair_48 : decode cX7_refusalOfPair 48 = .ok (.iconst 0, 1) := by decide +kernel
theorem dX7_refusalOfPair_49 : decode cX7_refusalOfPair 49 = .ok (.aconst_null, 1) := by decide +kernel
theorem dX7_refusalOfPair_50 : decode cX7_refusalOfPair 50 = .ok (.invokespecial 113, 3) := by decide +kernel
theorem dX7_refusalOfPair_53 : decode cX7_refusalOfPair 53 = .ok (.areturn, 1) := by decide +kernel
theorem dX7_refusalOfLink_0 : decode cX7_refusalOfLink 0 = .ok (.aload_n 0, 1) := by decide +kernel
theorem dX7_refusalOfLink_1 : decode cX7_refusalOfLink 1 = .ok (.iload_n 1, 1) := by decide +kernel
theorem dX7_refusalOfLink_2 : decode cX7_refusalOfLink 2 = .ok (.iload_n 2, 1) := by decide +kernel
theorem dX7_refusalOfLink_3 : decode cX7_refusalOfLink 3 = .ok (.invokevirtual 145, 3) := by decide +kernel
theorem dX7_refusalOfLink_6 : decode cX7_refusalOfLink 6 = .ok (.astore_n 3, 1) := by decide +kernel
theorem dX7_refusalOfLink_7 : decode cX7_refusalOfLink 7 = .ok (.aload_n 3, 1) := by decide +kernel
theorem dX7_refusalOfLink_8 : decode cX7_refusalOfLink 8 = .ok (.ifnull 5, 3) := by decide +kernel
theorem dX7_refusalOfLink_11 : decode cX7_refusalOfLink 11 = .ok (.aload_n 3, 1) := by decide +kernel
theorem dX7_refusalOfLink_12 : decode cX7_refusalOfLink 12 = .ok (.areturn, 1) := by decide +kernel
theorem dX7_refusalOfLink_13 : decode cX7_refusalOfLink 13 = .ok (.aload_n 0, 1) := by decide +kernel
theorem dX7_refusalOfLink_14 : decode cX7_refusalOfLink 14 = .ok (.getfield 12, 3) := by decide +kernel
theorem dX7_refusalOfLink_17 : decode cX7_refusalOfLink 17 = .ok (.getfield 148, 3) := by decide +kernel
theorem dX7_refusalOfLink_20 : decode cX7_refusalOfLink 20 = .ok (.invokevirtual 152, 3) := by decide +kernel
theorem dX7_refusalOfLink_23 : decode cX7_refusalOfLink 23 = .ok (.istore 4, 2) := by decide +kernel
theorem dX7_refusalOfLink_25 : decode cX7_refusalOfLink 25 = .ok (.aload_n 0, 1) := by decide +kernel
theorem dX7_refusalOfLink_26 : decode cX7_refusalOfLink 26 = .ok (.getfield 12, 3) := by decide +kernel
theorem dX7_refusalOfLink_29 : decode cX7_refusalOfLink 29 = .ok (.getfield 148, 3) := by decide +kernel
theorem dX7_refusalOfLink_32 : decode cX7_refusalOfLink 32 = .ok (.iload_n 1, 1) := by decide +kernel
theorem dX7_refusalOfLink_33 : decode cX7_refusalOfLink 33 = .ok (.iload_n 2, 1) := by decide +kernel
theorem dX7_refusalOfLink_34 : decode cX7_refusalOfLink 34 = .ok (.invokevirtual 157, 3) := by decide +kernel
theorem dX7_refusalOfLink_37 : decode cX7_refusalOfLink 37 = .ok (.ifCond .eq 15, 3) := by decide +kernel
theorem dX7_refusalOfLink_40 : decode cX7_refusalOfLink 40 = .ok (.new 111, 3) := by decide +kernel
theorem dX7_refusalOfLink_43 : decode cX7_refusalOfLink 43 = .ok (.dup, 1) := by decide +kernel
theorem dX7_refusalOfLink_44 : decode cX7_refusalOfLink 44 = .ok (.iconst 4, 1) := by decide +kernel
theorem dX7_refusalOfLink_45 : decode cX7_refusalOfLink 45 = .ok (.iload 4, 2) := by decide +kernel
theorem dX7_refusalOfLink_47 : decode cX7_refusalOfLink 47 = .ok (.aconst_null, 1) := by decide +kernel
theorem dX7_refusalOfLink_48 : decode cX7_refusalOfLink 48 = .ok (.invokespecial 113, 3) := by decide +kernel
theorem dX7_refusalOfLink_51 : decode cX7_refusalOfLink 51 = .ok (.areturn, 1) := by decide +kernel
theorem dX7_refusalOfLink_52 : decode cX7_refusalOfLink 52 = .ok (.iload 4, 2) := by decide +kernel
theorem dX7_refusalOfLink_54 : decode cX7_refusalOfLink 54 = .ok (.bipush 12, 2) := by decide +kernel
theorem dX7_refusalOfLink_56 : decode cX7_refusalOfLink 56 = .ok (.if_icmp .ge 7, 3) := by decide +kernel
theorem dX7_refusalOfLink_59 : decode cX7_refusalOfLink 59 = .ok (.aconst_null, 1) := by decide +kernel
theorem dX7_refusalOfLink_60 : decode cX7_refusalOfLink 60 = .ok (.goto 14, 3) := by decide +kernel
theorem dX7_refusalOfLink_63 : decode cX7_refusalOfLink 63 = .ok (.new 111, 3) := by decide +kernel
theorem dX7_refusalOfLink_66 : decode cX7_refusalOfLink 66 = .ok (.dup, 1) := by decide +kernel
theorem dX7_refusalOfLink_67 : decode cX7_refusalOfLink 67 = .ok (.iconst 1, 1) := by decide +kernel
theorem dX7_refusalOfLink_68 : decode cX7_refusalOfLink 68 = .ok (.bipush 12, 2) := by decide +kernel
theorem dX7_refusalOfLink_70 : decode cX7_refusalOfLink 70 = .ok (.aconst_null, 1) := by decide +kernel
theorem dX7_refusalOfLink_71 : decode cX7_refusalOfLink 71 = .ok (.invokespecial 113, 3) := by decide +kernel
theorem dX7_refusalOfLink_74 : decode cX7_refusalOfLink 74 = .ok (.areturn, 1) := by decide +kernel
theorem dX7_refusalOfCut_0 : decode cX7_refusalOfCut 0 = .ok (.aload_n 0, 1) := by decide +kernel
theorem dX7_refusalOfCut_1 : decode cX7_refusalOfCut 1 = .ok (.iload_n 1, 1) := by decide +kernel
theorem dX7_refusalOfCut_2 : decode cX7_refusalOfCut 2 = .ok (.iload_n 2, 1) := by decide +kernel
theorem dX7_refusalOfCut_3 : decode cX7_refusalOfCut 3 = .ok (.invokevirtual 145, 3) := by decide +kernel
theorem dX7_refusalOfCut_6 : decode cX7_refusalOfCut 6 = .ok (.astore_n 3, 1) := by decide +kernel
theorem dX7_refusalOfCut_7 : decode cX7_refusalOfCut 7 = .ok (.aload_n 3, 1) := by decide +kernel
theorem dX7_refusalOfCut_8 : decode cX7_refusalOfCut 8 = .ok (.ifnull 5, 3) := by decide +kernel
theorem dX7_refusalOfCut_11 : decode cX7_refusalOfCut 11 = .ok (.aload_n 3, 1) := by decide +kernel
theorem dX7_refusalOfCut_12 : decode cX7_refusalOfCut 12 = .ok (.areturn, 1) := by decide +kernel
theorem dX7_refusalOfCut_13 : decode cX7_refusalOfCut 13 = .ok (.aload_n 0, 1) := by decide +kernel
theorem dX7_refusalOfCut_14 : decode cX7_refusalOfCut 14 = .ok (.getfield 12, 3) := by decide +kernel
theorem dX7_refusalOfCut_17 : decode cX7_refusalOfCut 17 = .ok (.getfield 148, 3) := by decide +kernel
theorem dX7_refusalOfCut_20 : decode cX7_refusalOfCut 20 = .ok (.iload_n 1, 1) := by decide +kernel
theorem dX7_refusalOfCut_21 : decode cX7_refusalOfCut 21 = .ok (.iload_n 2, 1) := by decide +kernel
theorem dX7_refusalOfCut_22 : decode cX7_refusalOfCut 22 = .ok (.invokevirtual 157, 3) := by decide +kernel
theorem dX7_refusalOfCut_25 : decode cX7_refusalOfCut 25 = .ok (.istore 4, 2) := by decide +kernel
theorem dX7_refusalOfCut_27 : decode cX7_refusalOfCut 27 = .ok (.iload 4, 2) := by decide +kernel
theorem dX7_refusalOfCut_29 : decode cX7_refusalOfCut 29 = .ok (.ifCond .eq 7, 3) := by decide +kernel
theorem dX7_refusalOfCut_32 : decode cX7_refusalOfCut 32 = .ok (.aconst_null, 1) := by decide +kernel
theorem dX7_refusalOfCut_33 : decode cX7_refusalOfCut 33 = .ok (.goto 22, 3) := by decide +kernel
theorem dX7_refusalOfCut_36 : decode cX7_refusalOfCut 36 = .ok (.new 111, 3) := by decide +kernel
theorem dX7_refusalOfCut_39 : decode cX7_refusalOfCut 39 = .ok (.dup, 1) := by decide +kernel
theorem dX7_refusalOfCut_40 : decode cX7_refusalOfCut 40 = .ok (.iconst 4, 1) := by decide +kernel
theorem dX7_refusalOfCut_41 : decode cX7_refusalOfCut 41 = .ok (.aload_n 0, 1) := by decide +kernel
theorem dX7_refusalOfCut_42 : decode cX7_refusalOfCut 42 = .ok (.getfield 12, 3) := by decide +kernel
theorem dX7_refusalOfCut_45 : decode cX7_refusalOfCut 45 = .ok (.getfield 148, 3) := by decide +kernel
theorem dX7_refusalOfCut_48 : decode cX7_refusalOfCut 48 = .ok (.invokevirtual 152, 3) := by decide +kernel
theorem dX7_refusalOfCut_51 : decode cX7_refusalOfCut 51 = .ok (.aconst_null, 1) := by decide +kernel
theorem dX7_refusalOfCut_52 : decode cX7_refusalOfCut 52 = .ok (.invokespecial 113, 3) := by decide +kernel
theorem dX7_refusalOfCut_55 : decode cX7_refusalOfCut 55 = .ok (.areturn, 1) := by decide +kernel
theorem dX7_enter_0 : decode cX7_enter 0 = .ok (.aload_n 0, 1) := by decide +kernel
theorem dX7_enter_1 : decode cX7_enter 1 = .ok (.getfield 12, 3) := by decide +kernel
theorem dX7_enter_4 : decode cX7_enter 4 = .ok (.getfield 116, 3) := by decide +kernel
theorem dX7_enter_7 : decode cX7_enter 7 = .ok (.istore_n 3, 1) := by decide +kernel
theorem dX7_enter_8 : decode cX7_enter 8 = .ok (.aload_n 0, 1) := by decide +kernel
theorem dX7_enter_9 : decode cX7_enter 9 = .ok (.getfield 12, 3) := by decide +kernel
theorem dX7_enter_12 : decode cX7_enter 12 = .ok (.getfield 123, 3) := by decide +kernel
theorem dX7_enter_15 : decode cX7_enter 15 = .ok (.iload_n 3, 1) := by decide +kernel
theorem dX7_enter_16 : decode cX7_enter 16 = .ok (.aaload, 1) := by decide +kernel
theorem dX7_enter_17 : decode cX7_enter 17 = .ok (.iload_n 1, 1) := by decide +kernel
theorem dX7_enter_18 : decode cX7_enter 18 = .ok (.iload_n 2, 1) := by decide +kernel
theorem dX7_enter_19 : decode cX7_enter 19 = .ok (.invokevirtual 161, 3) := by decide +kernel
theorem dX7_enter_22 : decode cX7_enter 22 = .ok (.aload_n 0, 1) := by decide +kernel
theorem dX7_enter_23 : decode cX7_enter 23 = .ok (.getfield 12, 3) := by decide +kernel
theorem dX7_enter_26 : decode cX7_enter 26 = .ok (.dup, 1) := by decide +kernel
theorem dX7_enter_27 : decode cX7_enter 27 = .ok (.getfield 116, 3) := by decide +kernel
theorem dX7_enter_30 : decode cX7_enter 30 = .ok (.iconst 1, 1) := by decide +kernel
theorem dX7_enter_31 : decode cX7_enter 31 = .ok (.iadd, 1) := by decide +kernel
theorem dX7_enter_32 : decode cX7_enter 32 = .ok (.putfield 116, 3) := by decide +kernel
theorem dX7_enter_35 : decode cX7_enter 35 = .ok (.iload_n 3, 1) := by decide +kernel
theorem dX7_enter_36 : decode cX7_enter 36 = .ok (.ireturn, 1) := by decide +kernel
theorem dX7_forgive_0 : decode cX7_forgive 0 = .ok (.aload_n 0, 1) := by decide +kernel
theorem dX7_forgive_1 : decode cX7_forgive 1 = .ok (.getfield 12, 3) := by decide +kernel
theorem dX7_forgive_4 : decode cX7_forgive 4 = .ok (.getfield 123, 3) := by decide +kernel
theorem dX7_forgive_7 : decode cX7_forgive 7 = .ok (.iload_n 1, 1) := by decide +kernel
theorem dX7_forgive_8 : decode cX7_forgive 8 = .ok (.aaload, 1) := by decide +kernel
theorem dX7_forgive_9 : decode cX7_forgive 9 = .ok (.invokevirtual 164, 3) := by decide +kernel
theorem dX7_forgive_12 : decode cX7_forgive 12 = .ok (.aload_n 0, 1) := by decide +kernel
theorem dX7_forgive_13 : decode cX7_forgive 13 = .ok (.getfield 12, 3) := by decide +kernel
theorem dX7_forgive_16 : decode cX7_forgive 16 = .ok (.invokevirtual 166, 3) := by decide +kernel
theorem dX7_forgive_19 : decode cX7_forgive 19 = .ok (.ireturn, 1) := by decide +kernel
theorem dX7_changeRule_0 : decode cX7_changeRule 0 = .ok (.aload_n 0, 1) := by decide +kernel
theorem dX7_changeRule_1 : decode cX7_changeRule 1 = .ok (.getfield 12, 3) := by decide +kernel
theorem dX7_changeRule_4 : decode cX7_changeRule 4 = .ok (.getfield 48, 3) := by decide +kernel
theorem dX7_changeRule_7 : decode cX7_changeRule 7 = .ok (.istore_n 2, 1) := by decide +kernel
theorem dX7_changeRule_8 : decode cX7_changeRule 8 = .ok (.aload_n 0, 1) := by decide +kernel
theorem dX7_changeRule_9 : decode cX7_changeRule 9 = .ok (.getfield 12, 3) := by decide +kernel
theorem dX7_changeRule_12 : decode cX7_changeRule 12 = .ok (.iload_n 1, 1) := by decide +kernel
theorem dX7_changeRule_13 : decode cX7_changeRule 13 = .ok (.putfield 48, 3) := by decide +kernel
theorem dX7_changeRule_16 : decode cX7_changeRule 16 = .ok (.iload_n 2, 1) := by decide +kernel
theorem dX7_changeRule_17 : decode cX7_changeRule 17 = .ok (.ireturn, 1) := by decide +kernel
theorem dX7_changeThreshold_0 : decode cX7_changeThreshold 0 = .ok (.aload_n 0, 1) := by decide +kernel
theorem dX7_changeThreshold_1 : decode cX7_changeThreshold 1 = .ok (.getfield 12, 3) := by decide +kernel
theorem dX7_changeThreshold_4 : decode cX7_changeThreshold 4 = .ok (.getfield 72, 3) := by decide +kernel
theorem dX7_changeThreshold_7 : decode cX7_changeThreshold 7 = .ok (.istore_n 2, 1) := by decide +kernel
theorem dX7_changeThreshold_8 : decode cX7_changeThreshold 8 = .ok (.aload_n 0, 1) := by decide +kernel
theorem dX7_changeThreshold_9 : decode cX7_changeThreshold 9 = .ok (.getfield 12, 3) := by decide +kernel
theorem dX7_changeThreshold_12 : decode cX7_changeThreshold 12 = .ok (.iload_n 1, 1) := by decide +kernel
theorem dX7_changeThreshold_13 : decode cX7_changeThreshold 13 = .ok (.putfield 72, 3) := by decide +kernel
theorem dX7_changeThreshold_16 : decode cX7_changeThreshold 16 = .ok (.iload_n 2, 1) := by decide +kernel
theorem dX7_changeThreshold_17 : decode cX7_changeThreshold 17 = .ok (.ireturn, 1) := by decide +kernel
theorem dX7_changeSeed_0 : decode cX7_changeSeed 0 = .ok (.aload_n 0, 1) := by decide +kernel
theorem dX7_changeSeed_1 : decode cX7_changeSeed 1 = .ok (.getfield 12, 3) := by decide +kernel
theorem dX7_changeSeed_4 : decode cX7_changeSeed 4 = .ok (.getfield 169, 3) := by decide +kernel
theorem dX7_changeSeed_7 : decode cX7_changeSeed 7 = .ok (.istore_n 2, 1) := by decide +kernel
theorem dX7_changeSeed_8 : decode cX7_changeSeed 8 = .ok (.aload_n 0, 1) := by decide +kernel
theorem dX7_changeSeed_9 : decode cX7_changeSeed 9 = .ok (.getfield 12, 3) := by decide +kernel
theorem dX7_changeSeed_12 : decode cX7_changeSeed 12 = .ok (.iload_n 1, 1) := by decide +kernel
theorem dX7_changeSeed_13 : decode cX7_changeSeed 13 = .ok (.putfield 169, 3) := by decide +kernel
theorem dX7_changeSeed_16 : decode cX7_changeSeed 16 = .ok (.iload_n 2, 1) := by decide +kernel
theorem dX7_changeSeed_17 : decode cX7_changeSeed 17 = .ok (.ireturn, 1) := by decide +kernel
theorem dX7_assignTotal_0 : decode cX7_assignTotal 0 = .ok (.aload_n 0, 1) := by decide +kernel
theorem dX7_assignTotal_1 : decode cX7_assignTotal 1 = .ok (.getfield 21, 3) := by decide +kernel
theorem dX7_assignTotal_4 : decode cX7_assignTotal 4 = .ok (.aload_n 0, 1) := by decide +kernel
theorem dX7_assignTotal_5 : decode cX7_assignTotal 5 = .ok (.getfield 12, 3) := by decide +kernel
theorem dX7_assignTotal_8 : decode cX7_assignTotal 8 = .ok (.iload_n 1, 1) := by decide +kernel
theorem dX7_assignTotal_9 : decode cX7_assignTotal 9 = .ok (.aload_n 0, 1) := by decide +kernel
theorem dX7_assignTotal_10 : decode cX7_assignTotal 10 = .ok (.getfield 12, 3) := by decide +kernel
theorem dX7_assignTotal_13 : decode cX7_assignTotal 13 = .ok (.getfield 48, 3) := by decide +kernel
theorem dX7_assignTotal_16 : decode cX7_assignTotal 16 = .ok (.invokevirtual 172, 3) := by decide +kernel
theorem dX7_assignTotal_19 : decode cX7_assignTotal 19 = .ok (.iconst 0, 1) := by decide +kernel
theorem dX7_assignTotal_20 : decode cX7_assignTotal 20 = .ok (.istore_n 2, 1) := by decide +kernel
theorem dX7_assignTotal_21 : decode cX7_assignTotal 21 = .ok (.iconst 0, 1) := by decide +kernel
theorem dX7_assignTotal_22 : decode cX7_assignTotal 22 = .ok (.istore_n 3, 1) := by decide +kernel
theorem dX7_assignTotal_23 : decode cX7_assignTotal 23 = .ok (.iload_n 3, 1) := by decide +kernel
theorem dX7_assignTotal_24 : decode cX7_assignTotal 24 = .ok (.aload_n 0, 1) := by decide +kernel
theorem dX7_assignTotal_25 : decode cX7_assignTotal 25 = .ok (.getfield 12, 3) := by decide +kernel
theorem dX7_assignTotal_28 : decode cX7_assignTotal 28 = .ok (.getfield 116, 3) := by decide +kernel
theorem dX7_assignTotal_31 : decode cX7_assignTotal 31 = .ok (.if_icmp .ge 62, 3) := by decide +kernel
theorem dX7_assignTotal_34 : decode cX7_assignTotal 34 = .ok (.iload_n 2, 1) := by decide +kernel
theorem dX7_assignTotal_35 : decode cX7_assignTotal 35 = .ok (.aload_n 0, 1) := by decide +kernel
theorem dX7_assignTotal_36 : decode cX7_assignTotal 36 = .ok (.getfield 12, 3) := by decide +kernel
theorem dX7_assignTotal_39 : decode cX7_assignTotal 39 = .ok (.getfield 123, 3) := by decide +kernel
theorem dX7_assignTotal_42 : decode cX7_assignTotal 42 = .ok (.iload_n 3, 1) := by decide +kernel
theorem dX7_assignTotal_43 : decode cX7_assignTotal 43 = .ok (.aaload, 1) := by decide +kernel
theorem dX7_assignTotal_44 : decode cX7_assignTotal 44 = .ok (.getfield 176, 3) := by decide +kernel
theorem dX7_assignTotal_47 : decode cX7_assignTotal 47 = .ok (.aload_n 0, 1) := by decide +kernel
theorem dX7_assignTotal_48 : decode cX7_assignTotal 48 = .ok (.getfield 21, 3) := by decide +kernel
theorem dX7_assignTotal_51 : decode cX7_assignTotal 51 = .ok (.getfield 179, 3) := by decide +kernel
theorem dX7_assignTotal_54 : decode cX7_assignTotal 54 = .ok (.iload_n 3, 1) := by decide +kernel
theorem dX7_assignTotal_55 : decode cX7_assignTotal 55 = .ok (.iaload, 1) := by decide +kernel
theorem dX7_assignTotal_56 : decode cX7_assignTotal 56 = .ok (.if_icmp .eq 7, 3) := by decide +kernel
theorem dX7_assignTotal_59 : decode cX7_assignTotal 59 = .ok (.iconst 1, 1) := by decide +kernel
theorem dX7_assignTotal_60 : decode cX7_assignTotal 60 = .ok (.goto 4, 3) := by decide +kernel
theorem dX7_assignTotal_63 : decode cX7_assignTotal 63 = .ok (.iconst 0, 1) := by decide +kernel
theorem dX7_assignTotal_64 : decode cX7_assignTotal 64 = .ok (.iadd, 1) := by decide +kernel
theorem dX7_assignTotal_65 : decode cX7_assignTotal 65 = .ok (.istore_n 2, 1) := by decide +kernel
theorem dX7_assignTotal_66 : decode cX7_assignTotal 66 = .ok (.aload_n 0, 1) := by decide +kernel
theorem dX7_assignTotal_67 : decode cX7_assignTotal 67 = .ok (.getfield 12, 3) := by decide +kernel
theorem dX7_assignTotal_70 : decode cX7_assignTotal 70 = .ok (.getfield 123, 3) := by decide +kernel
theorem dX7_assignTotal_73 : decode cX7_assignTotal 73 = .ok (.iload_n 3, 1) := by decide +kernel
theorem dX7_assignTotal_74 : decode cX7_assignTotal 74 = .ok (.aaload, 1) := by decide +kernel
theorem dX7_assignTotal_75 : decode cX7_assignTotal 75 = .ok (.aload_n 0, 1) := by decide +kernel
theorem dX7_assignTotal_76 : decode cX7_assignTotal 76 = .ok (.getfield 21, 3) := by decide +kernel
theorem dX7_assignTotal_79 : decode cX7_assignTotal 79 = .ok (.getfield 179, 3) := by decide +kernel
theorem dX7_assignTotal_82 : decode cX7_assignTotal 82 = .ok (.iload_n 3, 1) := by decide +kernel
theorem dX7_assignTotal_83 : decode cX7_assignTotal 83 = .ok (.iaload, 1) := by decide +kernel
theorem dX7_assignTotal_84 : decode cX7_assignTotal 84 = .ok (.putfield 176, 3) := by decide +kernel
theorem dX7_assignTotal_87 : decode cX7_assignTotal 87 = .ok (.iinc 3 1, 3) := by decide +kernel
theorem dX7_assignTotal_90 : decode cX7_assignTotal 90 = .ok (.goto (-67), 3) := by decide +kernel
theorem dX7_assignTotal_93 : decode cX7_assignTotal 93 = .ok (.iload_n 2, 1) := by decide +kernel
theorem dX7_assignTotal_94 : decode cX7_assignTotal 94 = .ok (.ireturn, 1) := by decide +kernel
theorem dX7_sellUnits_0 : decode cX7_sellUnits 0 = .ok (.aload_n 0, 1) := by decide +kernel
theorem dX7_sellUnits_1 : decode cX7_sellUnits 1 = .ok (.getfield 12, 3) := by decide +kernel
theorem dX7_sellUnits_4 : decode cX7_sellUnits 4 = .ok (.getfield 123, 3) := by decide +kernel
theorem dX7_sellUnits_7 : decode cX7_sellUnits 7 = .ok (.iload_n 1, 1) := by decide +kernel
theorem dX7_sellUnits_8 : decode cX7_sellUnits 8 = .ok (.aaload, 1) := by decide +kernel
theorem dX7_sellUnits_9 : decode cX7_sellUnits 9 = .ok (.dup, 1) := by decide +kernel
theorem dX7_sellUnits_10 : decode cX7_sellUnits 10 = .ok (.getfield 142, 3) := by decide +kernel
theorem dX7_sellUnits_13 : decode cX7_sellUnits 13 = .ok (.iload_n 2, 1) := by decide +kernel
theorem dX7_sellUnits_14 : decode cX7_sellUnits 14 = .ok (.iadd, 1) := by decide +kernel
theorem dX7_sellUnits_15 : decode cX7_sellUnits 15 = .ok (.putfield 142, 3) := by decide +kernel
theorem dX7_sellUnits_18 : decode cX7_sellUnits 18 = .ok (.aload_n 0, 1) := by decide +kernel
theorem dX7_sellUnits_19 : decode cX7_sellUnits 19 = .ok (.getfield 12, 3) := by decide +kernel
theorem dX7_sellUnits_22 : decode cX7_sellUnits 22 = .ok (.getfield 123, 3) := by decide +kernel
theorem dX7_sellUnits_25 : decode cX7_sellUnits 25 = .ok (.iload_n 1, 1) := by decide +kernel
theorem dX7_sellUnits_26 : decode cX7_sellUnits 26 = .ok (.aaload, 1) := by decide +kernel
theorem dX7_sellUnits_27 : decode cX7_sellUnits 27 = .ok (.getfield 142, 3) := by decide +kernel
theorem dX7_sellUnits_30 : decode cX7_sellUnits 30 = .ok (.ireturn, 1) := by decide +kernel
theorem dX7_closeMonth_0 : decode cX7_closeMonth 0 = .ok (.iconst 0, 1) := by decide +kernel
theorem dX7_closeMonth_1 : decode cX7_closeMonth 1 = .ok (.istore_n 1, 1) := by decide +kernel
theorem dX7_closeMonth_2 : decode cX7_closeMonth 2 = .ok (.iconst 0, 1) := by decide +kernel
theorem dX7_closeMonth_3 : decode cX7_closeMonth 3 = .ok (.istore_n 2, 1) := by decide +kernel
theorem dX7_closeMonth_4 : decode cX7_closeMonth 4 = .ok (.iload_n 2, 1) := by decide +kernel
theorem dX7_closeMonth_5 : decode cX7_closeMonth 5 = .ok (.aload_n 0, 1) := by decide +kernel
theorem dX7_closeMonth_6 : decode cX7_closeMonth 6 = .ok (.getfield 12, 3) := by decide +kernel
theorem dX7_closeMonth_9 : decode cX7_closeMonth 9 = .ok (.getfield 116, 3) := by decide +kernel
theorem dX7_closeMonth_12 : decode cX7_closeMonth 12 = .ok (.if_icmp .ge 63, 3) := by decide +kernel
theorem dX7_closeMonth_15 : decode cX7_closeMonth 15 = .ok (.aload_n 0, 1) := by decide +kernel
theorem dX7_closeMonth_16 : decode cX7_closeMonth 16 = .ok (.getfield 12, 3) := by decide +kernel
theorem dX7_closeMonth_19 : decode cX7_closeMonth 19 = .ok (.getfield 123, 3) := by decide +kernel
theorem dX7_closeMonth_22 : decode cX7_closeMonth 22 = .ok (.iload_n 2, 1) := by decide +kernel
theorem dX7_closeMonth_23 : decode cX7_closeMonth 23 = .ok (.aaload, 1) := by decide +kernel
theorem dX7_closeMonth_24 : decode cX7_closeMonth 24 = .ok (.astore_n 3, 1) := by decide +kernel
theorem dX7_closeMonth_25 : decode cX7_closeMonth 25 = .ok (.aload_n 3, 1) := by decide +kernel
theorem dX7_closeMonth_26 : decode cX7_closeMonth 26 = .ok (.invokevirtual 182, 3) := by decide +kernel
theorem dX7_closeMonth_29 : decode cX7_closeMonth 29 = .ok (.istore 4, 2) := by decide +kernel
theorem dX7_closeMonth_31 : decode cX7_closeMonth 31 = .ok (.iload_n 1, 1) := by decide +kernel
theorem dX7_closeMonth_32 : decode cX7_closeMonth 32 = .ok (.iload 4, 2) := by decide +kernel
theorem dX7_closeMonth_34 : decode cX7_closeMonth 34 = .ok (.iadd, 1) := by decide +kernel
theorem dX7_closeMonth_35 : decode cX7_closeMonth 35 = .ok (.istore_n 1, 1) := by decide +kernel
theorem dX7_closeMonth_36 : decode cX7_closeMonth 36 = .ok (.aload_n 0, 1) := by decide +kernel
theorem dX7_closeMonth_37 : decode cX7_closeMonth 37 = .ok (.getfield 12, 3) := by decide +kernel
theorem dX7_closeMonth_40 : decode cX7_closeMonth 40 = .ok (.dup, 1) := by decide +kernel
theorem dX7_closeMonth_41 : decode cX7_closeMonth 41 = .ok (.getfield 185, 3) := by decide +kernel
theorem dX7_closeMonth_44 : decode cX7_closeMonth 44 = .ok (.aload_n 3, 1) := by decide +kernel
theorem dX7_closeMonth_45 : decode cX7_closeMonth 45 = .ok (.getfield 142, 3) := by decide +kernel
theorem dX7_closeMonth_48 : decode cX7_closeMonth 48 = .ok (.iload 4, 2) := by decide +kernel
theorem dX7_closeMonth_50 : decode cX7_closeMonth 50 = .ok (.isub, 1) := by decide +kernel
theorem dX7_closeMonth_51 : decode cX7_closeMonth 51 = .ok (.iadd, 1) := by decide +kernel
theorem dX7_closeMonth_52 : decode cX7_closeMonth 52 = .ok (.putfield 185, 3) := by decide +kernel
theorem dX7_closeMonth_55 : decode cX7_closeMonth 55 = .ok (.iload 4, 2) := by decide +kernel
theorem dX7_closeMonth_57 : decode cX7_closeMonth 57 = .ok (.ifCond .ne 7, 3) := by decide +kernel
theorem dX7_closeMonth_60 : decode cX7_closeMonth 60 = .ok (.aload_n 3, 1) := by decide +kernel
theorem dX7_closeMonth_61 : decode cX7_closeMonth 61 = .ok (.invokevirtual 188, 3) := by decide +kernel
theorem dX7_closeMonth_64 : decode cX7_closeMonth 64 = .ok (.aload_n 3, 1) := by decide +kernel
theorem dX7_closeMonth_65 : decode cX7_closeMonth 65 = .ok (.iconst 0, 1) := by decide +kernel
theorem dX7_closeMonth_66 : decode cX7_closeMonth 66 = .ok (.putfield 142, 3) := by decide +kernel
theorem dX7_closeMonth_69 : decode cX7_closeMonth 69 = .ok (.iinc 2 1, 3) := by decide +kernel
theorem dX7_closeMonth_72 : decode cX7_closeMonth 72 = .ok (.goto (-68), 3) := by decide +kernel
theorem dX7_closeMonth_75 : decode cX7_closeMonth 75 = .ok (.aload_n 0, 1) := by decide +kernel
theorem dX7_closeMonth_76 : decode cX7_closeMonth 76 = .ok (.getfield 12, 3) := by decide +kernel
theorem dX7_closeMonth_79 : decode cX7_closeMonth 79 = .ok (.dup, 1) := by decide +kernel
theorem dX7_closeMonth_80 : decode cX7_closeMonth 80 = .ok (.getfield 191, 3) := by decide +kernel
theorem dX7_closeMonth_83 : decode cX7_closeMonth 83 = .ok (.iload_n 1, 1) := by decide +kernel
theorem dX7_closeMonth_84 : decode cX7_closeMonth 84 = .ok (.iadd, 1) := by decide +kernel
theorem dX7_closeMonth_85 : decode cX7_closeMonth 85 = .ok (.putfield 191, 3) := by decide +kernel
theorem dX7_closeMonth_88 : decode cX7_closeMonth 88 = .ok (.aload_n 0, 1) := by decide +kernel
theorem dX7_closeMonth_89 : decode cX7_closeMonth 89 = .ok (.getfield 12, 3) := by decide +kernel
theorem dX7_closeMonth_92 : decode cX7_closeMonth 92 = .ok (.dup, 1) := by decide +kernel
theorem dX7_closeMonth_93 : decode cX7_closeMonth 93 = .ok (.getfield 194, 3) := by decide +kernel
theorem dX7_closeMonth_96 : decode cX7_closeMonth 96 = .ok (.iconst 1, 1) := by decide +kernel
theorem dX7_closeMonth_97 : decode cX7_closeMonth 97 = .ok (.iadd, 1) := by decide +kernel
theorem dX7_closeMonth_98 : decode cX7_closeMonth 98 = .ok (.putfield 194, 3) := by decide +kernel
theorem dX7_closeMonth_101 : decode cX7_closeMonth 101 = .ok (.iload_n 1, 1) := by decide +kernel
theorem dX7_closeMonth_102 : decode cX7_closeMonth 102 = .ok (.iconst 3, 1) := by decide +kernel
theorem dX7_closeMonth_103 : decode cX7_closeMonth 103 = .ok (.imul, 1) := by decide +kernel
theorem dX7_closeMonth_104 : decode cX7_closeMonth 104 = .ok (.ireturn, 1) := by decide +kernel
theorem dX7_auditMembers_0 : decode cX7_auditMembers 0 = .ok (.aload_n 0, 1) := by decide +kernel
theorem dX7_auditMembers_1 : decode cX7_auditMembers 1 = .ok (.getfield 12, 3) := by decide +kernel
theorem dX7_auditMembers_4 : decode cX7_auditMembers 4 = .ok (.aload_n 0, 1) := by decide +kernel
theorem dX7_auditMembers_5 : decode cX7_auditMembers 5 = .ok (.iload_n 1, 1) := by decide +kernel
theorem dX7_auditMembers_6 : decode cX7_auditMembers 6 = .ok (.invokevirtual 197, 3) := by decide +kernel
theorem dX7_auditMembers_9 : decode cX7_auditMembers 9 = .ok (.putfield 169, 3) := by decide +kernel
theorem dX7_auditMembers_12 : decode cX7_auditMembers 12 = .ok (.iconst 0, 1) := by decide +kernel
theorem dX7_auditMembers_13 : decode cX7_auditMembers 13 = .ok (.istore_n 2, 1) := by decide +kernel
theorem dX7_auditMembers_14 : decode cX7_auditMembers 14 = .ok (.iconst 0, 1) := by decide +kernel
theorem dX7_auditMembers_15 : decode cX7_auditMembers 15 = .ok (.istore_n 3, 1) := by decide +kernel
theorem dX7_auditMembers_16 : decode cX7_auditMembers 16 = .ok (.iload_n 3, 1) := by decide +kernel
theorem dX7_auditMembers_17 : decode cX7_auditMembers 17 = .ok (.iload_n 1, 1) := by decide +kernel
theorem dX7_auditMembers_18 : decode cX7_auditMembers 18 = .ok (.if_icmp .ge 49, 3) := by decide +kernel
theorem dX7_auditMembers_21 : decode cX7_auditMembers 21 = .ok (.aload_n 0, 1) := by decide +kernel
theorem dX7_auditMembers_22 : decode cX7_auditMembers 22 = .ok (.getfield 12, 3) := by decide +kernel
theorem dX7_auditMembers_25 : decode cX7_auditMembers 25 = .ok (.getfield 123, 3) := by decide +kernel
theorem dX7_auditMembers_28 : decode cX7_auditMembers 28 = .ok (.aload_n 0, 1) := by decide +kernel
theorem dX7_auditMembers_29 : decode cX7_auditMembers 29 = .ok (.getfield 25, 3) := by decide +kernel
theorem dX7_auditMembers_32 : decode cX7_auditMembers 32 = .ok (.iload_n 3, 1) := by decide +kernel
theorem dX7_auditMembers_33 : decode cX7_auditMembers 33 = .ok (.iaload, 1) := by decide +kernel
theorem dX7_auditMembers_34 : decode cX7_auditMembers 34 = .ok (.aaload, 1) := by decide +kernel
theorem dX7_auditMembers_35 : decode cX7_auditMembers 35 = .ok (.astore 4, 2) := by decide +kernel
theorem dX7_auditMembers_37 : decode cX7_auditMembers 37 = .ok (.aload 4, 2) := by decide +kernel
theorem dX7_auditMembers_39 : decode cX7_auditMembers 39 = .ok (.invokevirtual 133, 3) := by decide +kernel
theorem dX7_auditMembers_42 : decode cX7_auditMembers 42 = .ok (.ifCond .eq 19, 3) := by decide +kernel
theorem dX7_auditMembers_45 : decode cX7_auditMembers 45 = .ok (.aload 4, 2) := by decide +kernel
theorem dX7_auditMembers_47 : decode cX7_auditMembers 47 = .ok (.invokevirtual 182, 3) := by decide +kernel
theorem dX7_auditMembers_50 : decode cX7_auditMembers 50 = .ok (.ifCond .le 11, 3) := by decide +kernel
theorem dX7_auditMembers_53 : decode cX7_auditMembers 53 = .ok (.aload 4, 2) := by decide +kernel
theorem dX7_auditMembers_55 : decode cX7_auditMembers 55 = .ok (.invokevirtual 200, 3) := by decide +kernel
theorem dX7_auditMembers_58 : decode cX7_auditMembers 58 = .ok (.iinc 2 1, 3) := by decide +kernel
theorem dX7_auditMembers_61 : decode cX7_auditMembers 61 = .ok (.iinc 3 1, 3) := by decide +kernel
theorem dX7_auditMembers_64 : decode cX7_auditMembers 64 = .ok (.goto (-48), 3) := by decide +kernel
theorem dX7_auditMembers_67 : decode cX7_auditMembers 67 = .ok (.iload_n 2, 1) := by decide +kernel
theorem dX7_auditMembers_68 : decode cX7_auditMembers 68 = .ok (.ireturn, 1) := by decide +kernel
theorem dX7_flipLink_0 : decode cX7_flipLink 0 = .ok (.aload_n 0, 1) := by decide +kernel
theorem dX7_flipLink_1 : decode cX7_flipLink 1 = .ok (.getfield 12, 3) := by decide +kernel
theorem dX7_flipLink_4 : decode cX7_flipLink 4 = .ok (.getfield 148, 3) := by decide +kernel
theorem dX7_flipLink_7 : decode cX7_flipLink 7 = .ok (.iload_n 1, 1) := by decide +kernel
theorem dX7_flipLink_8 : decode cX7_flipLink 8 = .ok (.iload_n 2, 1) := by decide +kernel
theorem dX7_flipLink_9 : decode cX7_flipLink 9 = .ok (.invokevirtual 203, 3) := by decide +kernel
theorem dX7_flipLink_12 : decode cX7_flipLink 12 = .ok (.aload_n 0, 1) := by decide +kernel
theorem dX7_flipLink_13 : decode cX7_flipLink 13 = .ok (.getfield 12, 3) := by decide +kernel
theorem dX7_flipLink_16 : decode cX7_flipLink 16 = .ok (.getfield 148, 3) := by decide +kernel
theorem dX7_flipLink_19 : decode cX7_flipLink 19 = .ok (.invokevirtual 152, 3) := by decide +kernel
theorem dX7_flipLink_22 : decode cX7_flipLink 22 = .ok (.ireturn, 1) := by decide +kernel
theorem dX7_drawMembers_0 : decode cX7_drawMembers 0 = .ok (.aload_n 0, 1) := by decide +kernel
theorem dX7_drawMembers_1 : decode cX7_drawMembers 1 = .ok (.getfield 12, 3) := by decide +kernel
theorem dX7_drawMembers_4 : decode cX7_drawMembers 4 = .ok (.getfield 169, 3) := by decide +kernel
theorem dX7_drawMembers_7 : decode cX7_drawMembers 7 = .ok (.istore_n 2, 1) := by decide +kernel
theorem dX7_drawMembers_8 : decode cX7_drawMembers 8 = .ok (.aload_n 0, 1) := by decide +kernel
theorem dX7_drawMembers_9 : decode cX7_drawMembers 9 = .ok (.getfield 12, 3) := by decide +kernel
theorem dX7_drawMembers_12 : decode cX7_drawMembers 12 = .ok (.getfield 116, 3) := by decide +kernel
theorem dX7_drawMembers_15 : decode cX7_drawMembers 15 = .ok (.istore_n 3, 1) := by decide +kernel
theorem dX7_drawMembers_16 : decode cX7_drawMembers 16 = .ok (.iload_n 3, 1) := by decide +kernel
theorem dX7_drawMembers_17 : decode cX7_drawMembers 17 = .ok (.ifCond .ne 5, 3) := by decide +kernel
theorem dX7_drawMembers_20 : decode cX7_drawMembers 20 = .ok (.iload_n 2, 1) := by decide +kernel
theorem dX7_drawMembers_21 : decode cX7_drawMembers 21 = .ok (.ireturn, 1) := by decide +kernel
theorem dX7_drawMembers_22 : decode cX7_drawMembers 22 = .ok (.iconst 0, 1) := by decide +kernel
theorem dX7_drawMembers_23 : decode cX7_drawMembers 23 = .ok (.istore 4, 2) := by decide +kernel
theorem dX7_drawMembers_25 : decode cX7_drawMembers 25 = .ok (.iconst 0, 1) := by decide +kernel
theorem dX7_drawMembers_26 : decode cX7_drawMembers 26 = .ok (.istore 5, 2) := by decide +kernel
theorem dX7_drawMembers_28 : decode cX7_drawMembers 28 = .ok (.iload 5, 2) := by decide +kernel
theorem dX7_drawMembers_30 : decode cX7_drawMembers 30 = .ok (.iload_n 1, 1) := by decide +kernel
theorem dX7_drawMembers_31 : decode cX7_drawMembers 31 = .ok (.if_icmp .ge 84, 3) := by decide +kernel
theorem dX7_drawMembers_34 : decode cX7_drawMembers 34 = .ok (.iload 5, 2) := by decide +kernel
theorem dX7_drawMembers_36 : decode cX7_drawMembers 36 = .ok (.iload_n 3, 1) := by decide +kernel
theorem dX7_drawMembers_37 : decode cX7_drawMembers 37 = .ok (.if_icmp .ge 78, 3) := by decide +kernel
theorem dX7_drawMembers_40 : decode cX7_drawMembers 40 = .ok (.iload_n 2, 1) := by decide +kernel
theorem dX7_drawMembers_41 : decode cX7_drawMembers 41 = .ok (.bipush 109, 2) := by decide +kernel
theorem dX7_drawMembers_43 : decode cX7_drawMembers 43 = .ok (.imul, 1) := by decide +kernel
theorem dX7_drawMembers_44 : decode cX7_drawMembers 44 = .ok (.bipush 89, 2) := by decide +kernel
theorem dX7_drawMembers_46 : decode cX7_drawMembers 46 = .ok (.iadd, 1) := by decide +kernel
theorem dX7_drawMembers_47 : decode cX7_drawMembers 47 = .ok (.sipush 1024, 3) := by decide +kernel
theorem dX7_drawMembers_50 : decode cX7_drawMembers 50 = .ok (.irem, 1) := by decide +kernel
theorem dX7_drawMembers_51 : decode cX7_drawMembers 51 = .ok (.istore_n 2, 1) := by decide +kernel
theorem dX7_drawMembers_52 : decode cX7_drawMembers 52 = .ok (.iload_n 2, 1) := by decide +kernel
theorem dX7_drawMembers_53 : decode cX7_drawMembers 53 = .ok (.iload_n 3, 1) := by decide +kernel
theorem dX7_drawMembers_54 : decode cX7_drawMembers 54 = .ok (.irem, 1) := by decide +kernel
theorem dX7_drawMembers_55 : decode cX7_drawMembers 55 = .ok (.istore 6, 2) := by decide +kernel
theorem dX7_drawMembers_57 : decode cX7_drawMembers 57 = .ok (.iconst 0, 1) := by decide +kernel
theorem dX7_drawMembers_58 : decode cX7_drawMembers 58 = .ok (.istore 7, 2) := by decide +kernel
theorem dX7_drawMembers_60 : decode cX7_drawMembers 60 = .ok (.iload 7, 2) := by decide +kernel
theorem dX7_drawMembers_62 : decode cX7_drawMembers 62 = .ok (.iload_n 3, 1) := by decide +kernel
theorem dX7_drawMembers_63 : decode cX7_drawMembers 63 = .ok (.if_icmp .ge 28, 3) := by decide +kernel
theorem dX7_drawMembers_66 : decode cX7_drawMembers 66 = .ok (.iload 4, 2) := by decide +kernel
theorem dX7_drawMembers_68 : decode cX7_drawMembers 68 = .ok (.iload 6, 2) := by decide +kernel
theorem dX7_drawMembers_70 : decode cX7_drawMembers 70 = .ok (.ishr, 1) := by decide +kernel
theorem dX7_drawMembers_71 : decode cX7_drawMembers 71 = .ok (.iconst 1, 1) := by decide +kernel
theorem dX7_drawMembers_72 : decode cX7_drawMembers 72 = .ok (.iand, 1) := by decide +kernel
theorem dX7_drawMembers_73 : decode cX7_drawMembers 73 = .ok (.iconst 1, 1) := by decide +kernel
theorem dX7_drawMembers_74 : decode cX7_drawMembers 74 = .ok (.if_icmp .ne 17, 3) := by decide +kernel
theorem dX7_drawMembers_77 : decode cX7_drawMembers 77 = .ok (.iload 6, 2) := by decide +kernel
theorem dX7_drawMembers_79 : decode cX7_drawMembers 79 = .ok (.iconst 1, 1) := by decide +kernel
theorem dX7_drawMembers_80 : decode cX7_drawMembers 80 = .ok (.iadd, 1) := by decide +kernel
theorem dX7_drawMembers_81 : decode cX7_drawMembers 81 = .ok (.iload_n 3, 1) := by decide +kernel
theorem dX7_drawMembers_82 : decode cX7_drawMembers 82 = .ok (.irem, 1) := by decide +kernel
theorem dX7_drawMembers_83 : decode cX7_drawMembers 83 = .ok (.istore 6, 2) := by decide +kernel
theorem dX7_drawMembers_85 : decode cX7_drawMembers 85 = .ok (.iinc 7 1, 3) := by decide +kernel
theorem dX7_drawMembers_88 : decode cX7_drawMembers 88 = .ok (.goto (-28), 3) := by decide +kernel
theorem dX7_drawMembers_91 : decode cX7_drawMembers 91 = .ok (.iload 4, 2) := by decide +kernel
theorem dX7_drawMembers_93 : decode cX7_drawMembers 93 = .ok (.iconst 1, 1) := by decide +kernel
theorem dX7_drawMembers_94 : decode cX7_drawMembers 94 = .ok (.iload 6, 2) := by decide +kernel
theorem dX7_drawMembers_96 : decode cX7_drawMembers 96 = .ok (.ishl, 1) := by decide +kernel
theorem dX7_drawMembers_97 : decode cX7_drawMembers 97 = .ok (.ior, 1) := by decide +kernel
theorem dX7_drawMembers_98 : decode cX7_drawMembers 98 = .ok (.istore 4, 2) := by decide +kernel
theorem dX7_drawMembers_100 : decode cX7_drawMembers 100 = .ok (.aload_n 0, 1) := by decide +kernel
theorem dX7_drawMembers_101 : decode cX7_drawMembers 101 = .ok (.getfield 25, 3) := by decide +kernel
theorem dX7_drawMembers_104 : decode cX7_drawMembers 104 = .ok (.iload 5, 2) := by decide +kernel
theorem dX7_drawMembers_106 : decode cX7_drawMembers 106 = .ok (.iload 6, 2) := by decide +kernel
theorem dX7_drawMembers_108 : decode cX7_drawMembers 108 = .ok (.iastore, 1) := by decide +kernel
theorem dX7_drawMembers_109 : decode cX7_drawMembers 109 = .ok (.iinc 5 1, 3) := by decide +kernel
theorem dX7_drawMembers_112 : decode cX7_drawMembers 112 = .ok (.goto (-84), 3) := by decide +kernel
theorem dX7_drawMembers_115 : decode cX7_drawMembers 115 = .ok (.iload_n 2, 1) := by decide +kernel
theorem dX7_drawMembers_116 : decode cX7_drawMembers 116 = .ok (.ireturn, 1) := by decide +kernel
