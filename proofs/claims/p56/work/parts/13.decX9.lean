theorem dX9_init_0 : decode cX9_init 0 = .ok (.aload_n 0, 1) := by decide +kernel
theorem dX9_init_1 : decode cX9_init 1 = .ok (.invokespecial 3, 3) := by decide +kernel
theorem dX9_init_4 : decode cX9_init 4 = .ok (.aload_n 0, 1) := by decide +kernel
theorem dX9_init_5 : decode cX9_init 5 = .ok (.bipush 60, 2) := by decide +kernel
theorem dX9_init_7 : decode cX9_init 7 = .ok (.newarray .char, 2) := by decide +kernel
theorem dX9_init_9 : decode cX9_init 9 = .ok (.putfield 9, 3) := by decide +kernel
theorem dX9_init_12 : decode cX9_init 12 = .ok (.aload_n 0, 1) := by decide +kernel
theorem dX9_init_13 : decode cX9_init 13 = .ok (.bipush 11, 2) := by decide +kernel
theorem dX9_init_15 : decode cX9_init 15 = .ok (.anewarray 13, 3) := by decide +kernel
theorem dX9_init_18 : decode cX9_init 18 = .ok (.putfield 15, 3) := by decide +kernel
theorem dX9_init_21 : decode cX9_init 21 = .ok (.aload_n 0, 1) := by decide +kernel
theorem dX9_init_22 : decode cX9_init 22 = .ok (.bipush 11, 2) := by decide +kernel
theorem dX9_init_24 : decode cX9_init 24 = .ok (.newarray .int, 2) := by decide +kernel
theorem dX9_init_26 : decode cX9_init 26 = .ok (.putfield 19, 3) := by decide +kernel
theorem dX9_init_29 : decode cX9_init 29 = .ok (.aload_n 0, 1) := by decide +kernel
theorem dX9_init_30 : decode cX9_init 30 = .ok (.bipush 11, 2) := by decide +kernel
theorem dX9_init_32 : decode cX9_init 32 = .ok (.newarray .int, 2) := by decide +kernel
theorem dX9_init_34 : decode cX9_init 34 = .ok (.putfield 23, 3) := by decide +kernel
theorem dX9_init_37 : decode cX9_init 37 = .ok (.return_, 1) := by decide +kernel
theorem dX9_isFull_0 : decode cX9_isFull 0 = .ok (.aload_n 0, 1) := by decide +kernel
theorem dX9_isFull_1 : decode cX9_isFull 1 = .ok (.getfield 26, 3) := by decide +kernel
theorem dX9_isFull_4 : decode cX9_isFull 4 = .ok (.aload_n 0, 1) := by decide +kernel
theorem dX9_isFull_5 : decode cX9_isFull 5 = .ok (.getfield 9, 3) := by decide +kernel
theorem dX9_isFull_8 : decode cX9_isFull 8 = .ok (.arraylength, 1) := by decide +kernel
theorem dX9_isFull_9 : decode cX9_isFull 9 = .ok (.if_icmp .lt 7, 3) := by decide +kernel
theorem dX9_isFull_12 : decode cX9_isFull 12 = .ok (.iconst 1, 1) := by decide +kernel
theorem dX9_isFull_13 : decode cX9_isFull 13 = .ok (.goto 4, 3) := by decide +kernel
theorem dX9_isFull_16 : decode cX9_isFull 16 = .ok (.iconst 0, 1) := by decide +kernel
theorem dX9_isFull_17 : decode cX9_isFull 17 = .ok (.ireturn, 1) := by decide +kernel
theorem dX9_append_0 : decode cX9_append 0 = .ok (.aload_n 0, 1) := by decide +kernel
theorem dX9_append_1 : decode cX9_append 1 = .ok (.getfield 26, 3) := by decide +kernel
theorem dX9_append_4 : decode cX9_append 4 = .ok (.aload_n 0, 1) := by decide +kernel
theorem dX9_append_5 : decode cX9_append 5 = .ok (.getfield 9, 3) := by decide +kernel
theorem dX9_append_8 : decode cX9_append 8 = .ok (.arraylength, 1) := by decide +kernel
theorem dX9_append_9 : decode cX9_append 9 = .ok (.if_icmp .ge 23, 3) := by decide +kernel
theorem dX9_append_12 : decode cX9_append 12 = .ok (.aload_n 0, 1) := by decide +kernel
theorem dX9_append_13 : decode cX9_append 13 = .ok (.getfield 9, 3) := by decide +kernel
theorem dX9_append_16 : decode cX9_append 16 = .ok (.aload_n 0, 1) := by decide +kernel
theorem dX9_append_17 : decode cX9_append 17 = .ok (.getfield 26, 3) := by decide +kernel
theorem dX9_append_20 : decode cX9_append 20 = .ok (.iload_n 1, 1) := by decide +kernel
theorem dX9_append_21 : decode cX9_append 21 = .ok (.castore, 1) := by decide +kernel
theorem dX9_append_22 : decode cX9_append 22 = .ok (.aload_n 0, 1) := by decide +kernel
theorem dX9_append_23 : decode cX9_append 23 = .ok (.dup, 1) := by decide +kernel
theorem dX9_append_24 : decode cX9_append 24 = .ok (.getfield 26, 3) := by decide +kernel
theorem dX9_append_27 : decode cX9_append 27 = .ok (.iconst 1, 1) := by decide +kernel
theorem dX9_append_28 : decode cX9_append 28 = .ok (.iadd, 1) := by decide +kernel
theorem dX9_append_29 : decode cX9_append 29 = .ok (.putfield 26, 3) := by decide +kernel
theorem dX9_append_32 : decode cX9_append 32 = .ok (.aload_n 0, 1) := by decide +kernel
theorem dX9_append_33 : decode cX9_append 33 = .ok (.getfield 26, 3) := by decide +kernel
theorem dX9_append_36 : decode cX9_append 36 = .ok (.ireturn, 1) := by decide +kernel
theorem dX9_empty_0 : decode cX9_empty 0 = .ok (.aload_n 0, 1) := by decide +kernel
theorem dX9_empty_1 : decode cX9_empty 1 = .ok (.iconst 0, 1) := by decide +kernel
theorem dX9_empty_2 : decode cX9_empty 2 = .ok (.putfield 26, 3) := by decide +kernel
theorem dX9_empty_5 : decode cX9_empty 5 = .ok (.return_, 1) := by decide +kernel
theorem dX9_parse_0 : decode cX9_parse 0 = .ok (.aload_n 0, 1) := by decide +kernel
theorem dX9_parse_1 : decode cX9_parse 1 = .ok (.iconst 0, 1) := by decide +kernel
theorem dX9_parse_2 : decode cX9_parse 2 = .ok (.putfield 30, 3) := by decide +kernel
theorem dX9_parse_5 : decode cX9_parse 5 = .ok (.aload_n 0, 1) := by decide +kernel
theorem dX9_parse_6 : decode cX9_parse 6 = .ok (.iconst 0, 1) := by decide +kernel
theorem dX9_parse_7 : decode cX9_parse 7 = .ok (.putfield 33, 3) := by decide +kernel
theorem dX9_parse_10 : decode cX9_parse 10 = .ok (.iconst 0, 1) := by decide +kernel
theorem dX9_parse_11 : decode cX9_parse 11 = .ok (.istore_n 1, 1) := by decide +kernel
theorem dX9_parse_12 : decode cX9_parse 12 = .ok (.iload_n 1, 1) := by decide +kernel
theorem dX9_parse_13 : decode cX9_parse 13 = .ok (.bipush 11, 2) := by decide +kernel
theorem dX9_parse_15 : decode cX9_parse 15 = .ok (.if_icmp .ge 65, 3) := by decide +kernel
theorem dX9_parse_18 : decode cX9_parse 18 = .ok (.aload_n 0, 1) := by decide +kernel
theorem dX9_parse_19 : decode cX9_parse 19 = .ok (.iload_n 1, 1) := by decide +kernel
theorem dX9_parse_20 : decode cX9_parse 20 = .ok (.invokevirtual 36, 3) := by decide +kernel
theorem dX9_parse_23 : decode cX9_parse 23 = .ok (.ifCond .ne 5, 3) := by decide +kernel
theorem dX9_parse_26 : decode cX9_parse 26 = .ok (.iconst 0, 1) := by decide +kernel
theorem dX9_parse_27 : decode cX9_parse 27 = .ok (.ireturn, 1) := by decide +kernel
theorem dX9_parse_28 : decode cX9_parse 28 = .ok (.aload_n 0, 1) := by decide +kernel
theorem dX9_parse_29 : decode cX9_parse 29 = .ok (.iload_n 1, 1) := by decide +kernel
theorem dX9_parse_30 : decode cX9_parse 30 = .ok (.iconst 1, 1) := by decide +kernel
theorem dX9_parse_31 : decode cX9_parse 31 = .ok (.iadd, 1) := by decide +kernel
theorem dX9_parse_32 : decode cX9_parse 32 = .ok (.putfield 30, 3) := by decide +kernel
theorem dX9_parse_35 : decode cX9_parse 35 = .ok (.aload_n 0, 1) := by decide +kernel
theorem dX9_parse_36 : decode cX9_parse 36 = .ok (.getfield 33, 3) := by decide +kernel
theorem dX9_parse_39 : decode cX9_parse 39 = .ok (.aload_n 0, 1) := by decide +kernel
theorem dX9_parse_40 : decode cX9_parse 40 = .ok (.getfield 26, 3) := by decide +kernel
theorem dX9_parse_43 : decode cX9_parse 43 = .ok (.if_icmp .lt 5, 3) := by decide +kernel
theorem dX9_parse_46 : decode cX9_parse 46 = .ok (.iconst 1, 1) := by decide +kernel
theorem dX9_parse_47 : decode cX9_parse 47 = .ok (.ireturn, 1) := by decide +kernel
theorem dX9_parse_48 : decode cX9_parse 48 = .ok (.aload_n 0, 1) := by decide +kernel
theorem dX9_parse_49 : decode cX9_parse 49 = .ok (.getfield 9, 3) := by decide +kernel
theorem dX9_parse_52 : decode cX9_parse 52 = .ok (.aload_n 0, 1) := by decide +kernel
theorem dX9_parse_53 : decode cX9_parse 53 = .ok (.getfield 33, 3) := by decide +kernel
theorem dX9_parse_56 : decode cX9_parse 56 = .ok (.caload, 1) := by decide +kernel
theorem dX9_parse_57 : decode cX9_parse 57 = .ok (.bipush 59, 2) := by decide +kernel
theorem dX9_parse_59 : decode cX9_parse 59 = .ok (.if_icmp .eq 5, 3) := by decide +kernel
theorem dX9_parse_62 : decode cX9_parse 62 = .ok (.iconst 0, 1) := by decide +kernel
theorem dX9_parse_63 : decode cX9_parse 63 = .ok (.ireturn, 1) := by decide +kernel
theorem dX9_parse_64 : decode cX9_parse 64 = .ok (.aload_n 0, 1) := by decide +kernel
theorem dX9_parse_65 : decode cX9_parse 65 = .ok (.dup, 1) := by decide +kernel
theorem dX9_parse_66 : decode cX9_parse 66 = .ok (.getfield 33, 3) := by decide +kernel
theorem dX9_parse_69 : decode cX9_parse 69 = .ok (.iconst 1, 1) := by decide +kernel
theorem dX9_parse_70 : decode cX9_parse 70 = .ok (.iadd, 1) := by decide +kernel
theorem dX9_parse_71 : decode cX9_parse 71 = .ok (.putfield 33, 3) := by decide +kernel
theorem dX9_parse_74 : decode cX9_parse 74 = .ok (.iinc 1 1, 3) := by decide +kernel
theorem dX9_parse_77 : decode cX9_parse 77 = .ok (.goto (-65), 3) := by decide +kernel
theorem dX9_parse_80 : decode cX9_parse 80 = .ok (.iconst 0, 1) := by decide +kernel
theorem dX9_parse_81 : decode cX9_parse 81 = .ok (.ireturn, 1) := by decide +kernel
theorem dX9_run_0 : decode cX9_run 0 = .ok (.iconst 0, 1) := by decide +kernel
theorem dX9_run_1 : decode cX9_run 1 = .ok (.istore_n 2, 1) := by decide +kernel
theorem dX9_run_2 : decode cX9_run 2 = .ok (.iload_n 2, 1) := by decide +kernel
theorem dX9_run_3 : decode cX9_run 3 = .ok (.aload_n 0, 1) := by decide +kernel
theorem dX9_run_4 : decode cX9_run 4 = .ok (.getfield 30, 3) := by decide +kernel
theorem dX9_run_7 : decode cX9_run 7 = .ok (.if_icmp .ge 65, 3) := by decide +kernel
theorem dX9_run_10 : decode cX9_run 10 = .ok (.aload_n 1, 1) := by decide +kernel
theorem dX9_run_11 : decode cX9_run 11 = .ok (.aload_n 0, 1) := by decide +kernel
theorem dX9_run_12 : decode cX9_run 12 = .ok (.getfield 15, 3) := by decide +kernel
theorem dX9_run_15 : decode cX9_run 15 = .ok (.iload_n 2, 1) := by decide +kernel
theorem dX9_run_16 : decode cX9_run 16 = .ok (.aaload, 1) := by decide +kernel
theorem dX9_run_17 : decode cX9_run 17 = .ok (.aload_n 0, 1) := by decide +kernel
theorem dX9_run_18 : decode cX9_run 18 = .ok (.getfield 19, 3) := by decide +kernel
theorem dX9_run_21 : decode cX9_run 21 = .ok (.iload_n 2, 1) := by decide +kernel
theorem dX9_run_22 : decode cX9_run 22 = .ok (.iaload, 1) := by decide +kernel
theorem dX9_run_23 : decode cX9_run 23 = .ok (.aload_n 0, 1) := by decide +kernel
theorem dX9_run_24 : decode cX9_run 24 = .ok (.getfield 23, 3) := by decide +kernel
theorem dX9_run_27 : decode cX9_run 27 = .ok (.iload_n 2, 1) := by decide +kernel
theorem dX9_run_28 : decode cX9_run 28 = .ok (.iaload, 1) := by decide +kernel
theorem dX9_run_29 : decode cX9_run 29 = .ok (.invokevirtual 40, 3) := by decide +kernel
theorem dX9_run_32 : decode cX9_run 32 = .ok (.astore_n 3, 1) := by decide +kernel
theorem dX9_run_33 : decode cX9_run 33 = .ok (.aload_n 3, 1) := by decide +kernel
theorem dX9_run_34 : decode cX9_run 34 = .ok (.ifnull 9, 3) := by decide +kernel
theorem dX9_run_37 : decode cX9_run 37 = .ok (.iload_n 2, 1) := by decide +kernel
theorem dX9_run_38 : decode cX9_run 38 = .ok (.aload_n 3, 1) := by decide +kernel
theorem dX9_run_39 : decode cX9_run 39 = .ok (.invokestatic 46, 3) := by decide +kernel
theorem dX9_run_42 : decode cX9_run 42 = .ok (.areturn, 1) := by decide +kernel
theorem dX9_run_43 : decode cX9_run 43 = .ok (.aload_n 1, 1) := by decide +kernel
theorem dX9_run_44 : decode cX9_run 44 = .ok (.aload_n 0, 1) := by decide +kernel
theorem dX9_run_45 : decode cX9_run 45 = .ok (.getfield 15, 3) := by decide +kernel
theorem dX9_run_48 : decode cX9_run 48 = .ok (.iload_n 2, 1) := by decide +kernel
theorem dX9_run_49 : decode cX9_run 49 = .ok (.aaload, 1) := by decide +kernel
theorem dX9_run_50 : decode cX9_run 50 = .ok (.aload_n 0, 1) := by decide +kernel
theorem dX9_run_51 : decode cX9_run 51 = .ok (.getfield 19, 3) := by decide +kernel
theorem dX9_run_54 : decode cX9_run 54 = .ok (.iload_n 2, 1) := by decide +kernel
theorem dX9_run_55 : decode cX9_run 55 = .ok (.iaload, 1) := by decide +kernel
theorem dX9_run_56 : decode cX9_run 56 = .ok (.aload_n 0, 1) := by decide +kernel
theorem dX9_run_57 : decode cX9_run 57 = .ok (.getfield 23, 3) := by decide +kernel
theorem dX9_run_60 : decode cX9_run 60 = .ok (.iload_n 2, 1) := by decide +kernel
theorem dX9_run_61 : decode cX9_run 61 = .ok (.iaload, 1) := by decide +kernel
theorem dX9_run_62 : decode cX9_run 62 = .ok (.invokevirtual 52, 3) := by decide +kernel
theorem dX9_run_65 : decode cX9_run 65 = .ok (.pop, 1) := by decide +kernel
theorem dX9_run_66 : decode cX9_run 66 = .ok (.iinc 2 1, 3) := by decide +kernel
theorem dX9_run_69 : decode cX9_run 69 = .ok (.goto (-67), 3) := by decide +kernel
theorem dX9_run_72 : decode cX9_run 72 = .ok (.aconst_null, 1) := by decide +kernel
theorem dX9_run_73 : decode cX9_run 73 = .ok (.areturn, 1) := by decide +kernel
theorem dX9_readCommand_0 : decode cX9_readCommand 0 = .ok (.aload_n 0, 1) := by decide +kernel
theorem dX9_readCommand_1 : decode cX9_readCommand 1 = .ok (.getfield 33, 3) := by decide +kernel
theorem dX9_readCommand_4 : decode cX9_readCommand 4 = .ok (.istore_n 2, 1) := by decide +kernel
theorem dX9_readCommand_5 : decode cX9_readCommand 5 = .ok (.iload_n 2, 1) := by decide +kernel
theorem dX9_readCommand_6 : decode cX9_readCommand 6 = .ok (.istore_n 3, 1) := by decide +kernel
theorem dX9_readCommand_7 : decode cX9_readCommand 7 = .ok (.getstatic 56, 3) := by decide +kernel
theorem dX9_readCommand_10 : decode cX9_readCommand 10 = .ok (.astore 4, 2) := by decide +kernel
theorem dX9_readCommand_12 : decode cX9_readCommand 12 = .ok (.aload 4, 2) := by decide +kernel
theorem dX9_readCommand_14 : decode cX9_readCommand 14 = .ok (.arraylength, 1) := by decide +kernel
theorem dX9_readCommand_15 : decode cX9_readCommand 15 = .ok (.istore 5, 2) := by decide +kernel
theorem dX9_readCommand_17 : decode cX9_readCommand 17 = .ok (.iconst 0, 1) := by decide +kernel
theorem dX9_readCommand_18 : decode cX9_readCommand 18 = .ok (.istore 6, 2) := by decide +kernel
theorem dX9_readCommand_20 : decode cX9_readCommand 20 = .ok (.iload 6, 2) := by decide +kernel
theorem dX9_readCommand_22 : decode cX9_readCommand 22 = .ok (.iload 5, 2) := by decide +kernel
theorem dX9_readCommand_24 : decode cX9_readCommand 24 = .ok (.if_icmp .ge 50, 3) := by decide +kernel
theorem dX9_readCommand_27 : decode cX9_readCommand 27 = .ok (.aload 4, 2) := by decide +kernel
theorem dX9_readCommand_29 : decode cX9_readCommand 29 = .ok (.iload 6, 2) := by decide +kernel
theorem dX9_readCommand_31 : decode cX9_readCommand 31 = .ok (.aaload, 1) := by decide +kernel
theorem dX9_readCommand_32 : decode cX9_readCommand 32 = .ok (.astore 7, 2) := by decide +kernel
theorem dX9_readCommand_34 : decode cX9_readCommand 34 = .ok (.aload_n 0, 1) := by decide +kernel
theorem dX9_readCommand_35 : decode cX9_readCommand 35 = .ok (.iload_n 2, 1) := by decide +kernel
theorem dX9_readCommand_36 : decode cX9_readCommand 36 = .ok (.putfield 33, 3) := by decide +kernel
theorem dX9_readCommand_39 : decode cX9_readCommand 39 = .ok (.aload_n 0, 1) := by decide +kernel
theorem dX9_readCommand_40 : decode cX9_readCommand 40 = .ok (.aload 7, 2) := by decide +kernel
theorem dX9_readCommand_42 : decode cX9_readCommand 42 = .ok (.iload_n 1, 1) := by decide +kernel
theorem dX9_readCommand_43 : decode cX9_readCommand 43 = .ok (.invokevirtual 59, 3) := by decide +kernel
theorem dX9_readCommand_46 : decode cX9_readCommand 46 = .ok (.ifCond .eq 13, 3) := by decide +kernel
theorem dX9_readCommand_49 : decode cX9_readCommand 49 = .ok (.aload_n 0, 1) := by decide +kernel
theorem dX9_readCommand_50 : decode cX9_readCommand 50 = .ok (.getfield 15, 3) := by decide +kernel
theorem dX9_readCommand_53 : decode cX9_readCommand 53 = .ok (.iload_n 1, 1) := by decide +kernel
theorem dX9_readCommand_54 : decode cX9_readCommand 54 = .ok (.aload 7, 2) := by decide +kernel
theorem dX9_readCommand_56 : decode cX9_readCommand 56 = .ok (.aastore, 1) := by decide +kernel
theorem dX9_readCommand_57 : decode cX9_readCommand 57 = .ok (.iconst 1, 1) := by decide +kernel
theorem dX9_readCommand_58 : decode cX9_readCommand 58 = .ok (.ireturn, 1) := by decide +kernel
theorem dX9_readCommand_59 : decode cX9_readCommand 59 = .ok (.iload_n 3, 1) := by decide +kernel
theorem dX9_readCommand_60 : decode cX9_readCommand 60 = .ok (.aload_n 0, 1) := by decide +kernel
theorem dX9_readCommand_61 : decode cX9_readCommand 61 = .ok (.getfield 33, 3) := by decide +kernel
theorem dX9_readCommand_64 : decode cX9_readCommand 64 = .ok (.invokestatic 63, 3) := by decide +kernel
theorem dX9_readCommand_67 : decode cX9_readCommand 67 = .ok (.istore_n 3, 1) := by decide +kernel
theorem dX9_readCommand_68 : decode cX9_readCommand 68 = .ok (.iinc 6 1, 3) := by decide +kernel
theorem dX9_readCommand_71 : decode cX9_readCommand 71 = .ok (.goto (-51), 3) := by decide +kernel
theorem dX9_readCommand_74 : decode cX9_readCommand 74 = .ok (.aload_n 0, 1) := by decide +kernel
theorem dX9_readCommand_75 : decode cX9_readCommand 75 = .ok (.iload_n 3, 1) := by decide +kernel
theorem dX9_readCommand_76 : decode cX9_readCommand 76 = .ok (.putfield 33, 3) := by decide +kernel
theorem dX9_readCommand_79 : decode cX9_readCommand 79 = .ok (.iconst 0, 1) := by decide +kernel
theorem dX9_readCommand_80 : decode cX9_readCommand 80 = .ok (.ireturn, 1) := by decide +kernel
theorem dX9_matches_0 : decode cX9_matches 0 = .ok (.iconst (-1), 1) := by decide +kernel
theorem dX9_matches_1 : decode cX9_matches 1 = .ok (.istore_n 3, 1) := by decide +kernel
theorem dX9_matches_2 : decode cX9_matches 2 = .ok (.iconst (-1), 1) := by decide +kernel
theorem dX9_matches_3 : decode cX9_matches 3 = .ok (.istore 4, 2) := by decide +kernel
theorem dX9_matches_5 : decode cX9_matches 5 = .ok (.iconst 0, 1) := by decide +kernel
theorem dX9_matches_6 : decode cX9_matches 6 = .ok (.istore 5, 2) := by decide +kernel
theorem dX9_matches_8 : decode cX9_matches 8 = .ok (.iload 5, 2) := by decide +kernel
theorem dX9_matches_10 : decode cX9_matches 10 = .ok (.aload_n 1, 1) := by decide +kernel
theorem dX9_matches_11 : decode cX9_matches 11 = .ok (.getfield 69, 3) := by decide +kernel
theorem dX9_matches_14 : decode cX9_matches 14 = .ok (.invokevirtual 73, 3) := by decide +kernel
theorem dX9_matches_17 : decode cX9_matches 17 = .ok (.if_icmp .ge 114, 3) := by decide +kernel
theorem dX9_matches_20 : decode cX9_matches 20 = .ok (.aload_n 1, 1) := by decide +kernel
theorem dX9_matches_21 : decode cX9_matches 21 = .ok (.getfield 69, 3) := by decide +kernel
theorem dX9_matches_24 : decode cX9_matches 24 = .ok (.iload 5, 2) := by decide +kernel
theorem dX9_matches_26 : decode cX9_matches 26 = .ok (.invokevirtual 78, 3) := by decide +kernel
theorem dX9_matches_29 : decode cX9_matches 29 = .ok (.istore 6, 2) := by decide +kernel
theorem dX9_matches_31 : decode cX9_matches 31 = .ok (.iload 6, 2) := by decide +kernel
theorem dX9_matches_33 : decode cX9_matches 33 = .ok (.invokestatic 82, 3) := by decide +kernel
theorem dX9_matches_36 : decode cX9_matches 36 = .ok (.istore 7, 2) := by decide +kernel
theorem dX9_matches_38 : decode cX9_matches 38 = .ok (.iload 7, 2) := by decide +kernel
theorem dX9_matches_40 : decode cX9_matches 40 = .ok (.ifCond .le 45, 3) := by decide +kernel
theorem dX9_matches_43 : decode cX9_matches 43 = .ok (.aload_n 0, 1) := by decide +kernel
theorem dX9_matches_44 : decode cX9_matches 44 = .ok (.iload 7, 2) := by decide +kernel
theorem dX9_matches_46 : decode cX9_matches 46 = .ok (.invokevirtual 86, 3) := by decide +kernel
theorem dX9_matches_49 : decode cX9_matches 49 = .ok (.istore 8, 2) := by decide +kernel
theorem dX9_matches_51 : decode cX9_matches 51 = .ok (.iload 8, 2) := by decide +kernel
theorem dX9_matches_53 : decode cX9_matches 53 = .ok (.ifCond .ge 5, 3) := by decide +kernel
theorem dX9_matches_56 : decode cX9_matches 56 = .ok (.iconst 0, 1) := by decide +kernel
theorem dX9_matches_57 : decode cX9_matches 57 = .ok (.ireturn, 1) := by decide +kernel
theorem dX9_matches_58 : decode cX9_matches 58 = .ok (.iload_n 3, 1) := by decide +kernel
theorem dX9_matches_59 : decode cX9_matches 59 = .ok (.ifCond .ge 8, 3) := by decide +kernel
theorem dX9_matches_62 : decode cX9_matches 62 = .ok (.iload 4, 2) := by decide +kernel
theorem dX9_matches_64 : decode cX9_matches 64 = .ok (.goto 5, 3) := by decide +kernel
theorem dX9_matches_67 : decode cX9_matches 67 = .ok (.iload 8, 2) := by decide +kernel
theorem dX9_matches_69 : decode cX9_matches 69 = .ok (.istore 4, 2) := by decide +kernel
theorem dX9_matches_71 : decode cX9_matches 71 = .ok (.iload_n 3, 1) := by decide +kernel
theorem dX9_matches_72 : decode cX9_matches 72 = .ok (.ifCond .ge 8, 3) := by decide +kernel
theorem dX9_matches_75 : decode cX9_matches 75 = .ok (.iload 8, 2) := by decide +kernel
theorem dX9_matches_77 : decode cX9_matches 77 = .ok (.goto 4, 3) := by decide +kernel
theorem dX9_matches_80 : decode cX9_matches 80 = .ok (.iload_n 3, 1) := by decide +kernel
theorem dX9_matches_81 : decode cX9_matches 81 = .ok (.istore_n 3, 1) := by decide +kernel
theorem dX9_matches_82 : decode cX9_matches 82 = .ok (.goto 43, 3) := by decide +kernel
theorem dX9_matches_85 : decode cX9_matches 85 = .ok (.aload_n 0, 1) := by decide +kernel
theorem dX9_matches_86 : decode cX9_matches 86 = .ok (.getfield 33, 3) := by decide +kernel
theorem dX9_matches_89 : decode cX9_matches 89 = .ok (.aload_n 0, 1) := by decide +kernel
theorem dX9_matches_90 : decode cX9_matches 90 = .ok (.getfield 26, 3) := by decide +kernel
theorem dX9_matches_93 : decode cX9_matches 93 = .ok (.if_icmp .ge 30, 3) := by decide +kernel
theorem dX9_matches_96 : decode cX9_matches 96 = .ok (.aload_n 0, 1) := by decide +kernel
theorem dX9_matches_97 : decode cX9_matches 97 = .ok (.getfield 9, 3) := by decide +kernel
theorem dX9_matches_100 : decode cX9_matches 100 = .ok (.aload_n 0, 1) := by decide +kernel
theorem dX9_matches_101 : decode cX9_matches 101 = .ok (.getfield 33, 3) := by decide +kernel
theorem dX9_matches_104 : decode cX9_matches 104 = .ok (.caload, 1) := by decide +kernel
theorem dX9_matches_105 : decode cX9_matches 105 = .ok (.iload 6, 2) := by decide +kernel
theorem dX9_matches_107 : decode cX9_matches 107 = .ok (.if_icmp .ne 16, 3) := by decide +kernel
theorem dX9_matches_110 : decode cX9_matches 110 = .ok (.aload_n 0, 1) := by decide +kernel
theorem dX9_matches_111 : decode cX9_matches 111 = .ok (.dup, 1) := by decide +kernel
theorem dX9_matches_112 : decode cX9_matches 112 = .ok (.getfield 33, 3) := by decide +kernel
theorem dX9_matches_115 : decode cX9_matches 115 = .ok (.iconst 1, 1) := by decide +kernel
theorem dX9_matches_116 : decode cX9_matches 116 = .ok (.iadd, 1) := by decide +kernel
theorem dX9_matches_117 : decode cX9_matches 117 = .ok (.putfield 33, 3) := by decide +kernel
theorem dX9_matches_120 : decode cX9_matches 120 = .ok (.goto 5, 3) := by decide +kernel
theorem dX9_matches_123 : decode cX9_matches 123 = .ok (.iconst 0, 1) := by decide +kernel
theorem dX9_matches_124 : decode cX9_matches 124 = .ok (.ireturn, 1) := by decide +kernel
theorem dX9_matches_125 : decode cX9_matches 125 = .ok (.iinc 5 1, 3) := by decide +kernel
theorem dX9_matches_128 : decode cX9_matches 128 = .ok (.goto (-120), 3) := by decide +kernel
theorem dX9_matches_131 : decode cX9_matches 131 = .ok (.aload_n 0, 1) := by decide +kernel
theorem dX9_matches_132 : decode cX9_matches 132 = .ok (.getfield 19, 3) := by decide +kernel
theorem dX9_matches_135 : decode cX9_matches 135 = .ok (.iload_n 2, 1) := by decide +kernel
theorem dX9_matches_136 : decode cX9_matches 136 = .ok (.iload_n 3, 1) := by decide +kernel
theorem dX9_matches_137 : decode cX9_matches 137 = .ok (.iastore, 1) := by decide +kernel
theorem dX9_matches_138 : decode cX9_matches 138 = .ok (.aload_n 0, 1) := by decide +kernel
theorem dX9_matches_139 : decode cX9_matches 139 = .ok (.getfield 23, 3) := by decide +kernel
theorem dX9_matches_142 : decode cX9_matches 142 = .ok (.iload_n 2, 1) := by decide +kernel
theorem dX9_matches_143 : decode cX9_matches 143 = .ok (.iload 4, 2) := by decide +kernel
theorem dX9_matches_145 : decode cX9_matches 145 = .ok (.iastore, 1) := by decide +kernel
theorem dX9_matches_146 : decode cX9_matches 146 = .ok (.iconst 1, 1) := by decide +kernel
theorem dX9_matches_147 : decode cX9_matches 147 = .ok (.ireturn, 1) := by decide +kernel
theorem dX9_digitsOf_0 : decode cX9_digitsOf 0 = .ok (.iload_n 0, 1) := by decide +kernel
theorem dX9_digitsOf_1 : decode cX9_digitsOf 1 = .ok (.bipush 68, 2) := by decide +kernel
theorem dX9_digitsOf_3 : decode cX9_digitsOf 3 = .ok (.if_icmp .ne 5, 3) := by decide +kernel
theorem dX9_digitsOf_6 : decode cX9_digitsOf 6 = .ok (.iconst 1, 1) := by decide +kernel
theorem dX9_digitsOf_7 : decode cX9_digitsOf 7 = .ok (.ireturn, 1) := by decide +kernel
theorem dX9_digitsOf_8 : decode cX9_digitsOf 8 = .ok (.iload_n 0, 1) := by decide +kernel
theorem dX9_digitsOf_9 : decode cX9_digitsOf 9 = .ok (.bipush 78, 2) := by decide +kernel
theorem dX9_digitsOf_11 : decode cX9_digitsOf 11 = .ok (.if_icmp .ne 5, 3) := by decide +kernel
theorem dX9_digitsOf_14 : decode cX9_digitsOf 14 = .ok (.iconst 2, 1) := by decide +kernel
theorem dX9_digitsOf_15 : decode cX9_digitsOf 15 = .ok (.ireturn, 1) := by decide +kernel
theorem dX9_digitsOf_16 : decode cX9_digitsOf 16 = .ok (.iload_n 0, 1) := by decide +kernel
theorem dX9_digitsOf_17 : decode cX9_digitsOf 17 = .ok (.bipush 76, 2) := by decide +kernel
theorem dX9_digitsOf_19 : decode cX9_digitsOf 19 = .ok (.if_icmp .ne 7, 3) := by decide +kernel
theorem dX9_digitsOf_22 : decode cX9_digitsOf 22 = .ok (.iconst 4, 1) := by decide +kernel
theorem dX9_digitsOf_23 : decode cX9_digitsOf 23 = .ok (.goto 4, 3) := by decide +kernel
theorem dX9_digitsOf_26 : decode cX9_digitsOf 26 = .ok (.iconst 0, 1) := by decide +kernel
theorem dX9_digitsOf_27 : decode cX9_digitsOf 27 = .ok (.ireturn, 1) := by decide +kernel
theorem dX9_readNumber_0 : decode cX9_readNumber 0 = .ok (.iconst 0, 1) := by decide +kernel
theorem dX9_readNumber_1 : decode cX9_readNumber 1 = .ok (.istore_n 2, 1) := by decide +kernel
theorem dX9_readNumber_2 : decode cX9_readNumber 2 = .ok (.iconst 0, 1) := by decide +kernel
theorem dX9_readNumber_3 : decode cX9_readNumber 3 = .ok (.istore_n 3, 1) := by decide +kernel
theorem dX9_readNumber_4 : decode cX9_readNumber 4 = .ok (.iconst 0, 1) := by decide +kernel
theorem dX9_readNumber_5 : decode cX9_readNumber 5 = .ok (.istore 4, 2) := by decide +kernel
theorem dX9_readNumber_7 : decode cX9_readNumber 7 = .ok (.iload 4, 2) := by decide +kernel
theorem dX9_readNumber_9 : decode cX9_readNumber 9 = .ok (.iload_n 1, 1) := by decide +kernel
theorem dX9_readNumber_10 : decode cX9_readNumber 10 = .ok (.if_icmp .ge 72, 3) := by decide +kernel
theorem dX9_readNumber_13 : decode cX9_readNumber 13 = .ok (.aload_n 0, 1) := by decide +kernel
theorem dX9_readNumber_14 : decode cX9_readNumber 14 = .ok (.getfield 33, 3) := by decide +kernel
theorem dX9_readNumber_17 : decode cX9_readNumber 17 = .ok (.aload_n 0, 1) := by decide +kernel
theorem dX9_readNumber_18 : decode cX9_readNumber 18 = .ok (.getfield 26, 3) := by decide +kernel
theorem dX9_readNumber_21 : decode cX9_readNumber 21 = .ok (.if_icmp .ge 61, 3) := by decide +kernel
theorem dX9_readNumber_24 : decode cX9_readNumber 24 = .ok (.aload_n 0, 1) := by decide +kernel
theorem dX9_readNumber_25 : decode cX9_readNumber 25 = .ok (.getfield 9, 3) := by decide +kernel
theorem dX9_readNumber_28 : decode cX9_readNumber 28 = .ok (.aload_n 0, 1) := by decide +kernel
theorem dX9_readNumber_29 : decode cX9_readNumber 29 = .ok (.getfield 33, 3) := by decide +kernel
theorem dX9_readNumber_32 : decode cX9_readNumber 32 = .ok (.caload, 1) := by decide +kernel
theorem dX9_readNumber_33 : decode cX9_readNumber 33 = .ok (.istore 5, 2) := by decide +kernel
theorem dX9_readNumber_35 : decode cX9_readNumber 35 = .ok (.iload 5, 2) := by decide +kernel
theorem dX9_readNumber_37 : decode cX9_readNumber 37 = .ok (.bipush 48, 2) := by decide +kernel
theorem dX9_readNumber_39 : decode cX9_readNumber 39 = .ok (.if_icmp .lt 43, 3) := by decide +kernel
theorem dX9_readNumber_42 : decode cX9_readNumber 42 = .ok (.iload 5, 2) := by decide +kernel
theorem dX9_readNumber_44 : decode cX9_readNumber 44 = .ok (.bipush 57, 2) := by decide +kernel
theorem dX9_readNumber_46 : decode cX9_readNumber 46 = .ok (.if_icmp .le 6, 3) := by decide +kernel
theorem dX9_readNumber_49 : decode cX9_readNumber 49 = .ok (.goto 33, 3) := by decide +kernel
theorem dX9_readNumber_52 : decode cX9_readNumber 52 = .ok (.iload_n 2, 1) := by decide +kernel
theorem dX9_readNumber_53 : decode cX9_readNumber 53 = .ok (.bipush 10, 2) := by decide +kernel
theorem dX9_readNumber_55 : decode cX9_readNumber 55 = .ok (.imul, 1) := by decide +kernel
theorem dX9_readNumber_56 : decode cX9_readNumber 56 = .ok (.iload 5, 2) := by decide +kernel
theorem dX9_readNumber_58 : decode cX9_readNumber 58 = .ok (.bipush 48, 2) := by decide +kernel
theorem dX9_readNumber_60 : decode cX9_readNumber 60 = .ok (.isub, 1) := by decide +kernel
theorem dX9_readNumber_61 : decode cX9_readNumber 61 = .ok (.iadd, 1) := by decide +kernel
theorem dX9_readNumber_62 : decode cX9_readNumber 62 = .ok (.istore_n 2, 1) := by decide +kernel
theorem dX9_readNumber_63 : decode cX9_readNumber 63 = .ok (.aload_n 0, 1) := by decide +kernel
theorem dX9_readNumber_64 : decode cX9_readNumber 64 = .ok (.dup, 1) := by decide +kernel
theorem dX9_readNumber_65 : decode cX9_readNumber 65 = .ok (.getfield 33, 3) := by decide +kernel
theorem dX9_readNumber_68 : decode cX9_readNumber 68 = .ok (.iconst 1, 1) := by decide +kernel
theorem dX9_readNumber_69 : decode cX9_readNumber 69 = .ok (.iadd, 1) := by decide +kernel
theorem dX9_readNumber_70 : decode cX9_readNumber 70 = .ok (.putfield 33, 3) := by decide +kernel
theorem dX9_readNumber_73 : decode cX9_readNumber 73 = .ok (.iinc 3 1, 3) := by decide +kernel
theorem dX9_readNumber_76 : decode cX9_readNumber 76 = .ok (.iinc 4 1, 3) := by decide +kernel
theorem dX9_readNumber_79 : decode cX9_readNumber 79 = .ok (.goto (-72), 3) := by decide +kernel
theorem dX9_readNumber_82 : decode cX9_readNumber 82 = .ok (.iload_n 3, 1) := by decide +kernel
theorem dX9_readNumber_83 : decode cX9_readNumber 83 = .ok (.ifCond .ne 7, 3) := by decide +kernel
theorem dX9_readNumber_86 : decode cX9_readNumber 86 = .ok (.iconst (-1), 1) := by decide +kernel
theorem dX9_readNumber_87 : decode cX9_readNumber 87 = .ok (.goto 4, 3) := by decide +kernel
theorem dX9_readNumber_90 : decode cX9_readNumber 90 = .ok (.iload_n 2, 1) := by decide +kernel
theorem dX9_readNumber_91 : decode cX9_readNumber 91 = .ok (.ireturn, 1) := by decide +kernel
theorem dX10_init_0 : decode cX10_init 0 = .ok (.aload_n 0, 1) := by decide +kernel
theorem dX10_init_1 : decode cX10_init 1 = .ok (.invokespecial 3, 3) := by decide +kernel
theorem dX10_init_4 : decode cX10_init 4 = .ok (.aload_n 0, 1) := by decide +kernel
theorem dX10_init_5 : decode cX10_init 5 = .ok (.bipush 7, 2) := by decide +kernel
theorem dX10_init_7 : decode cX10_init 7 = .ok (.anewarray 9, 3) := by decide +kernel
theorem dX10_init_10 : decode cX10_init 10 = .ok (.putfield 11, 3) := by decide +kernel
theorem dX10_init_13 : decode cX10_init 13 = .ok (.iconst 0, 1) := by decide +kernel
theorem dX10_init_14 : decode cX10_init 14 = .ok (.istore_n 1, 1) := by decide +kernel
theorem dX10_init_15 : decode cX10_init 15 = .ok (.iload_n 1, 1) := by decide +kernel
theorem dX10_init_16 : decode cX10_init 16 = .ok (.aload_n 0, 1) := by decide +kernel
theorem dX10_init_17 : decode cX10_init 17 = .ok (.getfield 11, 3) := by decide +kernel
theorem dX10_init_20 : decode cX10_init 20 = .ok (.arraylength, 1) := by decide +kernel
theorem dX10_init_21 : decode cX10_init 21 = .ok (.if_icmp .ge 22, 3) := by decide +kernel
theorem dX10_init_24 : decode cX10_init 24 = .ok (.aload_n 0, 1) := by decide +kernel
theorem dX10_init_25 : decode cX10_init 25 = .ok (.getfield 11, 3) := by decide +kernel
theorem dX10_init_28 : decode cX10_init 28 = .ok (.iload_n 1, 1) := by decide +kernel
theorem dX10_init_29 : decode cX10_init 29 = .ok (.new 9, 3) := by decide +kernel
theorem dX10_init_32 : decode cX10_init 32 = .ok (.dup, 1) := by decide +kernel
theorem dX10_init_33 : decode cX10_init 33 = .ok (.invokespecial 17, 3) := by decide +kernel
theorem dX10_init_36 : decode cX10_init 36 = .ok (.aastore, 1) := by decide +kernel
theorem dX10_init_37 : decode cX10_init 37 = .ok (.iinc 1 1, 3) := by decide +kernel
theorem dX10_init_40 : decode cX10_init 40 = .ok (.goto (-25), 3) := by decide +kernel
theorem dX10_init_43 : decode cX10_init 43 = .ok (.aload_n 0, 1) := by decide +kernel
theorem dX10_init_44 : decode cX10_init 44 = .ok (.new 18, 3) := by decide +kernel
theorem dX10_init_47 : decode cX10_init 47 = .ok (.dup, 1) := by decide +kernel
theorem dX10_init_48 : decode cX10_init 48 = .ok (.invokespecial 20, 3) := by decide +kernel
theorem dX10_init_51 : decode cX10_init 51 = .ok (.putfield 21, 3) := by decide +kernel
theorem dX10_init_54 : decode cX10_init 54 = .ok (.aload_n 0, 1) := by decide +kernel
theorem dX10_init_55 : decode cX10_init 55 = .ok (.bipush 10, 2) := by decide +kernel
theorem dX10_init_57 : decode cX10_init 57 = .ok (.putfield 25, 3) := by decide +kernel
theorem dX10_init_60 : decode cX10_init 60 = .ok (.return_, 1) := by decide +kernel
theorem dX10_copyFrom_0 : decode cX10_copyFrom 0 = .ok (.iconst 0, 1) := by decide +kernel
theorem dX10_copyFrom_1 : decode cX10_copyFrom 1 = .ok (.istore_n 2, 1) := by decide +kernel
theorem dX10_copyFrom_2 : decode cX10_copyFrom 2 = .ok (.iload_n 2, 1) := by decide +kernel
theorem dX10_copyFrom_3 : decode cX10_copyFrom 3 = .ok (.aload_n 0, 1) := by decide +kernel
theorem dX10_copyFrom_4 : decode cX10_copyFrom 4 = .ok (.getfield 11, 3) := by decide +kernel
theorem dX10_copyFrom_7 : decode cX10_copyFrom 7 = .ok (.arraylength, 1) := by decide +kernel
theorem dX10_copyFrom_8 : decode cX10_copyFrom 8 = .ok (.if_icmp .ge 24, 3) := by decide +kernel
theorem dX10_copyFrom_11 : decode cX10_copyFrom 11 = .ok (.aload_n 0, 1) := by decide +kernel
theorem dX10_copyFrom_12 : decode cX10_copyFrom 12 = .ok (.getfield 11, 3) := by decide +kernel
theorem dX10_copyFrom_15 : decode cX10_copyFrom 15 = .ok (.iload_n 2, 1) := by decide +kernel
theorem dX10_copyFrom_16 : decode cX10_copyFrom 16 = .ok (.aaload, 1) := by decide +kernel
theorem dX10_copyFrom_17 : decode cX10_copyFrom 17 = .ok (.aload_n 1, 1) := by decide +kernel
theorem dX10_copyFrom_18 : decode cX10_copyFrom 18 = .ok (.getfield 11, 3) := by decide +kernel
theorem dX10_copyFrom_21 : decode cX10_copyFrom 21 = .ok (.iload_n 2, 1) := by decide +kernel
theorem dX10_copyFrom_22 : decode cX10_copyFrom 22 = .ok (.aaload, 1) := by decide +kernel
theorem dX10_copyFrom_23 : decode cX10_copyFrom 23 = .ok (.invokevirtual 29, 3) := by decide +kernel
theorem dX10_copyFrom_26 : decode cX10_copyFrom 26 = .ok (.iinc 2 1, 3) := by decide +kernel
theorem dX10_copyFrom_29 : decode cX10_copyFrom 29 = .ok (.goto (-27), 3) := by decide +kernel
theorem dX10_copyFrom_32 : decode cX10_copyFrom 32 = .ok (.aload_n 0, 1) := by decide +kernel
theorem dX10_copyFrom_33 : decode cX10_copyFrom 33 = .ok (.getfield 21, 3) := by decide +kernel
theorem dX10_copyFrom_36 : decode cX10_copyFrom 36 = .ok (.aload_n 1, 1) := by decide +kernel
theorem dX10_copyFrom_37 : decode cX10_copyFrom 37 = .ok (.getfield 21, 3) := by decide +kernel
theorem dX10_copyFrom_40 : decode cX10_copyFrom 40 = .ok (.invokevirtual 33, 3) := by decide +kernel
theorem dX10_copyFrom_43 : decode cX10_copyFrom 43 = .ok (.aload_n 0, 1) := by decide +kernel
theorem dX10_copyFrom_44 : decode cX10_copyFrom 44 = .ok (.aload_n 1, 1) := by decide +kernel
theorem dX10_copyFrom_45 : decode cX10_copyFrom 45 = .ok (.getfield 36, 3) := by decide +kernel
theorem dX10_copyFrom_48 : decode cX10_copyFrom 48 = .ok (.putfield 36, 3) := by decide +kernel
theorem dX10_copyFrom_51 : decode cX10_copyFrom 51 = .ok (.aload_n 0, 1) := by decide +kernel
theorem dX10_copyFrom_52 : decode cX10_copyFrom 52 = .ok (.aload_n 1, 1) := by decide +kernel
theorem dX10_copyFrom_53 : decode cX10_copyFrom 53 = .ok (.getfield 39, 3) := by decide +kernel
theorem dX10_copyFrom_56 : decode cX10_copyFrom 56 = .ok (.putfield 39, 3) := by decide +kernel
theorem dX10_copyFrom_59 : decode cX10_copyFrom 59 = .ok (.aload_n 0, 1) := by decide +kernel
theorem dX10_copyFrom_60 : decode cX10_copyFrom 60 = .ok (.aload_n 1, 1) := by decide +kernel
theorem dX10_copyFrom_61 : decode cX10_copyFrom 61 = .ok (.getfield 42, 3) := by decide +kernel
theorem dX10_copyFrom_64 : decode cX10_copyFrom 64 = .ok (.putfield 42, 3) := by decide +kernel
theorem dX10_copyFrom_67 : decode cX10_copyFrom 67 = .ok (.aload_n 0, 1) := by decide +kernel
theorem dX10_copyFrom_68 : decode cX10_copyFrom 68 = .ok (.aload_n 1, 1) := by decide +kernel
theorem dX10_copyFrom_69 : decode cX10_copyFrom 69 = .ok (.getfield 25, 3) := by decide +kernel
theorem dX10_copyFrom_72 : decode cX10_copyFrom 72 = .ok (.putfield 25, 3) := by decide +kernel
theorem dX10_copyFrom_75 : decode cX10_copyFrom 75 = .ok (.aload_n 0, 1) := by decide +kernel
theorem dX10_copyFrom_76 : decode cX10_copyFrom 76 = .ok (.aload_n 1, 1) := by decide +kernel
theorem dX10_copyFrom_77 : decode cX10_copyFrom 77 = .ok (.getfield 45, 3) := by decide +kernel
theorem dX10_copyFrom_80 : decode cX10_copyFrom 80 = .ok (.putfield 45, 3) := by decide +kernel
theorem dX10_copyFrom_83 : decode cX10_copyFrom 83 = .ok (.aload_n 0, 1) := by decide +kernel
theorem dX10_copyFrom_84 : decode cX10_copyFrom 84 = .ok (.aload_n 1, 1) := by decide +kernel
theorem dX10_copyFrom_85 : decode cX10_copyFrom 85 = .ok (.getfield 48, 3) := by decide +kernel
theorem dX10_copyFrom_88 : decode cX10_copyFrom 88 = .ok (.putfield 48, 3) := by decide +kernel
theorem dX10_copyFrom_91 : decode cX10_copyFrom 91 = .ok (.aload_n 0, 1) := by decide +kernel
theorem dX10_copyFrom_92 : decode cX10_copyFrom 92 = .ok (.aload_n 1, 1) := by decide +kernel
theorem dX10_copyFrom_93 : decode cX10_copyFrom 93 = .ok (.getfield 51, 3) := by decide +kernel
theorem dX10_copyFrom_96 : decode cX10_copyFrom 96 = .ok (.putfield 51, 3) := by decide +kernel
theorem dX10_copyFrom_99 : decode cX10_copyFrom 99 = .ok (.return_, 1) := by decide +kernel
theorem dX10_hasMember_0 : decode cX10_hasMember 0 = .ok (.iload_n 1, 1) := by decide +kernel
theorem dX10_hasMember_1 : decode cX10_hasMember 1 = .ok (.ifCond .lt 15, 3) := by decide +kernel
theorem dX10_hasMember_4 : decode cX10_hasMember 4 = .ok (.iload_n 1, 1) := by decide +kernel
theorem dX10_hasMember_5 : decode cX10_hasMember 5 = .ok (.aload_n 0, 1) := by decide +kernel
theorem dX10_hasMember_6 : decode cX10_hasMember 6 = .ok (.getfield 36, 3) := by decide +kernel
theorem dX10_hasMember_9 : decode cX10_hasMember 9 = .ok (.if_icmp .ge 7, 3) := by decide +kernel
theorem dX10_hasMember_12 : decode cX10_hasMember 12 = .ok (.iconst 1, 1) := by decide +kernel
theorem dX10_hasMember_13 : decode cX10_hasMember 13 = .ok (.goto 4, 3) := by decide +kernel
theorem dX10_hasMember_16 : decode cX10_hasMember 16 = .ok (.iconst 0, 1) := by decide +kernel
theorem dX10_hasMember_17 : decode cX10_hasMember 17 = .ok (.ireturn, 1) := by decide +kernel
theorem dX10_loyalCount_0 : decode cX10_loyalCount 0 = .ok (.iconst 0, 1) := by decide +kernel
theorem dX10_loyalCount_1 : decode cX10_loyalCount 1 = .ok (.istore_n 1, 1) := by decide +kernel
theorem dX10_loyalCount_2 : decode cX10_loyalCount 2 = .ok (.iconst 0, 1) := by decide +kernel
theorem dX10_loyalCount_3 : decode cX10_loyalCount 3 = .ok (.istore_n 2, 1) := by decide +kernel
theorem dX10_loyalCount_4 : decode cX10_loyalCount 4 = .ok (.iload_n 2, 1) := by decide +kernel
theorem dX10_loyalCount_5 : decode cX10_loyalCount 5 = .ok (.aload_n 0, 1) := by decide +kernel
theorem dX10_loyalCount_6 : decode cX10_loyalCount 6 = .ok (.getfield 36, 3) := by decide +kernel
theorem dX10_loyalCount_9 : decode cX10_loyalCount 9 = .ok (.if_icmp .ge 29, 3) := by decide +kernel
theorem dX10_loyalCount_12 : decode cX10_loyalCount 12 = .ok (.iload_n 1, 1) := by decide +kernel
theorem dX10_loyalCount_13 : decode cX10_loyalCount 13 = .ok (.aload_n 0, 1) := by decide +kernel
theorem dX10_loyalCount_14 : decode cX10_loyalCount 14 = .ok (.getfield 11, 3) := by decide +kernel
theorem dX10_loyalCount_17 : decode cX10_loyalCount 17 = .ok (.iload_n 2, 1) := by decide +kernel
theorem dX10_loyalCount_18 : decode cX10_loyalCount 18 = .ok (.aaload, 1) := by decide +kernel
theorem dX10_loyalCount_19 : decode cX10_loyalCount 19 = .ok (.invokevirtual 54, 3) := by decide +kernel
theorem dX10_loyalCount_22 : decode cX10_loyalCount 22 = .ok (.ifCond .eq 7, 3) := by decide +kernel
theorem dX10_loyalCount_25 : decode cX10_loyalCount 25 = .ok (.iconst 1, 1) := by decide +kernel
theorem dX10_loyalCount_26 : decode cX10_loyalCount 26 = .ok (.goto 4, 3) := by decide +kernel
theorem dX10_loyalCount_29 : decode cX10_loyalCount 29 = .ok (.iconst 0, 1) := by decide +kernel
theorem dX10_loyalCount_30 : decode cX10_loyalCount 30 = .ok (.iadd, 1) := by decide +kernel
theorem dX10_loyalCount_31 : decode cX10_loyalCount 31 = .ok (.istore_n 1, 1) := by decide +kernel
theorem dX10_loyalCount_32 : decode cX10_loyalCount 32 = .ok (.iinc 2 1, 3) := by decide +kernel
theorem dX10_loyalCount_35 : decode cX10_loyalCount 35 = .ok (.goto (-31), 3) := by decide +kernel
theorem dX10_loyalCount_38 : decode cX10_loyalCount 38 = .ok (.iload_n 1, 1) := by decide +kernel
theorem dX10_loyalCount_39 : decode cX10_loyalCount 39 = .ok (.ireturn, 1) := by decide +kernel
theorem dX10_activeSet_0 : decode cX10_activeSet 0 = .ok (.iconst 0, 1) := by decide +kernel
theorem dX10_activeSet_1 : decode cX10_activeSet 1 = .ok (.istore_n 1, 1) := by decide +kernel
theorem dX10_activeSet_2 : decode cX10_activeSet 2 = .ok (.iconst 0, 1) := by decide +kernel
theorem dX10_activeSet_3 : decode cX10_activeSet 3 = .ok (.istore_n 2, 1) := by decide +kernel
theorem dX10_activeSet_4 : decode cX10_activeSet 4 = .ok (.iload_n 2, 1) := by decide +kernel
theorem dX10_activeSet_5 : decode cX10_activeSet 5 = .ok (.aload_n 0, 1) := by decide +kernel
theorem dX10_activeSet_6 : decode cX10_activeSet 6 = .ok (.getfield 36, 3) := by decide +kernel
theorem dX10_activeSet_9 : decode cX10_activeSet 9 = .ok (.if_icmp .ge 31, 3) := by decide +kernel
theorem dX10_activeSet_12 : decode cX10_activeSet 12 = .ok (.iload_n 1, 1) := by decide +kernel
theorem dX10_activeSet_13 : decode cX10_activeSet 13 = .ok (.aload_n 0, 1) := by decide +kernel
theorem dX10_activeSet_14 : decode cX10_activeSet 14 = .ok (.getfield 11, 3) := by decide +kernel
theorem dX10_activeSet_17 : decode cX10_activeSet 17 = .ok (.iload_n 2, 1) := by decide +kernel
theorem dX10_activeSet_18 : decode cX10_activeSet 18 = .ok (.aaload, 1) := by decide +kernel
theorem dX10_activeSet_19 : decode cX10_activeSet 19 = .ok (.invokevirtual 58, 3) := by decide +kernel
theorem dX10_activeSet_22 : decode cX10_activeSet 22 = .ok (.ifCond .eq 9, 3) := by decide +kernel
theorem dX10_activeSet_25 : decode cX10_activeSet 25 = .ok (.iconst 1, 1) := by decide +kernel
theorem dX10_activeSet_26 : decode cX10_activeSet 26 = .ok (.iload_n 2, 1) := by decide +kernel
theorem dX10_activeSet_27 : decode cX10_activeSet 27 = .ok (.ishl, 1) := by decide +kernel
theorem dX10_activeSet_28 : decode cX10_activeSet 28 = .ok (.goto 4, 3) := by decide +kernel
theorem dX10_activeSet_31 : decode cX10_activeSet 31 = .ok (.iconst 0, 1) := by decide +kernel
theorem dX10_activeSet_32 : decode cX10_activeSet 32 = .ok (.ior, 1) := by decide +kernel
theorem dX10_activeSet_33 : decode cX10_activeSet 33 = .ok (.istore_n 1, 1) := by decide +kernel
theorem dX10_activeSet_34 : decode cX10_activeSet 34 = .ok (.iinc 2 1, 3) := by decide +kernel
theorem dX10_activeSet_37 : decode cX10_activeSet 37 = .ok (.goto (-33), 3) := by decide +kernel
theorem dX10_activeSet_40 : decode cX10_activeSet 40 = .ok (.iload_n 1, 1) := by decide +kernel
theorem dX10_activeSet_41 : decode cX10_activeSet 41 = .ok (.ireturn, 1) := by decide +kernel
theorem dX10_membersAheadOf_0 : decode cX10_membersAheadOf 0 = .ok (.iconst 0, 1) := by decide +kernel
theorem dX10_membersAheadOf_1 : decode cX10_membersAheadOf 1 = .ok (.istore_n 2, 1) := by decide +kernel
theorem dX10_membersAheadOf_2 : decode cX10_membersAheadOf 2 = .ok (.iconst 0, 1) := by decide +kernel
theorem dX10_membersAheadOf_3 : decode cX10_membersAheadOf 3 = .ok (.istore_n 3, 1) := by decide +kernel
theorem dX10_membersAheadOf_4 : decode cX10_membersAheadOf 4 = .ok (.iload_n 3, 1) := by decide +kernel
theorem dX10_membersAheadOf_5 : decode cX10_membersAheadOf 5 = .ok (.aload_n 0, 1) := by decide +kernel
theorem dX10_membersAheadOf_6 : decode cX10_membersAheadOf 6 = .ok (.getfield 36, 3) := by decide +kernel
theorem dX10_membersAheadOf_9 : decode cX10_membersAheadOf 9 = .ok (.if_icmp .ge 26, 3) := by decide +kernel
theorem dX10_membersAheadOf_12 : decode cX10_membersAheadOf 12 = .ok (.iload_n 2, 1) := by decide +kernel
theorem dX10_membersAheadOf_13 : decode cX10_membersAheadOf 13 = .ok (.aload_n 0, 1) := by decide +kernel
theorem dX10_membersAheadOf_14 : decode cX10_membersAheadOf 14 = .ok (.iload_n 3, 1) := by decide +kernel
theorem dX10_membersAheadOf_15 : decode cX10_membersAheadOf 15 = .ok (.iload_n 1, 1) := by decide +kernel
theorem dX10_membersAheadOf_16 : decode cX10_membersAheadOf 16 = .ok (.invokevirtual 61, 3) := by decide +kernel
theorem dX10_membersAheadOf_19 : decode cX10_membersAheadOf 19 = .ok (.ifCond .eq 7, 3) := by decide +kernel
theorem dX10_membersAheadOf_22 : decode cX10_membersAheadOf 22 = .ok (.iconst 1, 1) := by decide +kernel
theorem dX10_membersAheadOf_23 : decode cX10_membersAheadOf 23 = .ok (.goto 4, 3) := by decide +kernel
theorem dX10_membersAheadOf_26 : decode cX10_membersAheadOf 26 = .ok (.iconst 0, 1) := by decide +kernel
theorem dX10_membersAheadOf_27 : decode cX10_membersAheadOf 27 = .ok (.iadd, 1) := by decide +kernel
theorem dX10_membersAheadOf_28 : decode cX10_membersAheadOf 28 = .ok (.istore_n 2, 1) := by decide +kernel
theorem dX10_membersAheadOf_29 : decode cX10_membersAheadOf 29 = .ok (.iinc 3 1, 3) := by decide +kernel
theorem dX10_membersAheadOf_32 : decode cX10_membersAheadOf 32 = .ok (.goto (-28), 3) := by decide +kernel
theorem dX10_membersAheadOf_35 : decode cX10_membersAheadOf 35 = .ok (.iload_n 2, 1) := by decide +kernel
theorem dX10_membersAheadOf_36 : decode cX10_membersAheadOf 36 = .ok (.ireturn, 1) := by decide +kernel
theorem dX10_isAhead_0 : decode cX10_isAhead 0 = .ok (.aload_n 0, 1) := by decide +kernel
theorem dX10_isAhead_1 : decode cX10_isAhead 1 = .ok (.getfield 11, 3) := by decide +kernel
theorem dX10_isAhead_4 : decode cX10_isAhead 4 = .ok (.iload_n 1, 1) := by decide +kernel
theorem dX10_isAhead_5 : decode cX10_isAhead 5 = .ok (.aaload, 1) := by decide +kernel
theorem dX10_isAhead_6 : decode cX10_isAhead 6 = .ok (.astore_n 3, 1) := by decide +kernel
theorem dX10_isAhead_7 : decode cX10_isAhead 7 = .ok (.aload_n 0, 1) := by decide +kernel
theorem dX10_isAhead_8 : decode cX10_isAhead 8 = .ok (.getfield 11, 3) := by decide +kernel
theorem dX10_isAhead_11 : decode cX10_isAhead 11 = .ok (.iload_n 2, 1) := by decide +kernel
theorem dX10_isAhead_12 : decode cX10_isAhead 12 = .ok (.aaload, 1) := by decide +kernel
theorem dX10_isAhead_13 : decode cX10_isAhead 13 = .ok (.astore 4, 2) := by decide +kernel
theorem dX10_isAhead_15 : decode cX10_isAhead 15 = .ok (.aload_n 3, 1) := by decide +kernel
theorem dX10_isAhead_16 : decode cX10_isAhead 16 = .ok (.invokevirtual 65, 3) := by decide +kernel
theorem dX10_isAhead_19 : decode cX10_isAhead 19 = .ok (.aload 4, 2) := by decide +kernel
theorem dX10_isAhead_21 : decode cX10_isAhead 21 = .ok (.invokevirtual 65, 3) := by decide +kernel
theorem dX10_isAhead_24 : decode cX10_isAhead 24 = .ok (.if_icmp .eq 21, 3) := by decide +kernel
theorem dX10_isAhead_27 : decode cX10_isAhead 27 = .ok (.aload_n 3, 1) := by decide +kernel
theorem dX10_isAhead_28 : decode cX10_isAhead 28 = .ok (.invokevirtual 65, 3) := by decide +kernel
theorem dX10_isAhead_31 : decode cX10_isAhead 31 = .ok (.aload 4, 2) := by decide +kernel
theorem dX10_isAhead_33 : decode cX10_isAhead 33 = .ok (.invokevirtual 65, 3) := by decide +kernel
theorem dX10_isAhead_36 : decode cX10_isAhead 36 = .ok (.if_icmp .le 7, 3) := by decide +kernel
theorem dX10_isAhead_39 : decode cX10_isAhead 39 = .ok (.iconst 1, 1) := by decide +kernel
theorem dX10_isAhead_40 : decode cX10_isAhead 40 = .ok (.goto 4, 3) := by decide +kernel
theorem dX10_isAhead_43 : decode cX10_isAhead 43 = .ok (.iconst 0, 1) := by decide +kernel
theorem dX10_isAhead_44 : decode cX10_isAhead 44 = .ok (.ireturn, 1) := by decide +kernel
theorem dX10_isAhead_45 : decode cX10_isAhead 45 = .ok (.aload_n 3, 1) := by decide +kernel
theorem dX10_isAhead_46 : decode cX10_isAhead 46 = .ok (.getfield 69, 3) := by decide +kernel
theorem dX10_isAhead_49 : decode cX10_isAhead 49 = .ok (.aload 4, 2) := by decide +kernel
theorem dX10_isAhead_51 : decode cX10_isAhead 51 = .ok (.getfield 69, 3) := by decide +kernel
theorem dX10_isAhead_54 : decode cX10_isAhead 54 = .ok (.if_icmp .eq 21, 3) := by decide +kernel
theorem dX10_isAhead_57 : decode cX10_isAhead 57 = .ok (.aload_n 3, 1) := by decide +kernel
theorem dX10_isAhead_58 : decode cX10_isAhead 58 = .ok (.getfield 69, 3) := by decide +kernel
theorem dX10_isAhead_61 : decode cX10_isAhead 61 = .ok (.aload 4, 2) := by decide +kernel
theorem dX10_isAhead_63 : decode cX10_isAhead 63 = .ok (.getfield 69, 3) := by decide +kernel
theorem dX10_isAhead_66 : decode cX10_isAhead 66 = .ok (.if_icmp .le 7, 3) := by decide +kernel
theorem dX10_isAhead_69 : decode cX10_isAhead 69 = .ok (.iconst 1, 1) := by decide +kernel
theorem dX10_isAhead_70 : decode cX10_isAhead 70 = .ok (.goto 4, 3) := by decide +kernel
theorem dX10_isAhead_73 : decode cX10_isAhead 73 = .ok (.iconst 0, 1) := by decide +kernel
theorem dX10_isAhead_74 : decode cX10_isAhead 74 = .ok (.ireturn, 1) := by decide +kernel
theorem dX10_isAhead_75 : decode cX10_isAhead 75 = .ok (.iload_n 1, 1) := by decide +kernel
theorem dX10_isAhead_76 : decode cX10_isAhead 76 = .ok (.iload_n 2, 1) := by decide +kernel
theorem dX10_isAhead_77 : decode cX10_isAhead 77 = .ok (.if_icmp .ge 7, 3) := by decide +kernel
theorem dX10_isAhead_80 : decode cX10_isAhead 80 = .ok (.iconst 1, 1) := by decide +kernel
theorem dX10_isAhead_81 : decode cX10_isAhead 81 = .ok (.goto 4, 3) := by decide +kernel
theorem dX10_isAhead_84 : decode cX10_isAhead 84 = .ok (.iconst 0, 1) := by decide +kernel
theorem dX10_isAhead_85 : decode cX10_isAhead 85 = .ok (.ireturn, 1) := by decide +kernel
theorem dX11_init_0 : decode cX11_init 0 = .ok (.aload_n 0, 1) := by decide +kernel
theorem dX11_init_1 : decode cX11_init 1 = .ok (.invokespecial 3, 3) := by decide +kernel
theorem dX11_init_4 : decode cX11_init 4 = .ok (.aload_n 0, 1) := by decide +kernel
theorem dX11_init_5 : decode cX11_init 5 = .ok (.sipush 141, 3) := by decide +kernel
theorem dX11_init_8 : decode cX11_init 8 = .ok (.newarray .int, 2) := by decide +kernel
theorem dX11_init_10 : decode cX11_init 10 = .ok (.putfield 9, 3) := by decide +kernel
theorem dX11_init_13 : decode cX11_init 13 = .ok (.return_, 1) := by decide +kernel
theorem dX11_winners_0 : decode cX11_winners 0 = .ok (.aload_n 1, 1) := by decide +kernel
theorem dX11_winners_1 : decode cX11_winners 1 = .ok (.invokevirtual 15, 3) := by decide +kernel
theorem dX11_winners_4 : decode cX11_winners 4 = .ok (.istore_n 2, 1) := by decide +kernel
theorem dX11_winners_5 : decode cX11_winners 5 = .ok (.iconst 0, 1) := by decide +kernel
theorem dX11_winners_6 : decode cX11_winners 6 = .ok (.istore_n 3, 1) := by decide +kernel
theorem dX11_winners_7 : decode cX11_winners 7 = .ok (.iconst 0, 1) := by decide +kernel
theorem dX11_winners_8 : decode cX11_winners 8 = .ok (.istore 4, 2) := by decide +kernel
theorem dX11_winners_10 : decode cX11_winners 10 = .ok (.iload 4, 2) := by decide +kernel
theorem dX11_winners_12 : decode cX11_winners 12 = .ok (.iconst 1, 1) := by decide +kernel
theorem dX11_winners_13 : decode cX11_winners 13 = .ok (.aload_n 1, 1) := by decide +kernel
theorem dX11_winners_14 : decode cX11_winners 14 = .ok (.getfield 21, 3) := by decide +kernel
theorem dX11_winners_17 : decode cX11_winners 17 = .ok (.ishl, 1) := by decide +kernel
theorem dX11_winners_18 : decode cX11_winners 18 = .ok (.if_icmp .ge 34, 3) := by decide +kernel
theorem dX11_winners_21 : decode cX11_winners 21 = .ok (.iload 4, 2) := by decide +kernel
theorem dX11_winners_23 : decode cX11_winners 23 = .ok (.iload_n 2, 1) := by decide +kernel
theorem dX11_winners_24 : decode cX11_winners 24 = .ok (.iconst (-1), 1) := by decide +kernel
theorem dX11_winners_25 : decode cX11_winners 25 = .ok (.ixor, 1) := by decide +kernel
theorem dX11_winners_26 : decode cX11_winners 26 = .ok (.iand, 1) := by decide +kernel
theorem dX11_winners_27 : decode cX11_winners 27 = .ok (.ifCond .ne 19, 3) := by decide +kernel
theorem dX11_winners_30 : decode cX11_winners 30 = .ok (.aload_n 1, 1) := by decide +kernel
theorem dX11_winners_31 : decode cX11_winners 31 = .ok (.iload 4, 2) := by decide +kernel
theorem dX11_winners_33 : decode cX11_winners 33 = .ok (.invokestatic 25, 3) := by decide +kernel
theorem dX11_winners_36 : decode cX11_winners 36 = .ok (.aload_n 1, 1) := by decide +kernel
theorem dX11_winners_37 : decode cX11_winners 37 = .ok (.getfield 29, 3) := by decide +kernel
theorem dX11_winners_40 : decode cX11_winners 40 = .ok (.if_icmp .lt 6, 3) := by decide +kernel
theorem dX11_winners_43 : decode cX11_winners 43 = .ok (.iinc 3 1, 3) := by decide +kernel
theorem dX11_winners_46 : decode cX11_winners 46 = .ok (.iinc 4 1, 3) := by decide +kernel
theorem dX11_winners_49 : decode cX11_winners 49 = .ok (.goto (-39), 3) := by decide +kernel
theorem dX11_winners_52 : decode cX11_winners 52 = .ok (.iload_n 3, 1) := by decide +kernel
theorem dX11_winners_53 : decode cX11_winners 53 = .ok (.ireturn, 1) := by decide +kernel
theorem dX11_swingsBySets_0 : decode cX11_swingsBySets 0 = .ok (.aload_n 1, 1) := by decide +kernel
theorem dX11_swingsBySets_1 : decode cX11_swingsBySets 1 = .ok (.invokevirtual 15, 3) := by decide +kernel
theorem dX11_swingsBySets_4 : decode cX11_swingsBySets 4 = .ok (.iconst 1, 1) := by decide +kernel
theorem dX11_swingsBySets_5 : decode cX11_swingsBySets 5 = .ok (.iload_n 2, 1) := by decide +kernel
theorem dX11_swingsBySets_6 : decode cX11_swingsBySets 6 = .ok (.ishl, 1) := by decide +kernel
theorem dX11_swingsBySets_7 : decode cX11_swingsBySets 7 = .ok (.iconst (-1), 1) := by decide +kernel
theorem dX11_swingsBySets_8 : decode cX11_swingsBySets 8 = .ok (.ixor, 1) := by decide +kernel
theorem dX11_swingsBySets_9 : decode cX11_swingsBySets 9 = .ok (.iand, 1) := by decide +kernel
theorem dX11_swingsBySets_10 : decode cX11_swingsBySets 10 = .ok (.istore_n 3, 1) := by decide +kernel
theorem dX11_swingsBySets_11 : decode cX11_swingsBySets 11 = .ok (.iconst 0, 1) := by decide +kernel
theorem dX11_swingsBySets_12 : decode cX11_swingsBySets 12 = .ok (.istore 4, 2) := by decide +kernel
theorem dX11_swingsBySets_14 : decode cX11_swingsBySets 14 = .ok (.iconst 0, 1) := by decide +kernel
theorem dX11_swingsBySets_15 : decode cX11_swingsBySets 15 = .ok (.istore 5, 2) := by decide +kernel
theorem dX11_swingsBySets_17 : decode cX11_swingsBySets 17 = .ok (.iload 5, 2) := by decide +kernel
theorem dX11_swingsBySets_19 : decode cX11_swingsBySets 19 = .ok (.iconst 1, 1) := by decide +kernel
theorem dX11_swingsBySets_20 : decode cX11_swingsBySets 20 = .ok (.aload_n 1, 1) := by decide +kernel
theorem dX11_swingsBySets_21 : decode cX11_swingsBySets 21 = .ok (.getfield 21, 3) := by decide +kernel
theorem dX11_swingsBySets_24 : decode cX11_swingsBySets 24 = .ok (.ishl, 1) := by decide +kernel
theorem dX11_swingsBySets_25 : decode cX11_swingsBySets 25 = .ok (.if_icmp .ge 35, 3) := by decide +kernel
theorem dX11_swingsBySets_28 : decode cX11_swingsBySets 28 = .ok (.iload 5, 2) := by decide +kernel
theorem dX11_swingsBySets_30 : decode cX11_swingsBySets 30 = .ok (.iload_n 3, 1) := by decide +kernel
theorem dX11_swingsBySets_31 : decode cX11_swingsBySets 31 = .ok (.iconst (-1), 1) := by decide +kernel
theorem dX11_swingsBySets_32 : decode cX11_swingsBySets 32 = .ok (.ixor, 1) := by decide +kernel
theorem dX11_swingsBySets_33 : decode cX11_swingsBySets 33 = .ok (.iand, 1) := by decide +kernel
theorem dX11_swingsBySets_34 : decode cX11_swingsBySets 34 = .ok (.ifCond .ne 20, 3) := by decide +kernel
theorem dX11_swingsBySets_37 : decode cX11_swingsBySets 37 = .ok (.aload_n 1, 1) := by decide +kernel
theorem dX11_swingsBySets_38 : decode cX11_swingsBySets 38 = .ok (.aload_n 1, 1) := by decide +kernel
theorem dX11_swingsBySets_39 : decode cX11_swingsBySets 39 = .ok (.iload 5, 2) := by decide +kernel
theorem dX11_swingsBySets_41 : decode cX11_swingsBySets 41 = .ok (.invokestatic 25, 3) := by decide +kernel
theorem dX11_swingsBySets_44 : decode cX11_swingsBySets 44 = .ok (.iload_n 2, 1) := by decide +kernel
theorem dX11_swingsBySets_45 : decode cX11_swingsBySets 45 = .ok (.invokestatic 32, 3) := by decide +kernel
theorem dX11_swingsBySets_48 : decode cX11_swingsBySets 48 = .ok (.ifCond .eq 6, 3) := by decide +kernel
theorem dX11_swingsBySets_51 : decode cX11_swingsBySets 51 = .ok (.iinc 4 1, 3) := by decide +kernel
theorem dX11_swingsBySets_54 : decode cX11_swingsBySets 54 = .ok (.iinc 5 1, 3) := by decide +kernel
theorem dX11_swingsBySets_57 : decode cX11_swingsBySets 57 = .ok (.goto (-40), 3) := by decide +kernel
theorem dX11_swingsBySets_60 : decode cX11_swingsBySets 60 = .ok (.iload 4, 2) := by decide +kernel
theorem dX11_swingsBySets_62 : decode cX11_swingsBySets 62 = .ok (.ireturn, 1) := by decide +kernel
theorem dX11_swingsByWays_0 : decode cX11_swingsByWays 0 = .ok (.aload_n 0, 1) := by decide +kernel
theorem dX11_swingsByWays_1 : decode cX11_swingsByWays 1 = .ok (.aload_n 1, 1) := by decide +kernel
theorem dX11_swingsByWays_2 : decode cX11_swingsByWays 2 = .ok (.aload_n 1, 1) := by decide +kernel
theorem dX11_swingsByWays_3 : decode cX11_swingsByWays 3 = .ok (.invokevirtual 15, 3) := by decide +kernel
theorem dX11_swingsByWays_6 : decode cX11_swingsByWays 6 = .ok (.iconst 1, 1) := by decide +kernel
theorem dX11_swingsByWays_7 : decode cX11_swingsByWays 7 = .ok (.iload_n 2, 1) := by decide +kernel
theorem dX11_swingsByWays_8 : decode cX11_swingsByWays 8 = .ok (.ishl, 1) := by decide +kernel
theorem dX11_swingsByWays_9 : decode cX11_swingsByWays 9 = .ok (.iconst (-1), 1) := by decide +kernel
theorem dX11_swingsByWays_10 : decode cX11_swingsByWays 10 = .ok (.ixor, 1) := by decide +kernel
theorem dX11_swingsByWays_11 : decode cX11_swingsByWays 11 = .ok (.iand, 1) := by decide +kernel
theorem dX11_swingsByWays_12 : decode cX11_swingsByWays 12 = .ok (.invokevirtual 36, 3) := by decide +kernel
theorem dX11_swingsByWays_15 : decode cX11_swingsByWays 15 = .ok (.iconst 0, 1) := by decide +kernel
theorem dX11_swingsByWays_16 : decode cX11_swingsByWays 16 = .ok (.istore_n 3, 1) := by decide +kernel
theorem dX11_swingsByWays_17 : decode cX11_swingsByWays 17 = .ok (.iconst 0, 1) := by decide +kernel
theorem dX11_swingsByWays_18 : decode cX11_swingsByWays 18 = .ok (.istore 4, 2) := by decide +kernel
theorem dX11_swingsByWays_20 : decode cX11_swingsByWays 20 = .ok (.iload 4, 2) := by decide +kernel
theorem dX11_swingsByWays_22 : decode cX11_swingsByWays 22 = .ok (.aload_n 0, 1) := by decide +kernel
theorem dX11_swingsByWays_23 : decode cX11_swingsByWays 23 = .ok (.getfield 9, 3) := by decide +kernel
theorem dX11_swingsByWays_26 : decode cX11_swingsByWays 26 = .ok (.arraylength, 1) := by decide +kernel
theorem dX11_swingsByWays_27 : decode cX11_swingsByWays 27 = .ok (.if_icmp .ge 29, 3) := by decide +kernel
theorem dX11_swingsByWays_30 : decode cX11_swingsByWays 30 = .ok (.aload_n 1, 1) := by decide +kernel
theorem dX11_swingsByWays_31 : decode cX11_swingsByWays 31 = .ok (.iload 4, 2) := by decide +kernel
theorem dX11_swingsByWays_33 : decode cX11_swingsByWays 33 = .ok (.iload_n 2, 1) := by decide +kernel
theorem dX11_swingsByWays_34 : decode cX11_swingsByWays 34 = .ok (.invokestatic 32, 3) := by decide +kernel
theorem dX11_swingsByWays_37 : decode cX11_swingsByWays 37 = .ok (.ifCond .eq 13, 3) := by decide +kernel
theorem dX11_swingsByWays_40 : decode cX11_swingsByWays 40 = .ok (.iload_n 3, 1) := by decide +kernel
theorem dX11_swingsByWays_41 : decode cX11_swingsByWays 41 = .ok (.aload_n 0, 1) := by decide +kernel
theorem dX11_swingsByWays_42 : decode cX11_swingsByWays 42 = .ok (.getfield 9, 3) := by decide +kernel
theorem dX11_swingsByWays_45 : decode cX11_swingsByWays 45 = .ok (.iload 4, 2) := by decide +kernel
theorem dX11_swingsByWays_47 : decode cX11_swingsByWays 47 = .ok (.iaload, 1) := by decide +kernel
theorem dX11_swingsByWays_48 : decode cX11_swingsByWays 48 = .ok (.iadd, 1) := by decide +kernel
theorem dX11_swingsByWays_49 : decode cX11_swingsByWays 49 = .ok (.istore_n 3, 1) := by decide +kernel
theorem dX11_swingsByWays_50 : decode cX11_swingsByWays 50 = .ok (.iinc 4 1, 3) := by decide +kernel
theorem dX11_swingsByWays_53 : decode cX11_swingsByWays 53 = .ok (.goto (-33), 3) := by decide +kernel
theorem dX11_swingsByWays_56 : decode cX11_swingsByWays 56 = .ok (.iload_n 3, 1) := by decide +kernel
theorem dX11_swingsByWays_57 : decode cX11_swingsByWays 57 = .ok (.ireturn, 1) := by decide +kernel
theorem dX11_differenceBySets_0 : decode cX11_differenceBySets 0 = .ok (.aload_n 1, 1) := by decide +kernel
theorem dX11_differenceBySets_1 : decode cX11_differenceBySets 1 = .ok (.invokevirtual 15, 3) := by decide +kernel
theorem dX11_differenceBySets_4 : decode cX11_differenceBySets 4 = .ok (.istore_n 2, 1) := by decide +kernel
theorem dX11_differenceBySets_5 : decode cX11_differenceBySets 5 = .ok (.aload_n 1, 1) := by decide +kernel
theorem dX11_differenceBySets_6 : decode cX11_differenceBySets 6 = .ok (.iload_n 2, 1) := by decide +kernel
theorem dX11_differenceBySets_7 : decode cX11_differenceBySets 7 = .ok (.invokestatic 25, 3) := by decide +kernel
theorem dX11_differenceBySets_10 : decode cX11_differenceBySets 10 = .ok (.istore_n 3, 1) := by decide +kernel
theorem dX11_differenceBySets_11 : decode cX11_differenceBySets 11 = .ok (.iload_n 3, 1) := by decide +kernel
theorem dX11_differenceBySets_12 : decode cX11_differenceBySets 12 = .ok (.istore 4, 2) := by decide +kernel
theorem dX11_differenceBySets_14 : decode cX11_differenceBySets 14 = .ok (.iconst 0, 1) := by decide +kernel
theorem dX11_differenceBySets_15 : decode cX11_differenceBySets 15 = .ok (.istore 5, 2) := by decide +kernel
theorem dX11_differenceBySets_17 : decode cX11_differenceBySets 17 = .ok (.iload 5, 2) := by decide +kernel
theorem dX11_differenceBySets_19 : decode cX11_differenceBySets 19 = .ok (.iconst 1, 1) := by decide +kernel
theorem dX11_differenceBySets_20 : decode cX11_differenceBySets 20 = .ok (.aload_n 1, 1) := by decide +kernel
theorem dX11_differenceBySets_21 : decode cX11_differenceBySets 21 = .ok (.getfield 21, 3) := by decide +kernel
theorem dX11_differenceBySets_24 : decode cX11_differenceBySets 24 = .ok (.ishl, 1) := by decide +kernel
theorem dX11_differenceBySets_25 : decode cX11_differenceBySets 25 = .ok (.if_icmp .ge 38, 3) := by decide +kernel
theorem dX11_differenceBySets_28 : decode cX11_differenceBySets 28 = .ok (.iload 5, 2) := by decide +kernel
theorem dX11_differenceBySets_30 : decode cX11_differenceBySets 30 = .ok (.iload_n 2, 1) := by decide +kernel
theorem dX11_differenceBySets_31 : decode cX11_differenceBySets 31 = .ok (.iconst (-1), 1) := by decide +kernel
theorem dX11_differenceBySets_32 : decode cX11_differenceBySets 32 = .ok (.ixor, 1) := by decide +kernel
theorem dX11_differenceBySets_33 : decode cX11_differenceBySets 33 = .ok (.iand, 1) := by decide +kernel
theorem dX11_differenceBySets_34 : decode cX11_differenceBySets 34 = .ok (.ifCond .ne 23, 3) := by decide +kernel
theorem dX11_differenceBySets_37 : decode cX11_differenceBySets 37 = .ok (.iload 4, 2) := by decide +kernel
theorem dX11_differenceBySets_39 : decode cX11_differenceBySets 39 = .ok (.iload_n 3, 1) := by decide +kernel
theorem dX11_differenceBySets_40 : decode cX11_differenceBySets 40 = .ok (.iconst 2, 1) := by decide +kernel
theorem dX11_differenceBySets_41 : decode cX11_differenceBySets 41 = .ok (.aload_n 1, 1) := by decide +kernel
theorem dX11_differenceBySets_42 : decode cX11_differenceBySets 42 = .ok (.iload 5, 2) := by decide +kernel
theorem dX11_differenceBySets_44 : decode cX11_differenceBySets 44 = .ok (.invokestatic 25, 3) := by decide +kernel
theorem dX11_differenceBySets_47 : decode cX11_differenceBySets 47 = .ok (.imul, 1) := by decide +kernel
theorem dX11_differenceBySets_48 : decode cX11_differenceBySets 48 = .ok (.isub, 1) := by decide +kernel
theorem dX11_differenceBySets_49 : decode cX11_differenceBySets 49 = .ok (.invokestatic 40, 3) := by decide +kernel
theorem dX11_differenceBySets_52 : decode cX11_differenceBySets 52 = .ok (.invokestatic 46, 3) := by decide +kernel
theorem dX11_differenceBySets_55 : decode cX11_differenceBySets 55 = .ok (.istore 4, 2) := by decide +kernel
theorem dX11_differenceBySets_57 : decode cX11_differenceBySets 57 = .ok (.iinc 5 1, 3) := by decide +kernel
theorem dX11_differenceBySets_60 : decode cX11_differenceBySets 60 = .ok (.goto (-43), 3) := by decide +kernel
theorem dX11_differenceBySets_63 : decode cX11_differenceBySets 63 = .ok (.iload 4, 2) := by decide +kernel
theorem dX11_differenceBySets_65 : decode cX11_differenceBySets 65 = .ok (.ireturn, 1) := by decide +kernel
theorem dX11_differenceBySums_0 : decode cX11_differenceBySums 0 = .ok (.aload_n 1, 1) := by decide +kernel
theorem dX11_differenceBySums_1 : decode cX11_differenceBySums 1 = .ok (.invokevirtual 15, 3) := by decide +kernel
theorem dX11_differenceBySums_4 : decode cX11_differenceBySums 4 = .ok (.istore_n 2, 1) := by decide +kernel
theorem dX11_differenceBySums_5 : decode cX11_differenceBySums 5 = .ok (.aload_n 1, 1) := by decide +kernel
theorem dX11_differenceBySums_6 : decode cX11_differenceBySums 6 = .ok (.iload_n 2, 1) := by decide +kernel
theorem dX11_differenceBySums_7 : decode cX11_differenceBySums 7 = .ok (.invokestatic 25, 3) := by decide +kernel
theorem dX11_differenceBySums_10 : decode cX11_differenceBySums 10 = .ok (.istore_n 3, 1) := by decide +kernel
theorem dX11_differenceBySums_11 : decode cX11_differenceBySums 11 = .ok (.iload_n 3, 1) := by decide +kernel
theorem dX11_differenceBySums_12 : decode cX11_differenceBySums 12 = .ok (.istore 4, 2) := by decide +kernel
theorem dX11_differenceBySums_14 : decode cX11_differenceBySums 14 = .ok (.aload_n 0, 1) := by decide +kernel
theorem dX11_differenceBySums_15 : decode cX11_differenceBySums 15 = .ok (.aload_n 1, 1) := by decide +kernel
theorem dX11_differenceBySums_16 : decode cX11_differenceBySums 16 = .ok (.iload_n 2, 1) := by decide +kernel
theorem dX11_differenceBySums_17 : decode cX11_differenceBySums 17 = .ok (.invokevirtual 36, 3) := by decide +kernel
theorem dX11_differenceBySums_20 : decode cX11_differenceBySums 20 = .ok (.iconst 0, 1) := by decide +kernel
theorem dX11_differenceBySums_21 : decode cX11_differenceBySums 21 = .ok (.istore 5, 2) := by decide +kernel
theorem dX11_differenceBySums_23 : decode cX11_differenceBySums 23 = .ok (.iload 5, 2) := by decide +kernel
theorem dX11_differenceBySums_25 : decode cX11_differenceBySums 25 = .ok (.aload_n 0, 1) := by decide +kernel
theorem dX11_differenceBySums_26 : decode cX11_differenceBySums 26 = .ok (.getfield 9, 3) := by decide +kernel
theorem dX11_differenceBySums_29 : decode cX11_differenceBySums 29 = .ok (.arraylength, 1) := by decide +kernel
theorem dX11_differenceBySums_30 : decode cX11_differenceBySums 30 = .ok (.if_icmp .ge 35, 3) := by decide +kernel
theorem dX11_differenceBySums_33 : decode cX11_differenceBySums 33 = .ok (.aload_n 0, 1) := by decide +kernel
theorem dX11_differenceBySums_34 : decode cX11_differenceBySums 34 = .ok (.getfield 9, 3) := by decide +kernel
theorem dX11_differenceBySums_37 : decode cX11_differenceBySums 37 = .ok (.iload 5, 2) := by decide +kernel
theorem dX11_differenceBySums_39 : decode cX11_differenceBySums 39 = .ok (.iaload, 1) := by decide +kernel
theorem dX11_differenceBySums_40 : decode cX11_differenceBySums 40 = .ok (.ifCond .le 19, 3) := by decide +kernel
theorem dX11_differenceBySums_43 : decode cX11_differenceBySums 43 = .ok (.iload 4, 2) := by decide +kernel
theorem dX11_differenceBySums_45 : decode cX11_differenceBySums 45 = .ok (.iload_n 3, 1) := by decide +kernel
theorem dX11_differenceBySums_46 : decode cX11_differenceBySums 46 = .ok (.iconst 2, 1) := by decide +kernel
theorem dX11_differenceBySums_47 : decode cX11_differenceBySums 47 = .ok (.iload 5, 2) := by decide +kernel
theorem dX11_differenceBySums_49 : decode cX11_differenceBySums 49 = .ok (.imul, 1) := by decide +kernel
theorem dX11_differenceBySums_50 : decode cX11_differenceBySums 50 = .ok (.isub, 1) := by decide +kernel
theorem dX11_differenceBySums_51 : decode cX11_differenceBySums 51 = .ok (.invokestatic 40, 3) := by decide +kernel
theorem dX11_differenceBySums_54 : decode cX11_differenceBySums 54 = .ok (.invokestatic 46, 3) := by decide +kernel
theorem dX11_differenceBySums_57 : decode cX11_differenceBySums 57 = .ok (.istore 4, 2) := by decide +kernel
theorem dX11_differenceBySums_59 : decode cX11_differenceBySums 59 = .ok (.iinc 5 1, 3) := by decide +kernel
theorem dX11_differenceBySums_62 : decode cX11_differenceBySums 62 = .ok (.goto (-39), 3) := by decide +kernel
theorem dX11_differenceBySums_65 : decode cX11_differenceBySums 65 = .ok (.iload 4, 2) := by decide +kernel
theorem dX11_differenceBySums_67 : decode cX11_differenceBySums 67 = .ok (.ireturn, 1) := by decide +kernel
theorem dX11_isSwing_0 : decode cX11_isSwing 0 = .ok (.iload_n 1, 1) := by decide +kernel
theorem dX11_isSwing_1 : decode cX11_isSwing 1 = .ok (.aload_n 0, 1) := by decide +kernel
theorem dX11_isSwing_2 : decode cX11_isSwing 2 = .ok (.getfield 29, 3) := by decide +kernel
theorem dX11_isSwing_5 : decode cX11_isSwing 5 = .ok (.if_icmp .ge 25, 3) := by decide +kernel
theorem dX11_isSwing_8 : decode cX11_isSwing 8 = .ok (.iload_n 1, 1) := by decide +kernel
theorem dX11_isSwing_9 : decode cX11_isSwing 9 = .ok (.aload_n 0, 1) := by decide +kernel
theorem dX11_isSwing_10 : decode cX11_isSwing 10 = .ok (.getfield 50, 3) := by decide +kernel
theorem dX11_isSwing_13 : decode cX11_isSwing 13 = .ok (.iload_n 2, 1) := by decide +kernel
theorem dX11_isSwing_14 : decode cX11_isSwing 14 = .ok (.aaload, 1) := by decide +kernel
theorem dX11_isSwing_15 : decode cX11_isSwing 15 = .ok (.getfield 54, 3) := by decide +kernel
theorem dX11_isSwing_18 : decode cX11_isSwing 18 = .ok (.iadd, 1) := by decide +kernel
theorem dX11_isSwing_19 : decode cX11_isSwing 19 = .ok (.aload_n 0, 1) := by decide +kernel
theorem dX11_isSwing_20 : decode cX11_isSwing 20 = .ok (.getfield 29, 3) := by decide +kernel
theorem dX11_isSwing_23 : decode cX11_isSwing 23 = .ok (.if_icmp .lt 7, 3) := by decide +kernel
theorem dX11_isSwing_26 : decode cX11_isSwing 26 = .ok (.iconst 1, 1) := by decide +kernel
theorem dX11_isSwing_27 : decode cX11_isSwing 27 = .ok (.goto 4, 3) := by decide +kernel
theorem dX11_isSwing_30 : decode cX11_isSwing 30 = .ok (.iconst 0, 1) := by decide +kernel
theorem dX11_isSwing_31 : decode cX11_isSwing 31 = .ok (.ireturn, 1) := by decide +kernel
theorem dX11_votesOf_0 : decode cX11_votesOf 0 = .ok (.iconst 0, 1) := by decide +kernel
theorem dX11_votesOf_1 : decode cX11_votesOf 1 = .ok (.istore_n 2, 1) := by decide +kernel
theorem dX11_votesOf_2 : decode cX11_votesOf 2 = .ok (.iconst 0, 1) := by decide +kernel
theorem dX11_votesOf_3 : decode cX11_votesOf 3 = .ok (.istore_n 3, 1) := by decide +kernel
theorem dX11_votesOf_4 : decode cX11_votesOf 4 = .ok (.iload_n 3, 1) := by decide +kernel
theorem dX11_votesOf_5 : decode cX11_votesOf 5 = .ok (.aload_n 0, 1) := by decide +kernel
theorem dX11_votesOf_6 : decode cX11_votesOf 6 = .ok (.getfield 21, 3) := by decide +kernel
theorem dX11_votesOf_9 : decode cX11_votesOf 9 = .ok (.if_icmp .ge 34, 3) := by decide +kernel
theorem dX11_votesOf_12 : decode cX11_votesOf 12 = .ok (.iload_n 2, 1) := by decide +kernel
theorem dX11_votesOf_13 : decode cX11_votesOf 13 = .ok (.iload_n 1, 1) := by decide +kernel
theorem dX11_votesOf_14 : decode cX11_votesOf 14 = .ok (.iload_n 3, 1) := by decide +kernel
theorem dX11_votesOf_15 : decode cX11_votesOf 15 = .ok (.ishr, 1) := by decide +kernel
theorem dX11_votesOf_16 : decode cX11_votesOf 16 = .ok (.iconst 1, 1) := by decide +kernel
theorem dX11_votesOf_17 : decode cX11_votesOf 17 = .ok (.iand, 1) := by decide +kernel
theorem dX11_votesOf_18 : decode cX11_votesOf 18 = .ok (.iconst 1, 1) := by decide +kernel
theorem dX11_votesOf_19 : decode cX11_votesOf 19 = .ok (.if_icmp .ne 15, 3) := by decide +kernel
theorem dX11_votesOf_22 : decode cX11_votesOf 22 = .ok (.aload_n 0, 1) := by decide +kernel
theorem dX11_votesOf_23 : decode cX11_votesOf 23 = .ok (.getfield 50, 3) := by decide +kernel
theorem dX11_votesOf_26 : decode cX11_votesOf 26 = .ok (.iload_n 3, 1) := by decide +kernel
theorem dX11_votesOf_27 : decode cX11_votesOf 27 = .ok (.aaload, 1) := by decide +kernel
theorem dX11_votesOf_28 : decode cX11_votesOf 28 = .ok (.getfield 54, 3) := by decide +kernel
theorem dX11_votesOf_31 : decode cX11_votesOf 31 = .ok (.goto 4, 3) := by decide +kernel
theorem dX11_votesOf_34 : decode cX11_votesOf 34 = .ok (.iconst 0, 1) := by decide +kernel
theorem dX11_votesOf_35 : decode cX11_votesOf 35 = .ok (.iadd, 1) := by decide +kernel
theorem dX11_votesOf_36 : decode cX11_votesOf 36 = .ok (.istore_n 2, 1) := by decide +kernel
theorem dX11_votesOf_37 : decode cX11_votesOf 37 = .ok (.iinc 3 1, 3) := by decide +kernel
theorem dX11_votesOf_40 : decode cX11_votesOf 40 = .ok (.goto (-36), 3) := by decide +kernel
theorem dX11_votesOf_43 : decode cX11_votesOf 43 = .ok (.iload_n 2, 1) := by decide +kernel
theorem dX11_votesOf_44 : decode cX11_votesOf 44 = .ok (.ireturn, 1) := by decide +kernel
theorem dX11_countWays_0 : decode cX11_countWays 0 = .ok (.iconst 0, 1) := by decide +kernel
theorem dX11_countWays_1 : decode cX11_countWays 1 = .ok (.istore_n 3, 1) := by decide +kernel
theorem dX11_countWays_2 : decode cX11_countWays 2 = .ok (.iload_n 3, 1) := by decide +kernel
theorem dX11_countWays_3 : decode cX11_countWays 3 = .ok (.aload_n 0, 1) := by decide +kernel
theorem dX11_countWays_4 : decode cX11_countWays 4 = .ok (.getfield 9, 3) := by decide +kernel
theorem dX11_countWays_7 : decode cX11_countWays 7 = .ok (.arraylength, 1) := by decide +kernel
theorem dX11_countWays_8 : decode cX11_countWays 8 = .ok (.if_icmp .ge 16, 3) := by decide +kernel
theorem dX11_countWays_11 : decode cX11_countWays 11 = .ok (.aload_n 0, 1) := by decide +kernel
theorem dX11_countWays_12 : decode cX11_countWays 12 = .ok (.getfield 9, 3) := by decide +kernel
theorem dX11_countWays_15 : decode cX11_countWays 15 = .ok (.iload_n 3, 1) := by decide +kernel
theorem dX11_countWays_16 : decode cX11_countWays 16 = .ok (.iconst 0, 1) := by decide +kernel
theorem dX11_countWays_17 : decode cX11_countWays 17 = .ok (.iastore, 1) := by decide +kernel
theorem dX11_countWays_18 : decode cX11_countWays 18 = .ok (.iinc 3 1, 3) := by decide +kernel
theorem dX11_countWays_21 : decode cX11_countWays 21 = .ok (.goto (-19), 3) := by decide +kernel
theorem dX11_countWays_24 : decode cX11_countWays 24 = .ok (.aload_n 0, 1) := by decide +kernel
theorem dX11_countWays_25 : decode cX11_countWays 25 = .ok (.getfield 9, 3) := by decide +kernel
theorem dX11_countWays_28 : decode cX11_countWays 28 = .ok (.iconst 0, 1) := by decide +kernel
theorem dX11_countWays_29 : decode cX11_countWays 29 = .ok (.iconst 1, 1) := by decide +kernel
theorem dX11_countWays_30 : decode cX11_countWays 30 = .ok (.iastore, 1) := by decide +kernel
theorem dX11_countWays_31 : decode cX11_countWays 31 = .ok (.iconst 0, 1) := by decide +kernel
theorem dX11_countWays_32 : decode cX11_countWays 32 = .ok (.istore_n 3, 1) := by decide +kernel
theorem dX11_countWays_33 : decode cX11_countWays 33 = .ok (.iload_n 3, 1) := by decide +kernel
theorem dX11_countWays_34 : decode cX11_countWays 34 = .ok (.aload_n 1, 1) := by decide +kernel
theorem dX11_countWays_35 : decode cX11_countWays 35 = .ok (.getfield 21, 3) := by decide +kernel
theorem dX11_countWays_38 : decode cX11_countWays 38 = .ok (.if_icmp .ge 31, 3) := by decide +kernel
theorem dX11_countWays_41 : decode cX11_countWays 41 = .ok (.iload_n 2, 1) := by decide +kernel
theorem dX11_countWays_42 : decode cX11_countWays 42 = .ok (.iload_n 3, 1) := by decide +kernel
theorem dX11_countWays_43 : decode cX11_countWays 43 = .ok (.ishr, 1) := by decide +kernel
theorem dX11_countWays_44 : decode cX11_countWays 44 = .ok (.iconst 1, 1) := by decide +kernel
theorem dX11_countWays_45 : decode cX11_countWays 45 = .ok (.iand, 1) := by decide +kernel
theorem dX11_countWays_46 : decode cX11_countWays 46 = .ok (.iconst 1, 1) := by decide +kernel
theorem dX11_countWays_47 : decode cX11_countWays 47 = .ok (.if_icmp .ne 16, 3) := by decide +kernel
theorem dX11_countWays_50 : decode cX11_countWays 50 = .ok (.aload_n 0, 1) := by decide +kernel
theorem dX11_countWays_51 : decode cX11_countWays 51 = .ok (.aload_n 1, 1) := by decide +kernel
theorem dX11_countWays_52 : decode cX11_countWays 52 = .ok (.getfield 50, 3) := by decide +kernel
theorem dX11_countWays_55 : decode cX11_countWays 55 = .ok (.iload_n 3, 1) := by decide +kernel
theorem dX11_countWays_56 : decode cX11_countWays 56 = .ok (.aaload, 1) := by decide +kernel
theorem dX11_countWays_57 : decode cX11_countWays 57 = .ok (.getfield 54, 3) := by decide +kernel
theorem dX11_countWays_60 : decode cX11_countWays 60 = .ok (.invokevirtual 59, 3) := by decide +kernel
theorem dX11_countWays_63 : decode cX11_countWays 63 = .ok (.iinc 3 1, 3) := by decide +kernel
theorem dX11_countWays_66 : decode cX11_countWays 66 = .ok (.goto (-33), 3) := by decide +kernel
theorem dX11_countWays_69 : decode cX11_countWays 69 = .ok (.return_, 1) := by decide +kernel
theorem dX11_addVoter_0 : decode cX11_addVoter 0 = .ok (.iload_n 1, 1) := by decide +kernel
theorem dX11_addVoter_1 : decode cX11_addVoter 1 = .ok (.iconst 1, 1) := by decide +kernel
theorem dX11_addVoter_2 : decode cX11_addVoter 2 = .ok (.if_icmp .ge 4, 3) := by decide +kernel
theorem dX11_addVoter_5 : decode cX11_addVoter 5 = .ok (.return_, 1) := by decide +kernel
theorem dX11_addVoter_6 : decode cX11_addVoter 6 = .ok (.aload_n 0, 1) := by decide +kernel
theorem dX11_addVoter_7 : decode cX11_addVoter 7 = .ok (.getfield 9, 3) := by decide +kernel
theorem dX11_addVoter_10 : decode cX11_addVoter 10 = .ok (.arraylength, 1) := by decide +kernel
theorem dX11_addVoter_11 : decode cX11_addVoter 11 = .ok (.iconst 1, 1) := by decide +kernel
theorem dX11_addVoter_12 : decode cX11_addVoter 12 = .ok (.isub, 1) := by decide +kernel
theorem dX11_addVoter_13 : decode cX11_addVoter 13 = .ok (.istore_n 2, 1) := by decide +kernel
theorem dX11_addVoter_14 : decode cX11_addVoter 14 = .ok (.iload_n 2, 1) := by decide +kernel
theorem dX11_addVoter_15 : decode cX11_addVoter 15 = .ok (.iload_n 1, 1) := by decide +kernel
theorem dX11_addVoter_16 : decode cX11_addVoter 16 = .ok (.if_icmp .lt 26, 3) := by decide +kernel
theorem dX11_addVoter_19 : decode cX11_addVoter 19 = .ok (.aload_n 0, 1) := by decide +kernel
theorem dX11_addVoter_20 : decode cX11_addVoter 20 = .ok (.getfield 9, 3) := by decide +kernel
theorem dX11_addVoter_23 : decode cX11_addVoter 23 = .ok (.iload_n 2, 1) := by decide +kernel
theorem dX11_addVoter_24 : decode cX11_addVoter 24 = .ok (.dup2, 1) := by decide +kernel
theorem dX11_addVoter_25 : decode cX11_addVoter 25 = .ok (.iaload, 1) := by decide +kernel
theorem dX11_addVoter_26 : decode cX11_addVoter 26 = .ok (.aload_n 0, 1) := by decide +kernel
theorem dX11_addVoter_27 : decode cX11_addVoter 27 = .ok (.getfield 9, 3) := by decide +kernel
theorem dX11_addVoter_30 : decode cX11_addVoter 30 = .ok (.iload_n 2, 1) := by decide +kernel
theorem dX11_addVoter_31 : decode cX11_addVoter 31 = .ok (.iload_n 1, 1) := by decide +kernel
theorem dX11_addVoter_32 : decode cX11_addVoter 32 = .ok (.isub, 1) := by decide +kernel
theorem dX11_addVoter_33 : decode cX11_addVoter 33 = .ok (.iaload, 1) := by decide +kernel
theorem dX11_addVoter_34 : decode cX11_addVoter 34 = .ok (.iadd, 1) := by decide +kernel
theorem dX11_addVoter_35 : decode cX11_addVoter 35 = .ok (.iastore, 1) := by decide +kernel
theorem dX11_addVoter_36 : decode cX11_addVoter 36 = .ok (.iinc 2 (-1), 3) := by decide +kernel
theorem dX11_addVoter_39 : decode cX11_addVoter 39 = .ok (.goto (-25), 3) := by decide +kernel
theorem dX11_addVoter_42 : decode cX11_addVoter 42 = .ok (.return_, 1) := by decide +kernel
