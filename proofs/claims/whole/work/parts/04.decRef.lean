theorem dX5_init_0 : decode cX5_init 0 = .ok (.aload_n 0, 1) := by decide +kernel
theorem dX5_init_1 : decode cX5_init 1 = .ok (.invokespecial 1, 3) := by decide +kernel
theorem dX5_init_4 : decode cX5_init 4 = .ok (.aload_n 0, 1) := by decide +kernel
theorem dX5_init_5 : decode cX5_init 5 = .ok (.sipush 300, 3) := by decide +kernel
theorem dX5_init_8 : decode cX5_init 8 = .ok (.newarray .int, 2) := by decide +kernel
theorem dX5_init_10 : decode cX5_init 10 = .ok (.putfield 7, 3) := by decide +kernel
theorem dX5_init_13 : decode cX5_init 13 = .ok (.aload_n 0, 1) := by decide +kernel
theorem dX5_init_14 : decode cX5_init 14 = .ok (.sipush 300, 3) := by decide +kernel
theorem dX5_init_17 : decode cX5_init 17 = .ok (.newarray .int, 2) := by decide +kernel
theorem dX5_init_19 : decode cX5_init 19 = .ok (.putfield 13, 3) := by decide +kernel
theorem dX5_init_22 : decode cX5_init 22 = .ok (.aload_n 0, 1) := by decide +kernel
theorem dX5_init_23 : decode cX5_init 23 = .ok (.sipush 1800, 3) := by decide +kernel
theorem dX5_init_26 : decode cX5_init 26 = .ok (.newarray .int, 2) := by decide +kernel
theorem dX5_init_28 : decode cX5_init 28 = .ok (.putfield 16, 3) := by decide +kernel
theorem dX5_init_31 : decode cX5_init 31 = .ok (.aload_n 0, 1) := by decide +kernel
theorem dX5_init_32 : decode cX5_init 32 = .ok (.sipush 600, 3) := by decide +kernel
theorem dX5_init_35 : decode cX5_init 35 = .ok (.newarray .int, 2) := by decide +kernel
theorem dX5_init_37 : decode cX5_init 37 = .ok (.putfield 19, 3) := by decide +kernel
theorem dX5_init_40 : decode cX5_init 40 = .ok (.aload_n 0, 1) := by decide +kernel
theorem dX5_init_41 : decode cX5_init 41 = .ok (.iconst 2, 1) := by decide +kernel
theorem dX5_init_42 : decode cX5_init 42 = .ok (.newarray .boolean, 2) := by decide +kernel
theorem dX5_init_44 : decode cX5_init 44 = .ok (.putfield 22, 3) := by decide +kernel
theorem dX5_init_47 : decode cX5_init 47 = .ok (.aload_n 0, 1) := by decide +kernel
theorem dX5_init_48 : decode cX5_init 48 = .ok (.bipush 80, 2) := by decide +kernel
theorem dX5_init_50 : decode cX5_init 50 = .ok (.newarray .int, 2) := by decide +kernel
theorem dX5_init_52 : decode cX5_init 52 = .ok (.putfield 26, 3) := by decide +kernel
theorem dX5_init_55 : decode cX5_init 55 = .ok (.aload_n 0, 1) := by decide +kernel
theorem dX5_init_56 : decode cX5_init 56 = .ok (.sipush 164, 3) := by decide +kernel
theorem dX5_init_59 : decode cX5_init 59 = .ok (.newarray .int, 2) := by decide +kernel
theorem dX5_init_61 : decode cX5_init 61 = .ok (.putfield 29, 3) := by decide +kernel
theorem dX5_init_64 : decode cX5_init 64 = .ok (.aload_n 0, 1) := by decide +kernel
theorem dX5_init_65 : decode cX5_init 65 = .ok (.getfield 7, 3) := by decide +kernel
theorem dX5_init_68 : decode cX5_init 68 = .ok (.iconst 0, 1) := by decide +kernel
theorem dX5_init_69 : decode cX5_init 69 = .ok (.sipush 366, 3) := by decide +kernel
theorem dX5_init_72 : decode cX5_init 72 = .ok (.iastore, 1) := by decide +kernel
theorem dX5_init_73 : decode cX5_init 73 = .ok (.aload_n 0, 1) := by decide +kernel
theorem dX5_init_74 : decode cX5_init 74 = .ok (.getfield 7, 3) := by decide +kernel
theorem dX5_init_77 : decode cX5_init 77 = .ok (.iconst 1, 1) := by decide +kernel
theorem dX5_init_78 : decode cX5_init 78 = .ok (.bipush 60, 2) := by decide +kernel
theorem dX5_init_80 : decode cX5_init 80 = .ok (.iastore, 1) := by decide +kernel
theorem dX5_init_81 : decode cX5_init 81 = .ok (.aload_n 0, 1) := by decide +kernel
theorem dX5_init_82 : decode cX5_init 82 = .ok (.getfield 7, 3) := by decide +kernel
theorem dX5_init_85 : decode cX5_init 85 = .ok (.iconst 2, 1) := by decide +kernel
theorem dX5_init_86 : decode cX5_init 86 = .ok (.bipush 90, 2) := by decide +kernel
theorem dX5_init_88 : decode cX5_init 88 = .ok (.iastore, 1) := by decide +kernel
theorem dX5_init_89 : decode cX5_init 89 = .ok (.aload_n 0, 1) := by decide +kernel
theorem dX5_init_90 : decode cX5_init 90 = .ok (.getfield 7, 3) := by decide +kernel
theorem dX5_init_93 : decode cX5_init 93 = .ok (.iconst 3, 1) := by decide +kernel
theorem dX5_init_94 : decode cX5_init 94 = .ok (.bipush 30, 2) := by decide +kernel
theorem dX5_init_96 : decode cX5_init 96 = .ok (.iastore, 1) := by decide +kernel
theorem dX5_init_97 : decode cX5_init 97 = .ok (.aload_n 0, 1) := by decide +kernel
theorem dX5_init_98 : decode cX5_init 98 = .ok (.getfield 7, 3) := by decide +kernel
theorem dX5_init_101 : decode cX5_init 101 = .ok (.iconst 4, 1) := by decide +kernel
theorem dX5_init_102 : decode cX5_init 102 = .ok (.iconst 5, 1) := by decide +kernel
theorem dX5_init_103 : decode cX5_init 103 = .ok (.iastore, 1) := by decide +kernel
theorem dX5_init_104 : decode cX5_init 104 = .ok (.return_, 1) := by decide +kernel
theorem dX5_in_0 : decode cX5_in 0 = .ok (.iload_n 0, 1) := by decide +kernel
theorem dX5_in_1 : decode cX5_in 1 = .ok (.iload_n 1, 1) := by decide +kernel
theorem dX5_in_2 : decode cX5_in 2 = .ok (.if_icmp .lt 12, 3) := by decide +kernel
theorem dX5_in_5 : decode cX5_in 5 = .ok (.iload_n 0, 1) := by decide +kernel
theorem dX5_in_6 : decode cX5_in 6 = .ok (.iload_n 2, 1) := by decide +kernel
theorem dX5_in_7 : decode cX5_in 7 = .ok (.if_icmp .gt 7, 3) := by decide +kernel
theorem dX5_in_10 : decode cX5_in 10 = .ok (.iconst 1, 1) := by decide +kernel
theorem dX5_in_11 : decode cX5_in 11 = .ok (.goto 4, 3) := by decide +kernel
theorem dX5_in_14 : decode cX5_in 14 = .ok (.iconst 0, 1) := by decide +kernel
theorem dX5_in_15 : decode cX5_in 15 = .ok (.ireturn, 1) := by decide +kernel
theorem dX5_lotOf_0 : decode cX5_lotOf 0 = .ok (.aload_n 0, 1) := by decide +kernel
theorem dX5_lotOf_1 : decode cX5_lotOf 1 = .ok (.getfield 7, 3) := by decide +kernel
theorem dX5_lotOf_4 : decode cX5_lotOf 4 = .ok (.bipush 10, 2) := by decide +kernel
theorem dX5_lotOf_6 : decode cX5_lotOf 6 = .ok (.iconst 4, 1) := by decide +kernel
theorem dX5_lotOf_7 : decode cX5_lotOf 7 = .ok (.iload_n 1, 1) := by decide +kernel
theorem dX5_lotOf_8 : decode cX5_lotOf 8 = .ok (.imul, 1) := by decide +kernel
theorem dX5_lotOf_9 : decode cX5_lotOf 9 = .ok (.iadd, 1) := by decide +kernel
theorem dX5_lotOf_10 : decode cX5_lotOf 10 = .ok (.iload_n 2, 1) := by decide +kernel
theorem dX5_lotOf_11 : decode cX5_lotOf 11 = .ok (.iadd, 1) := by decide +kernel
theorem dX5_lotOf_12 : decode cX5_lotOf 12 = .ok (.iaload, 1) := by decide +kernel
theorem dX5_lotOf_13 : decode cX5_lotOf 13 = .ok (.ireturn, 1) := by decide +kernel
theorem dX5_layLot_0 : decode cX5_layLot 0 = .ok (.aload_n 0, 1) := by decide +kernel
theorem dX5_layLot_1 : decode cX5_layLot 1 = .ok (.getfield 7, 3) := by decide +kernel
theorem dX5_layLot_4 : decode cX5_layLot 4 = .ok (.bipush 10, 2) := by decide +kernel
theorem dX5_layLot_6 : decode cX5_layLot 6 = .ok (.iconst 4, 1) := by decide +kernel
theorem dX5_layLot_7 : decode cX5_layLot 7 = .ok (.iload_n 1, 1) := by decide +kernel
theorem dX5_layLot_8 : decode cX5_layLot 8 = .ok (.imul, 1) := by decide +kernel
theorem dX5_layLot_9 : decode cX5_layLot 9 = .ok (.iadd, 1) := by decide +kernel
theorem dX5_layLot_10 : decode cX5_layLot 10 = .ok (.iload_n 2, 1) := by decide +kernel
theorem dX5_layLot_11 : decode cX5_layLot 11 = .ok (.iadd, 1) := by decide +kernel
theorem dX5_layLot_12 : decode cX5_layLot 12 = .ok (.iload_n 3, 1) := by decide +kernel
theorem dX5_layLot_13 : decode cX5_layLot 13 = .ok (.iastore, 1) := by decide +kernel
theorem dX5_layLot_14 : decode cX5_layLot 14 = .ok (.return_, 1) := by decide +kernel
theorem dX5_claimOf_0 : decode cX5_claimOf 0 = .ok (.aload_n 0, 1) := by decide +kernel
theorem dX5_claimOf_1 : decode cX5_claimOf 1 = .ok (.getfield 7, 3) := by decide +kernel
theorem dX5_claimOf_4 : decode cX5_claimOf 4 = .ok (.bipush 58, 2) := by decide +kernel
theorem dX5_claimOf_6 : decode cX5_claimOf 6 = .ok (.bipush 7, 2) := by decide +kernel
theorem dX5_claimOf_8 : decode cX5_claimOf 8 = .ok (.iload_n 1, 1) := by decide +kernel
theorem dX5_claimOf_9 : decode cX5_claimOf 9 = .ok (.imul, 1) := by decide +kernel
theorem dX5_claimOf_10 : decode cX5_claimOf 10 = .ok (.iadd, 1) := by decide +kernel
theorem dX5_claimOf_11 : decode cX5_claimOf 11 = .ok (.iload_n 2, 1) := by decide +kernel
theorem dX5_claimOf_12 : decode cX5_claimOf 12 = .ok (.iadd, 1) := by decide +kernel
theorem dX5_claimOf_13 : decode cX5_claimOf 13 = .ok (.iaload, 1) := by decide +kernel
theorem dX5_claimOf_14 : decode cX5_claimOf 14 = .ok (.ireturn, 1) := by decide +kernel
theorem dX5_layClaim_0 : decode cX5_layClaim 0 = .ok (.aload_n 0, 1) := by decide +kernel
theorem dX5_layClaim_1 : decode cX5_layClaim 1 = .ok (.getfield 7, 3) := by decide +kernel
theorem dX5_layClaim_4 : decode cX5_layClaim 4 = .ok (.bipush 58, 2) := by decide +kernel
theorem dX5_layClaim_6 : decode cX5_layClaim 6 = .ok (.bipush 7, 2) := by decide +kernel
theorem dX5_layClaim_8 : decode cX5_layClaim 8 = .ok (.iload_n 1, 1) := by decide +kernel
theorem dX5_layClaim_9 : decode cX5_layClaim 9 = .ok (.imul, 1) := by decide +kernel
theorem dX5_layClaim_10 : decode cX5_layClaim 10 = .ok (.iadd, 1) := by decide +kernel
theorem dX5_layClaim_11 : decode cX5_layClaim 11 = .ok (.iload_n 2, 1) := by decide +kernel
theorem dX5_layClaim_12 : decode cX5_layClaim 12 = .ok (.iadd, 1) := by decide +kernel
theorem dX5_layClaim_13 : decode cX5_layClaim 13 = .ok (.iload_n 3, 1) := by decide +kernel
theorem dX5_layClaim_14 : decode cX5_layClaim 14 = .ok (.iastore, 1) := by decide +kernel
theorem dX5_layClaim_15 : decode cX5_layClaim 15 = .ok (.return_, 1) := by decide +kernel
theorem dX5_isLot_0 : decode cX5_isLot 0 = .ok (.iload_n 1, 1) := by decide +kernel
theorem dX5_isLot_1 : decode cX5_isLot 1 = .ok (.iconst 0, 1) := by decide +kernel
theorem dX5_isLot_2 : decode cX5_isLot 2 = .ok (.aload_n 0, 1) := by decide +kernel
theorem dX5_isLot_3 : decode cX5_isLot 3 = .ok (.getfield 7, 3) := by decide +kernel
theorem dX5_isLot_6 : decode cX5_isLot 6 = .ok (.bipush 7, 2) := by decide +kernel
theorem dX5_isLot_8 : decode cX5_isLot 8 = .ok (.iaload, 1) := by decide +kernel
theorem dX5_isLot_9 : decode cX5_isLot 9 = .ok (.iconst 1, 1) := by decide +kernel
theorem dX5_isLot_10 : decode cX5_isLot 10 = .ok (.isub, 1) := by decide +kernel
theorem dX5_isLot_11 : decode cX5_isLot 11 = .ok (.invokestatic 32, 3) := by decide +kernel
theorem dX5_isLot_14 : decode cX5_isLot 14 = .ok (.ireturn, 1) := by decide +kernel
theorem dX5_isClaim_0 : decode cX5_isClaim 0 = .ok (.iload_n 1, 1) := by decide +kernel
theorem dX5_isClaim_1 : decode cX5_isClaim 1 = .ok (.iconst 0, 1) := by decide +kernel
theorem dX5_isClaim_2 : decode cX5_isClaim 2 = .ok (.aload_n 0, 1) := by decide +kernel
theorem dX5_isClaim_3 : decode cX5_isClaim 3 = .ok (.getfield 7, 3) := by decide +kernel
theorem dX5_isClaim_6 : decode cX5_isClaim 6 = .ok (.bipush 8, 2) := by decide +kernel
theorem dX5_isClaim_8 : decode cX5_isClaim 8 = .ok (.iaload, 1) := by decide +kernel
theorem dX5_isClaim_9 : decode cX5_isClaim 9 = .ok (.iconst 1, 1) := by decide +kernel
theorem dX5_isClaim_10 : decode cX5_isClaim 10 = .ok (.isub, 1) := by decide +kernel
theorem dX5_isClaim_11 : decode cX5_isClaim 11 = .ok (.invokestatic 32, 3) := by decide +kernel
theorem dX5_isClaim_14 : decode cX5_isClaim 14 = .ok (.ireturn, 1) := by decide +kernel
theorem dX5_isHeir_0 : decode cX5_isHeir 0 = .ok (.iload_n 0, 1) := by decide +kernel
theorem dX5_isHeir_1 : decode cX5_isHeir 1 = .ok (.iconst 0, 1) := by decide +kernel
theorem dX5_isHeir_2 : decode cX5_isHeir 2 = .ok (.bipush 15, 2) := by decide +kernel
theorem dX5_isHeir_4 : decode cX5_isHeir 4 = .ok (.invokestatic 32, 3) := by decide +kernel
theorem dX5_isHeir_7 : decode cX5_isHeir 7 = .ok (.ireturn, 1) := by decide +kernel
theorem dX5_copyState_0 : decode cX5_copyState 0 = .ok (.iconst 0, 1) := by decide +kernel
theorem dX5_copyState_1 : decode cX5_copyState 1 = .ok (.istore 4, 2) := by decide +kernel
theorem dX5_copyState_3 : decode cX5_copyState 3 = .ok (.iload 4, 2) := by decide +kernel
theorem dX5_copyState_5 : decode cX5_copyState 5 = .ok (.sipush 300, 3) := by decide +kernel
theorem dX5_copyState_8 : decode cX5_copyState 8 = .ok (.if_icmp .ge 21, 3) := by decide +kernel
theorem dX5_copyState_11 : decode cX5_copyState 11 = .ok (.aload_n 2, 1) := by decide +kernel
theorem dX5_copyState_12 : decode cX5_copyState 12 = .ok (.iload_n 3, 1) := by decide +kernel
theorem dX5_copyState_13 : decode cX5_copyState 13 = .ok (.iload 4, 2) := by decide +kernel
theorem dX5_copyState_15 : decode cX5_copyState 15 = .ok (.iadd, 1) := by decide +kernel
theorem dX5_copyState_16 : decode cX5_copyState 16 = .ok (.aload_n 0, 1) := by decide +kernel
theorem dX5_copyState_17 : decode cX5_copyState 17 = .ok (.iload_n 1, 1) := by decide +kernel
theorem dX5_copyState_18 : decode cX5_copyState 18 = .ok (.iload 4, 2) := by decide +kernel
theorem dX5_copyState_20 : decode cX5_copyState 20 = .ok (.iadd, 1) := by decide +kernel
theorem dX5_copyState_21 : decode cX5_copyState 21 = .ok (.iaload, 1) := by decide +kernel
theorem dX5_copyState_22 : decode cX5_copyState 22 = .ok (.iastore, 1) := by decide +kernel
theorem dX5_copyState_23 : decode cX5_copyState 23 = .ok (.iinc 4 1, 3) := by decide +kernel
theorem dX5_copyState_26 : decode cX5_copyState 26 = .ok (.goto (-23), 3) := by decide +kernel
theorem dX5_copyState_29 : decode cX5_copyState 29 = .ok (.return_, 1) := by decide +kernel
theorem dX5_record_0 : decode cX5_record 0 = .ok (.aload_n 0, 1) := by decide +kernel
theorem dX5_record_1 : decode cX5_record 1 = .ok (.getfield 36, 3) := by decide +kernel
theorem dX5_record_4 : decode cX5_record 4 = .ok (.bipush 6, 2) := by decide +kernel
theorem dX5_record_6 : decode cX5_record 6 = .ok (.if_icmp .ne 44, 3) := by decide +kernel
theorem dX5_record_9 : decode cX5_record 9 = .ok (.iconst 0, 1) := by decide +kernel
theorem dX5_record_10 : decode cX5_record 10 = .ok (.istore_n 1, 1) := by decide +kernel
theorem dX5_record_11 : decode cX5_record 11 = .ok (.iload_n 1, 1) := by decide +kernel
theorem dX5_record_12 : decode cX5_record 12 = .ok (.sipush 1500, 3) := by decide +kernel
theorem dX5_record_15 : decode cX5_record 15 = .ok (.if_icmp .ge 25, 3) := by decide +kernel
theorem dX5_record_18 : decode cX5_record 18 = .ok (.aload_n 0, 1) := by decide +kernel
theorem dX5_record_19 : decode cX5_record 19 = .ok (.getfield 16, 3) := by decide +kernel
theorem dX5_record_22 : decode cX5_record 22 = .ok (.iload_n 1, 1) := by decide +kernel
theorem dX5_record_23 : decode cX5_record 23 = .ok (.aload_n 0, 1) := by decide +kernel
theorem dX5_record_24 : decode cX5_record 24 = .ok (.getfield 16, 3) := by decide +kernel
theorem dX5_record_27 : decode cX5_record 27 = .ok (.iload_n 1, 1) := by decide +kernel
theorem dX5_record_28 : decode cX5_record 28 = .ok (.sipush 300, 3) := by decide +kernel
theorem dX5_record_31 : decode cX5_record 31 = .ok (.iadd, 1) := by decide +kernel
theorem dX5_record_32 : decode cX5_record 32 = .ok (.iaload, 1) := by decide +kernel
theorem dX5_record_33 : decode cX5_record 33 = .ok (.iastore, 1) := by decide +kernel
theorem dX5_record_34 : decode cX5_record 34 = .ok (.iinc 1 1, 3) := by decide +kernel
theorem dX5_record_37 : decode cX5_record 37 = .ok (.goto (-26), 3) := by decide +kernel
theorem dX5_record_40 : decode cX5_record 40 = .ok (.aload_n 0, 1) := by decide +kernel
theorem dX5_record_41 : decode cX5_record 41 = .ok (.dup, 1) := by decide +kernel
theorem dX5_record_42 : decode cX5_record 42 = .ok (.getfield 36, 3) := by decide +kernel
theorem dX5_record_45 : decode cX5_record 45 = .ok (.iconst 1, 1) := by decide +kernel
theorem dX5_record_46 : decode cX5_record 46 = .ok (.isub, 1) := by decide +kernel
theorem dX5_record_47 : decode cX5_record 47 = .ok (.putfield 36, 3) := by decide +kernel
theorem dX5_record_50 : decode cX5_record 50 = .ok (.aload_n 0, 1) := by decide +kernel
theorem dX5_record_51 : decode cX5_record 51 = .ok (.getfield 7, 3) := by decide +kernel
theorem dX5_record_54 : decode cX5_record 54 = .ok (.iconst 0, 1) := by decide +kernel
theorem dX5_record_55 : decode cX5_record 55 = .ok (.aload_n 0, 1) := by decide +kernel
theorem dX5_record_56 : decode cX5_record 56 = .ok (.getfield 16, 3) := by decide +kernel
theorem dX5_record_59 : decode cX5_record 59 = .ok (.sipush 300, 3) := by decide +kernel
theorem dX5_record_62 : decode cX5_record 62 = .ok (.aload_n 0, 1) := by decide +kernel
theorem dX5_record_63 : decode cX5_record 63 = .ok (.getfield 36, 3) := by decide +kernel
theorem dX5_record_66 : decode cX5_record 66 = .ok (.imul, 1) := by decide +kernel
theorem dX5_record_67 : decode cX5_record 67 = .ok (.invokestatic 40, 3) := by decide +kernel
theorem dX5_record_70 : decode cX5_record 70 = .ok (.aload_n 0, 1) := by decide +kernel
theorem dX5_record_71 : decode cX5_record 71 = .ok (.dup, 1) := by decide +kernel
theorem dX5_record_72 : decode cX5_record 72 = .ok (.getfield 36, 3) := by decide +kernel
theorem dX5_record_75 : decode cX5_record 75 = .ok (.iconst 1, 1) := by decide +kernel
theorem dX5_record_76 : decode cX5_record 76 = .ok (.iadd, 1) := by decide +kernel
theorem dX5_record_77 : decode cX5_record 77 = .ok (.putfield 36, 3) := by decide +kernel
theorem dX5_record_80 : decode cX5_record 80 = .ok (.return_, 1) := by decide +kernel
theorem dX5_undo_0 : decode cX5_undo 0 = .ok (.aload_n 0, 1) := by decide +kernel
theorem dX5_undo_1 : decode cX5_undo 1 = .ok (.getfield 36, 3) := by decide +kernel
theorem dX5_undo_4 : decode cX5_undo 4 = .ok (.ifCond .ne 6, 3) := by decide +kernel
theorem dX5_undo_7 : decode cX5_undo 7 = .ok (.bipush (-5), 2) := by decide +kernel
theorem dX5_undo_9 : decode cX5_undo 9 = .ok (.ireturn, 1) := by decide +kernel
theorem dX5_undo_10 : decode cX5_undo 10 = .ok (.aload_n 0, 1) := by decide +kernel
theorem dX5_undo_11 : decode cX5_undo 11 = .ok (.dup, 1) := by decide +kernel
theorem dX5_undo_12 : decode cX5_undo 12 = .ok (.getfield 36, 3) := by decide +kernel
theorem dX5_undo_15 : decode cX5_undo 15 = .ok (.iconst 1, 1) := by decide +kernel
theorem dX5_undo_16 : decode cX5_undo 16 = .ok (.isub, 1) := by decide +kernel
theorem dX5_undo_17 : decode cX5_undo 17 = .ok (.putfield 36, 3) := by decide +kernel
theorem dX5_undo_20 : decode cX5_undo 20 = .ok (.aload_n 0, 1) := by decide +kernel
theorem dX5_undo_21 : decode cX5_undo 21 = .ok (.getfield 16, 3) := by decide +kernel
theorem dX5_undo_24 : decode cX5_undo 24 = .ok (.sipush 300, 3) := by decide +kernel
theorem dX5_undo_27 : decode cX5_undo 27 = .ok (.aload_n 0, 1) := by decide +kernel
theorem dX5_undo_28 : decode cX5_undo 28 = .ok (.getfield 36, 3) := by decide +kernel
theorem dX5_undo_31 : decode cX5_undo 31 = .ok (.imul, 1) := by decide +kernel
theorem dX5_undo_32 : decode cX5_undo 32 = .ok (.aload_n 0, 1) := by decide +kernel
theorem dX5_undo_33 : decode cX5_undo 33 = .ok (.getfield 7, 3) := by decide +kernel
theorem dX5_undo_36 : decode cX5_undo 36 = .ok (.iconst 0, 1) := by decide +kernel
theorem dX5_undo_37 : decode cX5_undo 37 = .ok (.invokestatic 40, 3) := by decide +kernel
theorem dX5_undo_40 : decode cX5_undo 40 = .ok (.aload_n 0, 1) := by decide +kernel
theorem dX5_undo_41 : decode cX5_undo 41 = .ok (.getfield 36, 3) := by decide +kernel
theorem dX5_undo_44 : decode cX5_undo 44 = .ok (.ireturn, 1) := by decide +kernel
theorem dX5_save_0 : decode cX5_save 0 = .ok (.iload_n 1, 1) := by decide +kernel
theorem dX5_save_1 : decode cX5_save 1 = .ok (.iconst 0, 1) := by decide +kernel
theorem dX5_save_2 : decode cX5_save 2 = .ok (.iconst 1, 1) := by decide +kernel
theorem dX5_save_3 : decode cX5_save 3 = .ok (.invokestatic 32, 3) := by decide +kernel
theorem dX5_save_6 : decode cX5_save 6 = .ok (.ifCond .ne 6, 3) := by decide +kernel
theorem dX5_save_9 : decode cX5_save 9 = .ok (.bipush (-2), 2) := by decide +kernel
theorem dX5_save_11 : decode cX5_save 11 = .ok (.ireturn, 1) := by decide +kernel
theorem dX5_save_12 : decode cX5_save 12 = .ok (.aload_n 0, 1) := by decide +kernel
theorem dX5_save_13 : decode cX5_save 13 = .ok (.getfield 7, 3) := by decide +kernel
theorem dX5_save_16 : decode cX5_save 16 = .ok (.iconst 0, 1) := by decide +kernel
theorem dX5_save_17 : decode cX5_save 17 = .ok (.aload_n 0, 1) := by decide +kernel
theorem dX5_save_18 : decode cX5_save 18 = .ok (.getfield 19, 3) := by decide +kernel
theorem dX5_save_21 : decode cX5_save 21 = .ok (.sipush 300, 3) := by decide +kernel
theorem dX5_save_24 : decode cX5_save 24 = .ok (.iload_n 1, 1) := by decide +kernel
theorem dX5_save_25 : decode cX5_save 25 = .ok (.imul, 1) := by decide +kernel
theorem dX5_save_26 : decode cX5_save 26 = .ok (.invokestatic 40, 3) := by decide +kernel
theorem dX5_save_29 : decode cX5_save 29 = .ok (.aload_n 0, 1) := by decide +kernel
theorem dX5_save_30 : decode cX5_save 30 = .ok (.getfield 22, 3) := by decide +kernel
theorem dX5_save_33 : decode cX5_save 33 = .ok (.iload_n 1, 1) := by decide +kernel
theorem dX5_save_34 : decode cX5_save 34 = .ok (.iconst 1, 1) := by decide +kernel
theorem dX5_save_35 : decode cX5_save 35 = .ok (.bastore, 1) := by decide +kernel
theorem dX5_save_36 : decode cX5_save 36 = .ok (.aload_n 0, 1) := by decide +kernel
theorem dX5_save_37 : decode cX5_save 37 = .ok (.getfield 7, 3) := by decide +kernel
theorem dX5_save_40 : decode cX5_save 40 = .ok (.bipush 7, 2) := by decide +kernel
theorem dX5_save_42 : decode cX5_save 42 = .ok (.iaload, 1) := by decide +kernel
theorem dX5_save_43 : decode cX5_save 43 = .ok (.ireturn, 1) := by decide +kernel
theorem dX5_restore_0 : decode cX5_restore 0 = .ok (.iload_n 1, 1) := by decide +kernel
theorem dX5_restore_1 : decode cX5_restore 1 = .ok (.iconst 0, 1) := by decide +kernel
theorem dX5_restore_2 : decode cX5_restore 2 = .ok (.iconst 1, 1) := by decide +kernel
theorem dX5_restore_3 : decode cX5_restore 3 = .ok (.invokestatic 32, 3) := by decide +kernel
theorem dX5_restore_6 : decode cX5_restore 6 = .ok (.ifCond .ne 6, 3) := by decide +kernel
theorem dX5_restore_9 : decode cX5_restore 9 = .ok (.bipush (-2), 2) := by decide +kernel
theorem dX5_restore_11 : decode cX5_restore 11 = .ok (.ireturn, 1) := by decide +kernel
theorem dX5_restore_12 : decode cX5_restore 12 = .ok (.aload_n 0, 1) := by decide +kernel
theorem dX5_restore_13 : decode cX5_restore 13 = .ok (.getfield 22, 3) := by decide +kernel
theorem dX5_restore_16 : decode cX5_restore 16 = .ok (.iload_n 1, 1) := by decide +kernel
theorem dX5_restore_17 : decode cX5_restore 17 = .ok (.baload, 1) := by decide +kernel
theorem dX5_restore_18 : decode cX5_restore 18 = .ok (.ifCond .ne 6, 3) := by decide +kernel
theorem dX5_restore_21 : decode cX5_restore 21 = .ok (.bipush (-5), 2) := by decide +kernel
theorem dX5_restore_23 : decode cX5_restore 23 = .ok (.ireturn, 1) := by decide +kernel
theorem dX5_restore_24 : decode cX5_restore 24 = .ok (.aload_n 0, 1) := by decide +kernel
theorem dX5_restore_25 : decode cX5_restore 25 = .ok (.invokevirtual 44, 3) := by decide +kernel
theorem dX5_restore_28 : decode cX5_restore 28 = .ok (.aload_n 0, 1) := by decide +kernel
theorem dX5_restore_29 : decode cX5_restore 29 = .ok (.getfield 19, 3) := by decide +kernel
theorem dX5_restore_32 : decode cX5_restore 32 = .ok (.sipush 300, 3) := by decide +kernel
theorem dX5_restore_35 : decode cX5_restore 35 = .ok (.iload_n 1, 1) := by decide +kernel
theorem dX5_restore_36 : decode cX5_restore 36 = .ok (.imul, 1) := by decide +kernel
theorem dX5_restore_37 : decode cX5_restore 37 = .ok (.aload_n 0, 1) := by decide +kernel
theorem dX5_restore_38 : decode cX5_restore 38 = .ok (.getfield 7, 3) := by decide +kernel
theorem dX5_restore_41 : decode cX5_restore 41 = .ok (.iconst 0, 1) := by decide +kernel
theorem dX5_restore_42 : decode cX5_restore 42 = .ok (.invokestatic 40, 3) := by decide +kernel
theorem dX5_restore_45 : decode cX5_restore 45 = .ok (.aload_n 0, 1) := by decide +kernel
theorem dX5_restore_46 : decode cX5_restore 46 = .ok (.getfield 7, 3) := by decide +kernel
theorem dX5_restore_49 : decode cX5_restore 49 = .ok (.bipush 7, 2) := by decide +kernel
theorem dX5_restore_51 : decode cX5_restore 51 = .ok (.iaload, 1) := by decide +kernel
theorem dX5_restore_52 : decode cX5_restore 52 = .ok (.ireturn, 1) := by decide +kernel
theorem dX5_stands_0 : decode cX5_stands 0 = .ok (.aload_n 0, 1) := by decide +kernel
theorem dX5_stands_1 : decode cX5_stands 1 = .ok (.iload_n 1, 1) := by decide +kernel
theorem dX5_stands_2 : decode cX5_stands 2 = .ok (.iconst 4, 1) := by decide +kernel
theorem dX5_stands_3 : decode cX5_stands 3 = .ok (.invokevirtual 47, 3) := by decide +kernel
theorem dX5_stands_6 : decode cX5_stands 6 = .ok (.ifCond .eq 13, 3) := by decide +kernel
theorem dX5_stands_9 : decode cX5_stands 9 = .ok (.aload_n 0, 1) := by decide +kernel
theorem dX5_stands_10 : decode cX5_stands 10 = .ok (.iload_n 1, 1) := by decide +kernel
theorem dX5_stands_11 : decode cX5_stands 11 = .ok (.iconst 4, 1) := by decide +kernel
theorem dX5_stands_12 : decode cX5_stands 12 = .ok (.invokevirtual 47, 3) := by decide +kernel
theorem dX5_stands_15 : decode cX5_stands 15 = .ok (.iconst 1, 1) := by decide +kernel
theorem dX5_stands_16 : decode cX5_stands 16 = .ok (.if_icmp .ne 7, 3) := by decide +kernel
theorem dX5_stands_19 : decode cX5_stands 19 = .ok (.iconst 1, 1) := by decide +kernel
theorem dX5_stands_20 : decode cX5_stands 20 = .ok (.goto 4, 3) := by decide +kernel
theorem dX5_stands_23 : decode cX5_stands 23 = .ok (.iconst 0, 1) := by decide +kernel
theorem dX5_stands_24 : decode cX5_stands 24 = .ok (.ireturn, 1) := by decide +kernel
theorem dX5_claimsTo_0 : decode cX5_claimsTo 0 = .ok (.iconst 0, 1) := by decide +kernel
theorem dX5_claimsTo_1 : decode cX5_claimsTo 1 = .ok (.istore_n 3, 1) := by decide +kernel
theorem dX5_claimsTo_2 : decode cX5_claimsTo 2 = .ok (.iconst 0, 1) := by decide +kernel
theorem dX5_claimsTo_3 : decode cX5_claimsTo 3 = .ok (.istore 4, 2) := by decide +kernel
theorem dX5_claimsTo_5 : decode cX5_claimsTo 5 = .ok (.iload 4, 2) := by decide +kernel
theorem dX5_claimsTo_7 : decode cX5_claimsTo 7 = .ok (.aload_n 0, 1) := by decide +kernel
theorem dX5_claimsTo_8 : decode cX5_claimsTo 8 = .ok (.getfield 7, 3) := by decide +kernel
theorem dX5_claimsTo_11 : decode cX5_claimsTo 11 = .ok (.bipush 8, 2) := by decide +kernel
theorem dX5_claimsTo_13 : decode cX5_claimsTo 13 = .ok (.iaload, 1) := by decide +kernel
theorem dX5_claimsTo_14 : decode cX5_claimsTo 14 = .ok (.if_icmp .ge 42, 3) := by decide +kernel
theorem dX5_claimsTo_17 : decode cX5_claimsTo 17 = .ok (.iload_n 3, 1) := by decide +kernel
theorem dX5_claimsTo_18 : decode cX5_claimsTo 18 = .ok (.aload_n 0, 1) := by decide +kernel
theorem dX5_claimsTo_19 : decode cX5_claimsTo 19 = .ok (.iload 4, 2) := by decide +kernel
theorem dX5_claimsTo_21 : decode cX5_claimsTo 21 = .ok (.iconst 1, 1) := by decide +kernel
theorem dX5_claimsTo_22 : decode cX5_claimsTo 22 = .ok (.invokevirtual 47, 3) := by decide +kernel
theorem dX5_claimsTo_25 : decode cX5_claimsTo 25 = .ok (.iload_n 1, 1) := by decide +kernel
theorem dX5_claimsTo_26 : decode cX5_claimsTo 26 = .ok (.if_icmp .ne 21, 3) := by decide +kernel
theorem dX5_claimsTo_29 : decode cX5_claimsTo 29 = .ok (.aload_n 0, 1) := by decide +kernel
theorem dX5_claimsTo_30 : decode cX5_claimsTo 30 = .ok (.iload 4, 2) := by decide +kernel
theorem dX5_claimsTo_32 : decode cX5_claimsTo 32 = .ok (.iconst 4, 1) := by decide +kernel
theorem dX5_claimsTo_33 : decode cX5_claimsTo 33 = .ok (.invokevirtual 47, 3) := by decide +kernel
theorem dX5_claimsTo_36 : decode cX5_claimsTo 36 = .ok (.iload_n 2, 1) := by decide +kernel
theorem dX5_claimsTo_37 : decode cX5_claimsTo 37 = .ok (.if_icmp .ne 10, 3) := by decide +kernel
theorem dX5_claimsTo_40 : decode cX5_claimsTo 40 = .ok (.iconst 1, 1) := by decide +kernel
theorem dX5_claimsTo_41 : decode cX5_claimsTo 41 = .ok (.iload 4, 2) := by decide +kernel
theorem dX5_claimsTo_43 : decode cX5_claimsTo 43 = .ok (.ishl, 1) := by decide +kernel
theorem dX5_claimsTo_44 : decode cX5_claimsTo 44 = .ok (.goto 4, 3) := by decide +kernel
theorem dX5_claimsTo_47 : decode cX5_claimsTo 47 = .ok (.iconst 0, 1) := by decide +kernel
theorem dX5_claimsTo_48 : decode cX5_claimsTo 48 = .ok (.ior, 1) := by decide +kernel
theorem dX5_claimsTo_49 : decode cX5_claimsTo 49 = .ok (.istore_n 3, 1) := by decide +kernel
theorem dX5_claimsTo_50 : decode cX5_claimsTo 50 = .ok (.iinc 4 1, 3) := by decide +kernel
theorem dX5_claimsTo_53 : decode cX5_claimsTo 53 = .ok (.goto (-48), 3) := by decide +kernel
theorem dX5_claimsTo_56 : decode cX5_claimsTo 56 = .ok (.iload_n 3, 1) := by decide +kernel
theorem dX5_claimsTo_57 : decode cX5_claimsTo 57 = .ok (.ireturn, 1) := by decide +kernel
theorem dX5_standing_0 : decode cX5_standing 0 = .ok (.aload_n 0, 1) := by decide +kernel
theorem dX5_standing_1 : decode cX5_standing 1 = .ok (.iload_n 1, 1) := by decide +kernel
theorem dX5_standing_2 : decode cX5_standing 2 = .ok (.iconst 0, 1) := by decide +kernel
theorem dX5_standing_3 : decode cX5_standing 3 = .ok (.invokevirtual 51, 3) := by decide +kernel
theorem dX5_standing_6 : decode cX5_standing 6 = .ok (.aload_n 0, 1) := by decide +kernel
theorem dX5_standing_7 : decode cX5_standing 7 = .ok (.iload_n 1, 1) := by decide +kernel
theorem dX5_standing_8 : decode cX5_standing 8 = .ok (.iconst 1, 1) := by decide +kernel
theorem dX5_standing_9 : decode cX5_standing 9 = .ok (.invokevirtual 51, 3) := by decide +kernel
theorem dX5_standing_12 : decode cX5_standing 12 = .ok (.ior, 1) := by decide +kernel
theorem dX5_standing_13 : decode cX5_standing 13 = .ok (.ireturn, 1) := by decide +kernel
theorem dX5_size_0 : decode cX5_size 0 = .ok (.iconst 0, 1) := by decide +kernel
theorem dX5_size_1 : decode cX5_size 1 = .ok (.istore_n 1, 1) := by decide +kernel
theorem dX5_size_2 : decode cX5_size 2 = .ok (.iconst 0, 1) := by decide +kernel
theorem dX5_size_3 : decode cX5_size 3 = .ok (.istore_n 2, 1) := by decide +kernel
theorem dX5_size_4 : decode cX5_size 4 = .ok (.iload_n 2, 1) := by decide +kernel
theorem dX5_size_5 : decode cX5_size 5 = .ok (.bipush 30, 2) := by decide +kernel
theorem dX5_size_7 : decode cX5_size 7 = .ok (.if_icmp .ge 17, 3) := by decide +kernel
theorem dX5_size_10 : decode cX5_size 10 = .ok (.iload_n 1, 1) := by decide +kernel
theorem dX5_size_11 : decode cX5_size 11 = .ok (.iload_n 0, 1) := by decide +kernel
theorem dX5_size_12 : decode cX5_size 12 = .ok (.iload_n 2, 1) := by decide +kernel
theorem dX5_size_13 : decode cX5_size 13 = .ok (.ishr, 1) := by decide +kernel
theorem dX5_size_14 : decode cX5_size 14 = .ok (.iconst 1, 1) := by decide +kernel
theorem dX5_size_15 : decode cX5_size 15 = .ok (.iand, 1) := by decide +kernel
theorem dX5_size_16 : decode cX5_size 16 = .ok (.iadd, 1) := by decide +kernel
theorem dX5_size_17 : decode cX5_size 17 = .ok (.istore_n 1, 1) := by decide +kernel
theorem dX5_size_18 : decode cX5_size 18 = .ok (.iinc 2 1, 3) := by decide +kernel
theorem dX5_size_21 : decode cX5_size 21 = .ok (.goto (-17), 3) := by decide +kernel
theorem dX5_size_24 : decode cX5_size 24 = .ok (.iload_n 1, 1) := by decide +kernel
theorem dX5_size_25 : decode cX5_size 25 = .ok (.ireturn, 1) := by decide +kernel
theorem dX5_nearest_0 : decode cX5_nearest 0 = .ok (.bipush (-6), 2) := by decide +kernel
theorem dX5_nearest_2 : decode cX5_nearest 2 = .ok (.istore_n 2, 1) := by decide +kernel
theorem dX5_nearest_3 : decode cX5_nearest 3 = .ok (.iconst 0, 1) := by decide +kernel
theorem dX5_nearest_4 : decode cX5_nearest 4 = .ok (.istore_n 3, 1) := by decide +kernel
theorem dX5_nearest_5 : decode cX5_nearest 5 = .ok (.iload_n 3, 1) := by decide +kernel
theorem dX5_nearest_6 : decode cX5_nearest 6 = .ok (.aload_n 0, 1) := by decide +kernel
theorem dX5_nearest_7 : decode cX5_nearest 7 = .ok (.getfield 7, 3) := by decide +kernel
theorem dX5_nearest_10 : decode cX5_nearest 10 = .ok (.bipush 8, 2) := by decide +kernel
theorem dX5_nearest_12 : decode cX5_nearest 12 = .ok (.iaload, 1) := by decide +kernel
theorem dX5_nearest_13 : decode cX5_nearest 13 = .ok (.if_icmp .ge 57, 3) := by decide +kernel
theorem dX5_nearest_16 : decode cX5_nearest 16 = .ok (.iload_n 1, 1) := by decide +kernel
theorem dX5_nearest_17 : decode cX5_nearest 17 = .ok (.iload_n 3, 1) := by decide +kernel
theorem dX5_nearest_18 : decode cX5_nearest 18 = .ok (.ishr, 1) := by decide +kernel
theorem dX5_nearest_19 : decode cX5_nearest 19 = .ok (.iconst 1, 1) := by decide +kernel
theorem dX5_nearest_20 : decode cX5_nearest 20 = .ok (.iand, 1) := by decide +kernel
theorem dX5_nearest_21 : decode cX5_nearest 21 = .ok (.iconst 1, 1) := by decide +kernel
theorem dX5_nearest_22 : decode cX5_nearest 22 = .ok (.if_icmp .ne 23, 3) := by decide +kernel
theorem dX5_nearest_25 : decode cX5_nearest 25 = .ok (.iload_n 2, 1) := by decide +kernel
theorem dX5_nearest_26 : decode cX5_nearest 26 = .ok (.bipush (-6), 2) := by decide +kernel
theorem dX5_nearest_28 : decode cX5_nearest 28 = .ok (.if_icmp .eq 13, 3) := by decide +kernel
theorem dX5_nearest_31 : decode cX5_nearest 31 = .ok (.aload_n 0, 1) := by decide +kernel
theorem dX5_nearest_32 : decode cX5_nearest 32 = .ok (.iload_n 3, 1) := by decide +kernel
theorem dX5_nearest_33 : decode cX5_nearest 33 = .ok (.iconst 2, 1) := by decide +kernel
theorem dX5_nearest_34 : decode cX5_nearest 34 = .ok (.invokevirtual 47, 3) := by decide +kernel
theorem dX5_nearest_37 : decode cX5_nearest 37 = .ok (.iload_n 2, 1) := by decide +kernel
theorem dX5_nearest_38 : decode cX5_nearest 38 = .ok (.if_icmp .ge 7, 3) := by decide +kernel
theorem dX5_nearest_41 : decode cX5_nearest 41 = .ok (.iconst 1, 1) := by decide +kernel
theorem dX5_nearest_42 : decode cX5_nearest 42 = .ok (.goto 4, 3) := by decide +kernel
theorem dX5_nearest_45 : decode cX5_nearest 45 = .ok (.iconst 0, 1) := by decide +kernel
theorem dX5_nearest_46 : decode cX5_nearest 46 = .ok (.istore 4, 2) := by decide +kernel
theorem dX5_nearest_48 : decode cX5_nearest 48 = .ok (.iload 4, 2) := by decide +kernel
theorem dX5_nearest_50 : decode cX5_nearest 50 = .ok (.ifCond .eq 12, 3) := by decide +kernel
theorem dX5_nearest_53 : decode cX5_nearest 53 = .ok (.aload_n 0, 1) := by decide +kernel
theorem dX5_nearest_54 : decode cX5_nearest 54 = .ok (.iload_n 3, 1) := by decide +kernel
theorem dX5_nearest_55 : decode cX5_nearest 55 = .ok (.iconst 2, 1) := by decide +kernel
theorem dX5_nearest_56 : decode cX5_nearest 56 = .ok (.invokevirtual 47, 3) := by decide +kernel
theorem dX5_nearest_59 : decode cX5_nearest 59 = .ok (.goto 4, 3) := by decide +kernel
theorem dX5_nearest_62 : decode cX5_nearest 62 = .ok (.iload_n 2, 1) := by decide +kernel
theorem dX5_nearest_63 : decode cX5_nearest 63 = .ok (.istore_n 2, 1) := by decide +kernel
theorem dX5_nearest_64 : decode cX5_nearest 64 = .ok (.iinc 3 1, 3) := by decide +kernel
theorem dX5_nearest_67 : decode cX5_nearest 67 = .ok (.goto (-62), 3) := by decide +kernel
theorem dX5_nearest_70 : decode cX5_nearest 70 = .ok (.iload_n 2, 1) := by decide +kernel
theorem dX5_nearest_71 : decode cX5_nearest 71 = .ok (.ireturn, 1) := by decide +kernel
theorem dX5_nearestOnes_0 : decode cX5_nearestOnes 0 = .ok (.aload_n 0, 1) := by decide +kernel
theorem dX5_nearestOnes_1 : decode cX5_nearestOnes 1 = .ok (.iload_n 1, 1) := by decide +kernel
theorem dX5_nearestOnes_2 : decode cX5_nearestOnes 2 = .ok (.invokevirtual 54, 3) := by decide +kernel
theorem dX5_nearestOnes_5 : decode cX5_nearestOnes 5 = .ok (.istore_n 2, 1) := by decide +kernel
theorem dX5_nearestOnes_6 : decode cX5_nearestOnes 6 = .ok (.iconst 0, 1) := by decide +kernel
theorem dX5_nearestOnes_7 : decode cX5_nearestOnes 7 = .ok (.istore_n 3, 1) := by decide +kernel
theorem dX5_nearestOnes_8 : decode cX5_nearestOnes 8 = .ok (.iconst 0, 1) := by decide +kernel
theorem dX5_nearestOnes_9 : decode cX5_nearestOnes 9 = .ok (.istore 4, 2) := by decide +kernel
theorem dX5_nearestOnes_11 : decode cX5_nearestOnes 11 = .ok (.iload 4, 2) := by decide +kernel
theorem dX5_nearestOnes_13 : decode cX5_nearestOnes 13 = .ok (.aload_n 0, 1) := by decide +kernel
theorem dX5_nearestOnes_14 : decode cX5_nearestOnes 14 = .ok (.getfield 7, 3) := by decide +kernel
theorem dX5_nearestOnes_17 : decode cX5_nearestOnes 17 = .ok (.bipush 8, 2) := by decide +kernel
theorem dX5_nearestOnes_19 : decode cX5_nearestOnes 19 = .ok (.iaload, 1) := by decide +kernel
theorem dX5_nearestOnes_20 : decode cX5_nearestOnes 20 = .ok (.if_icmp .ge 41, 3) := by decide +kernel
theorem dX5_nearestOnes_23 : decode cX5_nearestOnes 23 = .ok (.iload_n 3, 1) := by decide +kernel
theorem dX5_nearestOnes_24 : decode cX5_nearestOnes 24 = .ok (.iload_n 1, 1) := by decide +kernel
theorem dX5_nearestOnes_25 : decode cX5_nearestOnes 25 = .ok (.iload 4, 2) := by decide +kernel
theorem dX5_nearestOnes_27 : decode cX5_nearestOnes 27 = .ok (.ishr, 1) := by decide +kernel
theorem dX5_nearestOnes_28 : decode cX5_nearestOnes 28 = .ok (.iconst 1, 1) := by decide +kernel
theorem dX5_nearestOnes_29 : decode cX5_nearestOnes 29 = .ok (.iand, 1) := by decide +kernel
theorem dX5_nearestOnes_30 : decode cX5_nearestOnes 30 = .ok (.iconst 1, 1) := by decide +kernel
theorem dX5_nearestOnes_31 : decode cX5_nearestOnes 31 = .ok (.if_icmp .ne 21, 3) := by decide +kernel
theorem dX5_nearestOnes_34 : decode cX5_nearestOnes 34 = .ok (.aload_n 0, 1) := by decide +kernel
theorem dX5_nearestOnes_35 : decode cX5_nearestOnes 35 = .ok (.iload 4, 2) := by decide +kernel
theorem dX5_nearestOnes_37 : decode cX5_nearestOnes 37 = .ok (.iconst 2, 1) := by decide +kernel
theorem dX5_nearestOnes_38 : decode cX5_nearestOnes 38 = .ok (.invokevirtual 47, 3) := by decide +kernel
theorem dX5_nearestOnes_41 : decode cX5_nearestOnes 41 = .ok (.iload_n 2, 1) := by decide +kernel
theorem dX5_nearestOnes_42 : decode cX5_nearestOnes 42 = .ok (.if_icmp .ne 10, 3) := by decide +kernel
theorem dX5_nearestOnes_45 : decode cX5_nearestOnes 45 = .ok (.iconst 1, 1) := by decide +kernel
theorem dX5_nearestOnes_46 : decode cX5_nearestOnes 46 = .ok (.iload 4, 2) := by decide +kernel
theorem dX5_nearestOnes_48 : decode cX5_nearestOnes 48 = .ok (.ishl, 1) := by decide +kernel
theorem dX5_nearestOnes_49 : decode cX5_nearestOnes 49 = .ok (.goto 4, 3) := by decide +kernel
theorem dX5_nearestOnes_52 : decode cX5_nearestOnes 52 = .ok (.iconst 0, 1) := by decide +kernel
theorem dX5_nearestOnes_53 : decode cX5_nearestOnes 53 = .ok (.ior, 1) := by decide +kernel
theorem dX5_nearestOnes_54 : decode cX5_nearestOnes 54 = .ok (.istore_n 3, 1) := by decide +kernel
theorem dX5_nearestOnes_55 : decode cX5_nearestOnes 55 = .ok (.iinc 4 1, 3) := by decide +kernel
theorem dX5_nearestOnes_58 : decode cX5_nearestOnes 58 = .ok (.goto (-47), 3) := by decide +kernel
theorem dX5_nearestOnes_61 : decode cX5_nearestOnes 61 = .ok (.iload_n 3, 1) := by decide +kernel
theorem dX5_nearestOnes_62 : decode cX5_nearestOnes 62 = .ok (.ireturn, 1) := by decide +kernel
theorem dX5_shared_0 : decode cX5_shared 0 = .ok (.aload_n 0, 1) := by decide +kernel
theorem dX5_shared_1 : decode cX5_shared 1 = .ok (.iload_n 1, 1) := by decide +kernel
theorem dX5_shared_2 : decode cX5_shared 2 = .ok (.iconst 0, 1) := by decide +kernel
theorem dX5_shared_3 : decode cX5_shared 3 = .ok (.invokevirtual 58, 3) := by decide +kernel
theorem dX5_shared_6 : decode cX5_shared 6 = .ok (.istore_n 2, 1) := by decide +kernel
theorem dX5_shared_7 : decode cX5_shared 7 = .ok (.aload_n 0, 1) := by decide +kernel
theorem dX5_shared_8 : decode cX5_shared 8 = .ok (.iload_n 1, 1) := by decide +kernel
theorem dX5_shared_9 : decode cX5_shared 9 = .ok (.iconst 1, 1) := by decide +kernel
theorem dX5_shared_10 : decode cX5_shared 10 = .ok (.invokevirtual 58, 3) := by decide +kernel
theorem dX5_shared_13 : decode cX5_shared 13 = .ok (.iconst 3, 1) := by decide +kernel
theorem dX5_shared_14 : decode cX5_shared 14 = .ok (.if_icmp .ne 19, 3) := by decide +kernel
theorem dX5_shared_17 : decode cX5_shared 17 = .ok (.iload_n 2, 1) := by decide +kernel
theorem dX5_shared_18 : decode cX5_shared 18 = .ok (.iload_n 2, 1) := by decide +kernel
theorem dX5_shared_19 : decode cX5_shared 19 = .ok (.aload_n 0, 1) := by decide +kernel
theorem dX5_shared_20 : decode cX5_shared 20 = .ok (.getfield 7, 3) := by decide +kernel
theorem dX5_shared_23 : decode cX5_shared 23 = .ok (.iconst 4, 1) := by decide +kernel
theorem dX5_shared_24 : decode cX5_shared 24 = .ok (.iaload, 1) := by decide +kernel
theorem dX5_shared_25 : decode cX5_shared 25 = .ok (.imul, 1) := by decide +kernel
theorem dX5_shared_26 : decode cX5_shared 26 = .ok (.bipush 100, 2) := by decide +kernel
theorem dX5_shared_28 : decode cX5_shared 28 = .ok (.idiv, 1) := by decide +kernel
theorem dX5_shared_29 : decode cX5_shared 29 = .ok (.isub, 1) := by decide +kernel
theorem dX5_shared_30 : decode cX5_shared 30 = .ok (.goto 4, 3) := by decide +kernel
theorem dX5_shared_33 : decode cX5_shared 33 = .ok (.iload_n 2, 1) := by decide +kernel
theorem dX5_shared_34 : decode cX5_shared 34 = .ok (.ireturn, 1) := by decide +kernel
theorem dX5_part_0 : decode cX5_part 0 = .ok (.iload_n 1, 1) := by decide +kernel
theorem dX5_part_1 : decode cX5_part 1 = .ok (.invokestatic 61, 3) := by decide +kernel
theorem dX5_part_4 : decode cX5_part 4 = .ok (.istore_n 3, 1) := by decide +kernel
theorem dX5_part_5 : decode cX5_part 5 = .ok (.iload_n 1, 1) := by decide +kernel
theorem dX5_part_6 : decode cX5_part 6 = .ok (.iconst 1, 1) := by decide +kernel
theorem dX5_part_7 : decode cX5_part 7 = .ok (.iload_n 0, 1) := by decide +kernel
theorem dX5_part_8 : decode cX5_part 8 = .ok (.ishl, 1) := by decide +kernel
theorem dX5_part_9 : decode cX5_part 9 = .ok (.iconst 1, 1) := by decide +kernel
theorem dX5_part_10 : decode cX5_part 10 = .ok (.isub, 1) := by decide +kernel
theorem dX5_part_11 : decode cX5_part 11 = .ok (.iand, 1) := by decide +kernel
theorem dX5_part_12 : decode cX5_part 12 = .ok (.invokestatic 61, 3) := by decide +kernel
theorem dX5_part_15 : decode cX5_part 15 = .ok (.istore 4, 2) := by decide +kernel
theorem dX5_part_17 : decode cX5_part 17 = .ok (.iload_n 2, 1) := by decide +kernel
theorem dX5_part_18 : decode cX5_part 18 = .ok (.iload_n 3, 1) := by decide +kernel
theorem dX5_part_19 : decode cX5_part 19 = .ok (.idiv, 1) := by decide +kernel
theorem dX5_part_20 : decode cX5_part 20 = .ok (.iload 4, 2) := by decide +kernel
theorem dX5_part_22 : decode cX5_part 22 = .ok (.iload_n 2, 1) := by decide +kernel
theorem dX5_part_23 : decode cX5_part 23 = .ok (.iload_n 3, 1) := by decide +kernel
theorem dX5_part_24 : decode cX5_part 24 = .ok (.irem, 1) := by decide +kernel
theorem dX5_part_25 : decode cX5_part 25 = .ok (.if_icmp .ge 7, 3) := by decide +kernel
theorem dX5_part_28 : decode cX5_part 28 = .ok (.iconst 1, 1) := by decide +kernel
theorem dX5_part_29 : decode cX5_part 29 = .ok (.goto 4, 3) := by decide +kernel
theorem dX5_part_32 : decode cX5_part 32 = .ok (.iconst 0, 1) := by decide +kernel
theorem dX5_part_33 : decode cX5_part 33 = .ok (.iadd, 1) := by decide +kernel
theorem dX5_part_34 : decode cX5_part 34 = .ok (.ireturn, 1) := by decide +kernel
theorem dX5_isValue_0 : decode cX5_isValue 0 = .ok (.iload_n 0, 1) := by decide +kernel
theorem dX5_isValue_1 : decode cX5_isValue 1 = .ok (.tableswitch 78 0 4 #[35, 44, 52, 61, 70], 35) := by decide +kernel
theorem dX5_isValue_36 : decode cX5_isValue 36 = .ok (.iload_n 1, 1) := by decide +kernel
theorem dX5_isValue_37 : decode cX5_isValue 37 = .ok (.iconst 1, 1) := by decide +kernel
theorem dX5_isValue_38 : decode cX5_isValue 38 = .ok (.sipush 400, 3) := by decide +kernel
theorem dX5_isValue_41 : decode cX5_isValue 41 = .ok (.invokestatic 32, 3) := by decide +kernel
theorem dX5_isValue_44 : decode cX5_isValue 44 = .ok (.ireturn, 1) := by decide +kernel
theorem dX5_isValue_45 : decode cX5_isValue 45 = .ok (.iload_n 1, 1) := by decide +kernel
theorem dX5_isValue_46 : decode cX5_isValue 46 = .ok (.iconst 1, 1) := by decide +kernel
theorem dX5_isValue_47 : decode cX5_isValue 47 = .ok (.bipush 100, 2) := by decide +kernel
theorem dX5_isValue_49 : decode cX5_isValue 49 = .ok (.invokestatic 32, 3) := by decide +kernel
theorem dX5_isValue_52 : decode cX5_isValue 52 = .ok (.ireturn, 1) := by decide +kernel
theorem dX5_isValue_53 : decode cX5_isValue 53 = .ok (.iload_n 1, 1) := by decide +kernel
theorem dX5_isValue_54 : decode cX5_isValue 54 = .ok (.iconst 1, 1) := by decide +kernel
theorem dX5_isValue_55 : decode cX5_isValue 55 = .ok (.sipush 200, 3) := by decide +kernel
theorem dX5_isValue_58 : decode cX5_isValue 58 = .ok (.invokestatic 32, 3) := by decide +kernel
theorem dX5_isValue_61 : decode cX5_isValue 61 = .ok (.ireturn, 1) := by decide +kernel
theorem dX5_isValue_62 : decode cX5_isValue 62 = .ok (.iload_n 1, 1) := by decide +kernel
theorem dX5_isValue_63 : decode cX5_isValue 63 = .ok (.iconst 0, 1) := by decide +kernel
theorem dX5_isValue_64 : decode cX5_isValue 64 = .ok (.sipush 400, 3) := by decide +kernel
theorem dX5_isValue_67 : decode cX5_isValue 67 = .ok (.invokestatic 32, 3) := by decide +kernel
theorem dX5_isValue_70 : decode cX5_isValue 70 = .ok (.ireturn, 1) := by decide +kernel
theorem dX5_isValue_71 : decode cX5_isValue 71 = .ok (.iload_n 1, 1) := by decide +kernel
theorem dX5_isValue_72 : decode cX5_isValue 72 = .ok (.iconst 0, 1) := by decide +kernel
theorem dX5_isValue_73 : decode cX5_isValue 73 = .ok (.bipush 50, 2) := by decide +kernel
theorem dX5_isValue_75 : decode cX5_isValue 75 = .ok (.invokestatic 32, 3) := by decide +kernel
theorem dX5_isValue_78 : decode cX5_isValue 78 = .ok (.ireturn, 1) := by decide +kernel
theorem dX5_isValue_79 : decode cX5_isValue 79 = .ok (.iconst 0, 1) := by decide +kernel
theorem dX5_isValue_80 : decode cX5_isValue 80 = .ok (.ireturn, 1) := by decide +kernel
theorem dX5_set_0 : decode cX5_set 0 = .ok (.iload_n 1, 1) := by decide +kernel
theorem dX5_set_1 : decode cX5_set 1 = .ok (.iload_n 2, 1) := by decide +kernel
theorem dX5_set_2 : decode cX5_set 2 = .ok (.invokestatic 64, 3) := by decide +kernel
theorem dX5_set_5 : decode cX5_set 5 = .ok (.ifCond .ne 6, 3) := by decide +kernel
theorem dX5_set_8 : decode cX5_set 8 = .ok (.bipush (-2), 2) := by decide +kernel
theorem dX5_set_10 : decode cX5_set 10 = .ok (.ireturn, 1) := by decide +kernel
theorem dX5_set_11 : decode cX5_set 11 = .ok (.aload_n 0, 1) := by decide +kernel
theorem dX5_set_12 : decode cX5_set 12 = .ok (.invokevirtual 44, 3) := by decide +kernel
theorem dX5_set_15 : decode cX5_set 15 = .ok (.aload_n 0, 1) := by decide +kernel
theorem dX5_set_16 : decode cX5_set 16 = .ok (.getfield 7, 3) := by decide +kernel
theorem dX5_set_19 : decode cX5_set 19 = .ok (.iload_n 1, 1) := by decide +kernel
theorem dX5_set_20 : decode cX5_set 20 = .ok (.iaload, 1) := by decide +kernel
theorem dX5_set_21 : decode cX5_set 21 = .ok (.istore_n 3, 1) := by decide +kernel
theorem dX5_set_22 : decode cX5_set 22 = .ok (.aload_n 0, 1) := by decide +kernel
theorem dX5_set_23 : decode cX5_set 23 = .ok (.getfield 7, 3) := by decide +kernel
theorem dX5_set_26 : decode cX5_set 26 = .ok (.iload_n 1, 1) := by decide +kernel
theorem dX5_set_27 : decode cX5_set 27 = .ok (.iload_n 2, 1) := by decide +kernel
theorem dX5_set_28 : decode cX5_set 28 = .ok (.iastore, 1) := by decide +kernel
theorem dX5_set_29 : decode cX5_set 29 = .ok (.iload_n 3, 1) := by decide +kernel
theorem dX5_set_30 : decode cX5_set 30 = .ok (.ireturn, 1) := by decide +kernel
theorem dX5_whyNotLot_0 : decode cX5_whyNotLot 0 = .ok (.iload_n 1, 1) := by decide +kernel
theorem dX5_whyNotLot_1 : decode cX5_whyNotLot 1 = .ok (.iconst 1, 1) := by decide +kernel
theorem dX5_whyNotLot_2 : decode cX5_whyNotLot 2 = .ok (.sipush 9999, 3) := by decide +kernel
theorem dX5_whyNotLot_5 : decode cX5_whyNotLot 5 = .ok (.invokestatic 32, 3) := by decide +kernel
theorem dX5_whyNotLot_8 : decode cX5_whyNotLot 8 = .ok (.ifCond .ne 8, 3) := by decide +kernel
theorem dX5_whyNotLot_11 : decode cX5_whyNotLot 11 = .ok (.bipush (-2), 2) := by decide +kernel
theorem dX5_whyNotLot_13 : decode cX5_whyNotLot 13 = .ok (.goto 21, 3) := by decide +kernel
theorem dX5_whyNotLot_16 : decode cX5_whyNotLot 16 = .ok (.aload_n 0, 1) := by decide +kernel
theorem dX5_whyNotLot_17 : decode cX5_whyNotLot 17 = .ok (.getfield 7, 3) := by decide +kernel
theorem dX5_whyNotLot_20 : decode cX5_whyNotLot 20 = .ok (.bipush 7, 2) := by decide +kernel
theorem dX5_whyNotLot_22 : decode cX5_whyNotLot 22 = .ok (.iaload, 1) := by decide +kernel
theorem dX5_whyNotLot_23 : decode cX5_whyNotLot 23 = .ok (.bipush 12, 2) := by decide +kernel
theorem dX5_whyNotLot_25 : decode cX5_whyNotLot 25 = .ok (.if_icmp .ne 8, 3) := by decide +kernel
theorem dX5_whyNotLot_28 : decode cX5_whyNotLot 28 = .ok (.bipush (-4), 2) := by decide +kernel
theorem dX5_whyNotLot_30 : decode cX5_whyNotLot 30 = .ok (.goto 4, 3) := by decide +kernel
theorem dX5_whyNotLot_33 : decode cX5_whyNotLot 33 = .ok (.iconst 0, 1) := by decide +kernel
theorem dX5_whyNotLot_34 : decode cX5_whyNotLot 34 = .ok (.ireturn, 1) := by decide +kernel
theorem dX5_lotNow_0 : decode cX5_lotNow 0 = .ok (.aload_n 0, 1) := by decide +kernel
theorem dX5_lotNow_1 : decode cX5_lotNow 1 = .ok (.getfield 7, 3) := by decide +kernel
theorem dX5_lotNow_4 : decode cX5_lotNow 4 = .ok (.bipush 7, 2) := by decide +kernel
theorem dX5_lotNow_6 : decode cX5_lotNow 6 = .ok (.iaload, 1) := by decide +kernel
theorem dX5_lotNow_7 : decode cX5_lotNow 7 = .ok (.istore_n 2, 1) := by decide +kernel
theorem dX5_lotNow_8 : decode cX5_lotNow 8 = .ok (.aload_n 0, 1) := by decide +kernel
theorem dX5_lotNow_9 : decode cX5_lotNow 9 = .ok (.iload_n 2, 1) := by decide +kernel
theorem dX5_lotNow_10 : decode cX5_lotNow 10 = .ok (.iconst 0, 1) := by decide +kernel
theorem dX5_lotNow_11 : decode cX5_lotNow 11 = .ok (.iload_n 1, 1) := by decide +kernel
theorem dX5_lotNow_12 : decode cX5_lotNow 12 = .ok (.invokevirtual 68, 3) := by decide +kernel
theorem dX5_lotNow_15 : decode cX5_lotNow 15 = .ok (.aload_n 0, 1) := by decide +kernel
theorem dX5_lotNow_16 : decode cX5_lotNow 16 = .ok (.iload_n 2, 1) := by decide +kernel
theorem dX5_lotNow_17 : decode cX5_lotNow 17 = .ok (.iconst 1, 1) := by decide +kernel
theorem dX5_lotNow_18 : decode cX5_lotNow 18 = .ok (.iconst 0, 1) := by decide +kernel
theorem dX5_lotNow_19 : decode cX5_lotNow 19 = .ok (.invokevirtual 68, 3) := by decide +kernel
theorem dX5_lotNow_22 : decode cX5_lotNow 22 = .ok (.aload_n 0, 1) := by decide +kernel
theorem dX5_lotNow_23 : decode cX5_lotNow 23 = .ok (.iload_n 2, 1) := by decide +kernel
theorem dX5_lotNow_24 : decode cX5_lotNow 24 = .ok (.iconst 2, 1) := by decide +kernel
theorem dX5_lotNow_25 : decode cX5_lotNow 25 = .ok (.iconst 0, 1) := by decide +kernel
theorem dX5_lotNow_26 : decode cX5_lotNow 26 = .ok (.invokevirtual 68, 3) := by decide +kernel
theorem dX5_lotNow_29 : decode cX5_lotNow 29 = .ok (.aload_n 0, 1) := by decide +kernel
theorem dX5_lotNow_30 : decode cX5_lotNow 30 = .ok (.iload_n 2, 1) := by decide +kernel
theorem dX5_lotNow_31 : decode cX5_lotNow 31 = .ok (.iconst 3, 1) := by decide +kernel
theorem dX5_lotNow_32 : decode cX5_lotNow 32 = .ok (.iconst 0, 1) := by decide +kernel
theorem dX5_lotNow_33 : decode cX5_lotNow 33 = .ok (.invokevirtual 68, 3) := by decide +kernel
theorem dX5_lotNow_36 : decode cX5_lotNow 36 = .ok (.aload_n 0, 1) := by decide +kernel
theorem dX5_lotNow_37 : decode cX5_lotNow 37 = .ok (.getfield 7, 3) := by decide +kernel
theorem dX5_lotNow_40 : decode cX5_lotNow 40 = .ok (.bipush 7, 2) := by decide +kernel
theorem dX5_lotNow_42 : decode cX5_lotNow 42 = .ok (.dup2, 1) := by decide +kernel
theorem dX5_lotNow_43 : decode cX5_lotNow 43 = .ok (.iaload, 1) := by decide +kernel
theorem dX5_lotNow_44 : decode cX5_lotNow 44 = .ok (.iconst 1, 1) := by decide +kernel
theorem dX5_lotNow_45 : decode cX5_lotNow 45 = .ok (.iadd, 1) := by decide +kernel
theorem dX5_lotNow_46 : decode cX5_lotNow 46 = .ok (.iastore, 1) := by decide +kernel
theorem dX5_lotNow_47 : decode cX5_lotNow 47 = .ok (.iload_n 2, 1) := by decide +kernel
theorem dX5_lotNow_48 : decode cX5_lotNow 48 = .ok (.ireturn, 1) := by decide +kernel
theorem dX5_lot_0 : decode cX5_lot 0 = .ok (.aload_n 0, 1) := by decide +kernel
theorem dX5_lot_1 : decode cX5_lot 1 = .ok (.iload_n 1, 1) := by decide +kernel
theorem dX5_lot_2 : decode cX5_lot 2 = .ok (.invokevirtual 72, 3) := by decide +kernel
theorem dX5_lot_5 : decode cX5_lot 5 = .ok (.istore_n 2, 1) := by decide +kernel
theorem dX5_lot_6 : decode cX5_lot 6 = .ok (.iload_n 2, 1) := by decide +kernel
theorem dX5_lot_7 : decode cX5_lot 7 = .ok (.ifCond .ge 5, 3) := by decide +kernel
theorem dX5_lot_10 : decode cX5_lot 10 = .ok (.iload_n 2, 1) := by decide +kernel
theorem dX5_lot_11 : decode cX5_lot 11 = .ok (.ireturn, 1) := by decide +kernel
theorem dX5_lot_12 : decode cX5_lot 12 = .ok (.aload_n 0, 1) := by decide +kernel
theorem dX5_lot_13 : decode cX5_lot 13 = .ok (.invokevirtual 44, 3) := by decide +kernel
theorem dX5_lot_16 : decode cX5_lot 16 = .ok (.aload_n 0, 1) := by decide +kernel
theorem dX5_lot_17 : decode cX5_lot 17 = .ok (.iload_n 1, 1) := by decide +kernel
theorem dX5_lot_18 : decode cX5_lot 18 = .ok (.invokevirtual 75, 3) := by decide +kernel
theorem dX5_lot_21 : decode cX5_lot 21 = .ok (.ireturn, 1) := by decide +kernel
theorem dX5_lotsThatAre_0 : decode cX5_lotsThatAre 0 = .ok (.iconst 0, 1) := by decide +kernel
theorem dX5_lotsThatAre_1 : decode cX5_lotsThatAre 1 = .ok (.istore_n 2, 1) := by decide +kernel
theorem dX5_lotsThatAre_2 : decode cX5_lotsThatAre 2 = .ok (.iconst 0, 1) := by decide +kernel
theorem dX5_lotsThatAre_3 : decode cX5_lotsThatAre 3 = .ok (.istore_n 3, 1) := by decide +kernel
theorem dX5_lotsThatAre_4 : decode cX5_lotsThatAre 4 = .ok (.iload_n 3, 1) := by decide +kernel
theorem dX5_lotsThatAre_5 : decode cX5_lotsThatAre 5 = .ok (.aload_n 0, 1) := by decide +kernel
theorem dX5_lotsThatAre_6 : decode cX5_lotsThatAre 6 = .ok (.getfield 7, 3) := by decide +kernel
theorem dX5_lotsThatAre_9 : decode cX5_lotsThatAre 9 = .ok (.bipush 7, 2) := by decide +kernel
theorem dX5_lotsThatAre_11 : decode cX5_lotsThatAre 11 = .ok (.iaload, 1) := by decide +kernel
theorem dX5_lotsThatAre_12 : decode cX5_lotsThatAre 12 = .ok (.if_icmp .ge 29, 3) := by decide +kernel
theorem dX5_lotsThatAre_15 : decode cX5_lotsThatAre 15 = .ok (.iload_n 2, 1) := by decide +kernel
theorem dX5_lotsThatAre_16 : decode cX5_lotsThatAre 16 = .ok (.aload_n 0, 1) := by decide +kernel
theorem dX5_lotsThatAre_17 : decode cX5_lotsThatAre 17 = .ok (.iload_n 3, 1) := by decide +kernel
theorem dX5_lotsThatAre_18 : decode cX5_lotsThatAre 18 = .ok (.iconst 1, 1) := by decide +kernel
theorem dX5_lotsThatAre_19 : decode cX5_lotsThatAre 19 = .ok (.invokevirtual 58, 3) := by decide +kernel
theorem dX5_lotsThatAre_22 : decode cX5_lotsThatAre 22 = .ok (.iload_n 1, 1) := by decide +kernel
theorem dX5_lotsThatAre_23 : decode cX5_lotsThatAre 23 = .ok (.if_icmp .ne 9, 3) := by decide +kernel
theorem dX5_lotsThatAre_26 : decode cX5_lotsThatAre 26 = .ok (.iconst 1, 1) := by decide +kernel
theorem dX5_lotsThatAre_27 : decode cX5_lotsThatAre 27 = .ok (.iload_n 3, 1) := by decide +kernel
theorem dX5_lotsThatAre_28 : decode cX5_lotsThatAre 28 = .ok (.ishl, 1) := by decide +kernel
theorem dX5_lotsThatAre_29 : decode cX5_lotsThatAre 29 = .ok (.goto 4, 3) := by decide +kernel
theorem dX5_lotsThatAre_32 : decode cX5_lotsThatAre 32 = .ok (.iconst 0, 1) := by decide +kernel
theorem dX5_lotsThatAre_33 : decode cX5_lotsThatAre 33 = .ok (.ior, 1) := by decide +kernel
theorem dX5_lotsThatAre_34 : decode cX5_lotsThatAre 34 = .ok (.istore_n 2, 1) := by decide +kernel
theorem dX5_lotsThatAre_35 : decode cX5_lotsThatAre 35 = .ok (.iinc 3 1, 3) := by decide +kernel
theorem dX5_lotsThatAre_38 : decode cX5_lotsThatAre 38 = .ok (.goto (-34), 3) := by decide +kernel
theorem dX5_lotsThatAre_41 : decode cX5_lotsThatAre 41 = .ok (.iload_n 2, 1) := by decide +kernel
theorem dX5_lotsThatAre_42 : decode cX5_lotsThatAre 42 = .ok (.ireturn, 1) := by decide +kernel
theorem dX5_whyNotNotice_0 : decode cX5_whyNotNotice 0 = .ok (.aload_n 0, 1) := by decide +kernel
theorem dX5_whyNotNotice_1 : decode cX5_whyNotNotice 1 = .ok (.iload_n 1, 1) := by decide +kernel
theorem dX5_whyNotNotice_2 : decode cX5_whyNotNotice 2 = .ok (.invokevirtual 78, 3) := by decide +kernel
theorem dX5_whyNotNotice_5 : decode cX5_whyNotNotice 5 = .ok (.ifCond .ne 7, 3) := by decide +kernel
theorem dX5_whyNotNotice_8 : decode cX5_whyNotNotice 8 = .ok (.iconst (-1), 1) := by decide +kernel
theorem dX5_whyNotNotice_9 : decode cX5_whyNotNotice 9 = .ok (.goto 18, 3) := by decide +kernel
theorem dX5_whyNotNotice_12 : decode cX5_whyNotNotice 12 = .ok (.aload_n 0, 1) := by decide +kernel
theorem dX5_whyNotNotice_13 : decode cX5_whyNotNotice 13 = .ok (.iload_n 1, 1) := by decide +kernel
theorem dX5_whyNotNotice_14 : decode cX5_whyNotNotice 14 = .ok (.iconst 1, 1) := by decide +kernel
theorem dX5_whyNotNotice_15 : decode cX5_whyNotNotice 15 = .ok (.invokevirtual 58, 3) := by decide +kernel
theorem dX5_whyNotNotice_18 : decode cX5_whyNotNotice 18 = .ok (.ifCond .ne 7, 3) := by decide +kernel
theorem dX5_whyNotNotice_21 : decode cX5_whyNotNotice 21 = .ok (.iconst 0, 1) := by decide +kernel
theorem dX5_whyNotNotice_22 : decode cX5_whyNotNotice 22 = .ok (.goto 5, 3) := by decide +kernel
theorem dX5_whyNotNotice_25 : decode cX5_whyNotNotice 25 = .ok (.bipush (-5), 2) := by decide +kernel
theorem dX5_whyNotNotice_27 : decode cX5_whyNotNotice 27 = .ok (.ireturn, 1) := by decide +kernel
theorem dX5_noticeNow_0 : decode cX5_noticeNow 0 = .ok (.aload_n 0, 1) := by decide +kernel
theorem dX5_noticeNow_1 : decode cX5_noticeNow 1 = .ok (.iload_n 1, 1) := by decide +kernel
theorem dX5_noticeNow_2 : decode cX5_noticeNow 2 = .ok (.iconst 1, 1) := by decide +kernel
theorem dX5_noticeNow_3 : decode cX5_noticeNow 3 = .ok (.iconst 1, 1) := by decide +kernel
theorem dX5_noticeNow_4 : decode cX5_noticeNow 4 = .ok (.invokevirtual 68, 3) := by decide +kernel
theorem dX5_noticeNow_7 : decode cX5_noticeNow 7 = .ok (.aload_n 0, 1) := by decide +kernel
theorem dX5_noticeNow_8 : decode cX5_noticeNow 8 = .ok (.iconst 1, 1) := by decide +kernel
theorem dX5_noticeNow_9 : decode cX5_noticeNow 9 = .ok (.invokevirtual 82, 3) := by decide +kernel
theorem dX5_noticeNow_12 : decode cX5_noticeNow 12 = .ok (.invokestatic 61, 3) := by decide +kernel
theorem dX5_noticeNow_15 : decode cX5_noticeNow 15 = .ok (.ireturn, 1) := by decide +kernel
theorem dX5_notice_0 : decode cX5_notice 0 = .ok (.aload_n 0, 1) := by decide +kernel
theorem dX5_notice_1 : decode cX5_notice 1 = .ok (.iload_n 1, 1) := by decide +kernel
theorem dX5_notice_2 : decode cX5_notice 2 = .ok (.invokevirtual 85, 3) := by decide +kernel
theorem dX5_notice_5 : decode cX5_notice 5 = .ok (.istore_n 2, 1) := by decide +kernel
theorem dX5_notice_6 : decode cX5_notice 6 = .ok (.iload_n 2, 1) := by decide +kernel
theorem dX5_notice_7 : decode cX5_notice 7 = .ok (.ifCond .ge 5, 3) := by decide +kernel
theorem dX5_notice_10 : decode cX5_notice 10 = .ok (.iload_n 2, 1) := by decide +kernel
theorem dX5_notice_11 : decode cX5_notice 11 = .ok (.ireturn, 1) := by decide +kernel
theorem dX5_notice_12 : decode cX5_notice 12 = .ok (.aload_n 0, 1) := by decide +kernel
theorem dX5_notice_13 : decode cX5_notice 13 = .ok (.invokevirtual 44, 3) := by decide +kernel
theorem dX5_notice_16 : decode cX5_notice 16 = .ok (.aload_n 0, 1) := by decide +kernel
theorem dX5_notice_17 : decode cX5_notice 17 = .ok (.iload_n 1, 1) := by decide +kernel
theorem dX5_notice_18 : decode cX5_notice 18 = .ok (.invokevirtual 88, 3) := by decide +kernel
theorem dX5_notice_21 : decode cX5_notice 21 = .ok (.ireturn, 1) := by decide +kernel
theorem dX5_isEnded_0 : decode cX5_isEnded 0 = .ok (.aload_n 0, 1) := by decide +kernel
theorem dX5_isEnded_1 : decode cX5_isEnded 1 = .ok (.iload_n 1, 1) := by decide +kernel
theorem dX5_isEnded_2 : decode cX5_isEnded 2 = .ok (.iconst 1, 1) := by decide +kernel
theorem dX5_isEnded_3 : decode cX5_isEnded 3 = .ok (.invokevirtual 58, 3) := by decide +kernel
theorem dX5_isEnded_6 : decode cX5_isEnded 6 = .ok (.iconst 2, 1) := by decide +kernel
theorem dX5_isEnded_7 : decode cX5_isEnded 7 = .ok (.if_icmp .eq 13, 3) := by decide +kernel
theorem dX5_isEnded_10 : decode cX5_isEnded 10 = .ok (.aload_n 0, 1) := by decide +kernel
theorem dX5_isEnded_11 : decode cX5_isEnded 11 = .ok (.iload_n 1, 1) := by decide +kernel
theorem dX5_isEnded_12 : decode cX5_isEnded 12 = .ok (.iconst 1, 1) := by decide +kernel
theorem dX5_isEnded_13 : decode cX5_isEnded 13 = .ok (.invokevirtual 58, 3) := by decide +kernel
theorem dX5_isEnded_16 : decode cX5_isEnded 16 = .ok (.iconst 4, 1) := by decide +kernel
theorem dX5_isEnded_17 : decode cX5_isEnded 17 = .ok (.if_icmp .ne 7, 3) := by decide +kernel
theorem dX5_isEnded_20 : decode cX5_isEnded 20 = .ok (.iconst 1, 1) := by decide +kernel
theorem dX5_isEnded_21 : decode cX5_isEnded 21 = .ok (.goto 4, 3) := by decide +kernel
theorem dX5_isEnded_24 : decode cX5_isEnded 24 = .ok (.iconst 0, 1) := by decide +kernel
theorem dX5_isEnded_25 : decode cX5_isEnded 25 = .ok (.ireturn, 1) := by decide +kernel
theorem dX5_claims_0 : decode cX5_claims 0 = .ok (.iconst 0, 1) := by decide +kernel
theorem dX5_claims_1 : decode cX5_claims 1 = .ok (.istore_n 3, 1) := by decide +kernel
theorem dX5_claims_2 : decode cX5_claims 2 = .ok (.iconst 0, 1) := by decide +kernel
theorem dX5_claims_3 : decode cX5_claims 3 = .ok (.istore 4, 2) := by decide +kernel
theorem dX5_claims_5 : decode cX5_claims 5 = .ok (.iload 4, 2) := by decide +kernel
theorem dX5_claims_7 : decode cX5_claims 7 = .ok (.aload_n 0, 1) := by decide +kernel
theorem dX5_claims_8 : decode cX5_claims 8 = .ok (.getfield 7, 3) := by decide +kernel
theorem dX5_claims_11 : decode cX5_claims 11 = .ok (.bipush 8, 2) := by decide +kernel
theorem dX5_claims_13 : decode cX5_claims 13 = .ok (.iaload, 1) := by decide +kernel
theorem dX5_claims_14 : decode cX5_claims 14 = .ok (.if_icmp .ge 50, 3) := by decide +kernel
theorem dX5_claims_17 : decode cX5_claims 17 = .ok (.iload_n 3, 1) := by decide +kernel
theorem dX5_claims_18 : decode cX5_claims 18 = .ok (.ifCond .ne 34, 3) := by decide +kernel
theorem dX5_claims_21 : decode cX5_claims 21 = .ok (.aload_n 0, 1) := by decide +kernel
theorem dX5_claims_22 : decode cX5_claims 22 = .ok (.iload 4, 2) := by decide +kernel
theorem dX5_claims_24 : decode cX5_claims 24 = .ok (.iconst 0, 1) := by decide +kernel
theorem dX5_claims_25 : decode cX5_claims 25 = .ok (.invokevirtual 47, 3) := by decide +kernel
theorem dX5_claims_28 : decode cX5_claims 28 = .ok (.iload_n 1, 1) := by decide +kernel
theorem dX5_claims_29 : decode cX5_claims 29 = .ok (.if_icmp .ne 27, 3) := by decide +kernel
theorem dX5_claims_32 : decode cX5_claims 32 = .ok (.aload_n 0, 1) := by decide +kernel
theorem dX5_claims_33 : decode cX5_claims 33 = .ok (.iload 4, 2) := by decide +kernel
theorem dX5_claims_35 : decode cX5_claims 35 = .ok (.iconst 1, 1) := by decide +kernel
theorem dX5_claims_36 : decode cX5_claims 36 = .ok (.invokevirtual 47, 3) := by decide +kernel
theorem dX5_claims_39 : decode cX5_claims 39 = .ok (.iload_n 2, 1) := by decide +kernel
theorem dX5_claims_40 : decode cX5_claims 40 = .ok (.if_icmp .ne 16, 3) := by decide +kernel
theorem dX5_claims_43 : decode cX5_claims 43 = .ok (.aload_n 0, 1) := by decide +kernel
theorem dX5_claims_44 : decode cX5_claims 44 = .ok (.iload 4, 2) := by decide +kernel
theorem dX5_claims_46 : decode cX5_claims 46 = .ok (.invokevirtual 91, 3) := by decide +kernel
theorem dX5_claims_49 : decode cX5_claims 49 = .ok (.ifCond .eq 7, 3) := by decide +kernel
theorem dX5_claims_52 : decode cX5_claims 52 = .ok (.iconst 1, 1) := by decide +kernel
theorem dX5_claims_53 : decode cX5_claims 53 = .ok (.goto 4, 3) := by decide +kernel
theorem dX5_claims_56 : decode cX5_claims 56 = .ok (.iconst 0, 1) := by decide +kernel
theorem dX5_claims_57 : decode cX5_claims 57 = .ok (.istore_n 3, 1) := by decide +kernel
theorem dX5_claims_58 : decode cX5_claims 58 = .ok (.iinc 4 1, 3) := by decide +kernel
theorem dX5_claims_61 : decode cX5_claims 61 = .ok (.goto (-56), 3) := by decide +kernel
theorem dX5_claims_64 : decode cX5_claims 64 = .ok (.iload_n 3, 1) := by decide +kernel
theorem dX5_claims_65 : decode cX5_claims 65 = .ok (.ireturn, 1) := by decide +kernel
theorem dX5_whyNotClaim_0 : decode cX5_whyNotClaim 0 = .ok (.iload_n 1, 1) := by decide +kernel
theorem dX5_whyNotClaim_1 : decode cX5_whyNotClaim 1 = .ok (.invokestatic 94, 3) := by decide +kernel
theorem dX5_whyNotClaim_4 : decode cX5_whyNotClaim 4 = .ok (.ifCond .eq 11, 3) := by decide +kernel
theorem dX5_whyNotClaim_7 : decode cX5_whyNotClaim 7 = .ok (.aload_n 0, 1) := by decide +kernel
theorem dX5_whyNotClaim_8 : decode cX5_whyNotClaim 8 = .ok (.iload_n 2, 1) := by decide +kernel
theorem dX5_whyNotClaim_9 : decode cX5_whyNotClaim 9 = .ok (.invokevirtual 78, 3) := by decide +kernel
theorem dX5_whyNotClaim_12 : decode cX5_whyNotClaim 12 = .ok (.ifCond .ne 5, 3) := by decide +kernel
theorem dX5_whyNotClaim_15 : decode cX5_whyNotClaim 15 = .ok (.iconst (-1), 1) := by decide +kernel
theorem dX5_whyNotClaim_16 : decode cX5_whyNotClaim 16 = .ok (.ireturn, 1) := by decide +kernel
theorem dX5_whyNotClaim_17 : decode cX5_whyNotClaim 17 = .ok (.iload_n 3, 1) := by decide +kernel
theorem dX5_whyNotClaim_18 : decode cX5_whyNotClaim 18 = .ok (.iconst 1, 1) := by decide +kernel
theorem dX5_whyNotClaim_19 : decode cX5_whyNotClaim 19 = .ok (.iconst 5, 1) := by decide +kernel
theorem dX5_whyNotClaim_20 : decode cX5_whyNotClaim 20 = .ok (.invokestatic 32, 3) := by decide +kernel
theorem dX5_whyNotClaim_23 : decode cX5_whyNotClaim 23 = .ok (.ifCond .ne 6, 3) := by decide +kernel
theorem dX5_whyNotClaim_26 : decode cX5_whyNotClaim 26 = .ok (.bipush (-2), 2) := by decide +kernel
theorem dX5_whyNotClaim_28 : decode cX5_whyNotClaim 28 = .ok (.ireturn, 1) := by decide +kernel
theorem dX5_whyNotClaim_29 : decode cX5_whyNotClaim 29 = .ok (.aload_n 0, 1) := by decide +kernel
theorem dX5_whyNotClaim_30 : decode cX5_whyNotClaim 30 = .ok (.iload_n 2, 1) := by decide +kernel
theorem dX5_whyNotClaim_31 : decode cX5_whyNotClaim 31 = .ok (.iconst 1, 1) := by decide +kernel
theorem dX5_whyNotClaim_32 : decode cX5_whyNotClaim 32 = .ok (.invokevirtual 58, 3) := by decide +kernel
theorem dX5_whyNotClaim_35 : decode cX5_whyNotClaim 35 = .ok (.iconst 3, 1) := by decide +kernel
theorem dX5_whyNotClaim_36 : decode cX5_whyNotClaim 36 = .ok (.if_icmp .ne 22, 3) := by decide +kernel
theorem dX5_whyNotClaim_39 : decode cX5_whyNotClaim 39 = .ok (.aload_n 0, 1) := by decide +kernel
theorem dX5_whyNotClaim_40 : decode cX5_whyNotClaim 40 = .ok (.iload_n 2, 1) := by decide +kernel
theorem dX5_whyNotClaim_41 : decode cX5_whyNotClaim 41 = .ok (.iconst 3, 1) := by decide +kernel
theorem dX5_whyNotClaim_42 : decode cX5_whyNotClaim 42 = .ok (.invokevirtual 58, 3) := by decide +kernel
theorem dX5_whyNotClaim_45 : decode cX5_whyNotClaim 45 = .ok (.aload_n 0, 1) := by decide +kernel
theorem dX5_whyNotClaim_46 : decode cX5_whyNotClaim 46 = .ok (.getfield 7, 3) := by decide +kernel
theorem dX5_whyNotClaim_49 : decode cX5_whyNotClaim 49 = .ok (.iconst 3, 1) := by decide +kernel
theorem dX5_whyNotClaim_50 : decode cX5_whyNotClaim 50 = .ok (.iaload, 1) := by decide +kernel
theorem dX5_whyNotClaim_51 : decode cX5_whyNotClaim 51 = .ok (.if_icmp .le 7, 3) := by decide +kernel
theorem dX5_whyNotClaim_54 : decode cX5_whyNotClaim 54 = .ok (.iconst 1, 1) := by decide +kernel
theorem dX5_whyNotClaim_55 : decode cX5_whyNotClaim 55 = .ok (.goto 4, 3) := by decide +kernel
theorem dX5_whyNotClaim_58 : decode cX5_whyNotClaim 58 = .ok (.iconst 0, 1) := by decide +kernel
theorem dX5_whyNotClaim_59 : decode cX5_whyNotClaim 59 = .ok (.istore 4, 2) := by decide +kernel
theorem dX5_whyNotClaim_61 : decode cX5_whyNotClaim 61 = .ok (.aload_n 0, 1) := by decide +kernel
theorem dX5_whyNotClaim_62 : decode cX5_whyNotClaim 62 = .ok (.iload_n 2, 1) := by decide +kernel
theorem dX5_whyNotClaim_63 : decode cX5_whyNotClaim 63 = .ok (.invokevirtual 97, 3) := by decide +kernel
theorem dX5_whyNotClaim_66 : decode cX5_whyNotClaim 66 = .ok (.ifCond .ne 17, 3) := by decide +kernel
theorem dX5_whyNotClaim_69 : decode cX5_whyNotClaim 69 = .ok (.iload 4, 2) := by decide +kernel
theorem dX5_whyNotClaim_71 : decode cX5_whyNotClaim 71 = .ok (.ifCond .ne 12, 3) := by decide +kernel
theorem dX5_whyNotClaim_74 : decode cX5_whyNotClaim 74 = .ok (.aload_n 0, 1) := by decide +kernel
theorem dX5_whyNotClaim_75 : decode cX5_whyNotClaim 75 = .ok (.iload_n 1, 1) := by decide +kernel
theorem dX5_whyNotClaim_76 : decode cX5_whyNotClaim 76 = .ok (.iload_n 2, 1) := by decide +kernel
theorem dX5_whyNotClaim_77 : decode cX5_whyNotClaim 77 = .ok (.invokevirtual 100, 3) := by decide +kernel
theorem dX5_whyNotClaim_80 : decode cX5_whyNotClaim 80 = .ok (.ifCond .eq 8, 3) := by decide +kernel
theorem dX5_whyNotClaim_83 : decode cX5_whyNotClaim 83 = .ok (.bipush (-5), 2) := by decide +kernel
theorem dX5_whyNotClaim_85 : decode cX5_whyNotClaim 85 = .ok (.goto 21, 3) := by decide +kernel
theorem dX5_whyNotClaim_88 : decode cX5_whyNotClaim 88 = .ok (.aload_n 0, 1) := by decide +kernel
theorem dX5_whyNotClaim_89 : decode cX5_whyNotClaim 89 = .ok (.getfield 7, 3) := by decide +kernel
theorem dX5_whyNotClaim_92 : decode cX5_whyNotClaim 92 = .ok (.bipush 8, 2) := by decide +kernel
theorem dX5_whyNotClaim_94 : decode cX5_whyNotClaim 94 = .ok (.iaload, 1) := by decide +kernel
theorem dX5_whyNotClaim_95 : decode cX5_whyNotClaim 95 = .ok (.bipush 30, 2) := by decide +kernel
theorem dX5_whyNotClaim_97 : decode cX5_whyNotClaim 97 = .ok (.if_icmp .ne 8, 3) := by decide +kernel
theorem dX5_whyNotClaim_100 : decode cX5_whyNotClaim 100 = .ok (.bipush (-4), 2) := by decide +kernel
theorem dX5_whyNotClaim_102 : decode cX5_whyNotClaim 102 = .ok (.goto 4, 3) := by decide +kernel
theorem dX5_whyNotClaim_105 : decode cX5_whyNotClaim 105 = .ok (.iconst 0, 1) := by decide +kernel
theorem dX5_whyNotClaim_106 : decode cX5_whyNotClaim 106 = .ok (.ireturn, 1) := by decide +kernel
theorem dX5_claimNow_0 : decode cX5_claimNow 0 = .ok (.aload_n 0, 1) := by decide +kernel
theorem dX5_claimNow_1 : decode cX5_claimNow 1 = .ok (.getfield 7, 3) := by decide +kernel
theorem dX5_claimNow_4 : decode cX5_claimNow 4 = .ok (.bipush 8, 2) := by decide +kernel
theorem dX5_claimNow_6 : decode cX5_claimNow 6 = .ok (.iaload, 1) := by decide +kernel
theorem dX5_claimNow_7 : decode cX5_claimNow 7 = .ok (.istore 4, 2) := by decide +kernel
theorem dX5_claimNow_9 : decode cX5_claimNow 9 = .ok (.iconst 0, 1) := by decide +kernel
theorem dX5_claimNow_10 : decode cX5_claimNow 10 = .ok (.istore 5, 2) := by decide +kernel
theorem dX5_claimNow_12 : decode cX5_claimNow 12 = .ok (.iload 5, 2) := by decide +kernel
theorem dX5_claimNow_14 : decode cX5_claimNow 14 = .ok (.bipush 7, 2) := by decide +kernel
theorem dX5_claimNow_16 : decode cX5_claimNow 16 = .ok (.if_icmp .ge 18, 3) := by decide +kernel
theorem dX5_claimNow_19 : decode cX5_claimNow 19 = .ok (.aload_n 0, 1) := by decide +kernel
theorem dX5_claimNow_20 : decode cX5_claimNow 20 = .ok (.iload 4, 2) := by decide +kernel
theorem dX5_claimNow_22 : decode cX5_claimNow 22 = .ok (.iload 5, 2) := by decide +kernel
theorem dX5_claimNow_24 : decode cX5_claimNow 24 = .ok (.iconst 0, 1) := by decide +kernel
theorem dX5_claimNow_25 : decode cX5_claimNow 25 = .ok (.invokevirtual 103, 3) := by decide +kernel
theorem dX5_claimNow_28 : decode cX5_claimNow 28 = .ok (.iinc 5 1, 3) := by decide +kernel
theorem dX5_claimNow_31 : decode cX5_claimNow 31 = .ok (.goto (-19), 3) := by decide +kernel
theorem dX5_claimNow_34 : decode cX5_claimNow 34 = .ok (.aload_n 0, 1) := by decide +kernel
theorem dX5_claimNow_35 : decode cX5_claimNow 35 = .ok (.iload 4, 2) := by decide +kernel
theorem dX5_claimNow_37 : decode cX5_claimNow 37 = .ok (.iconst 0, 1) := by decide +kernel
theorem dX5_claimNow_38 : decode cX5_claimNow 38 = .ok (.iload_n 1, 1) := by decide +kernel
theorem dX5_claimNow_39 : decode cX5_claimNow 39 = .ok (.invokevirtual 103, 3) := by decide +kernel
theorem dX5_claimNow_42 : decode cX5_claimNow 42 = .ok (.aload_n 0, 1) := by decide +kernel
theorem dX5_claimNow_43 : decode cX5_claimNow 43 = .ok (.iload 4, 2) := by decide +kernel
theorem dX5_claimNow_45 : decode cX5_claimNow 45 = .ok (.iconst 1, 1) := by decide +kernel
theorem dX5_claimNow_46 : decode cX5_claimNow 46 = .ok (.iload_n 2, 1) := by decide +kernel
theorem dX5_claimNow_47 : decode cX5_claimNow 47 = .ok (.invokevirtual 103, 3) := by decide +kernel
theorem dX5_claimNow_50 : decode cX5_claimNow 50 = .ok (.aload_n 0, 1) := by decide +kernel
theorem dX5_claimNow_51 : decode cX5_claimNow 51 = .ok (.iload 4, 2) := by decide +kernel
theorem dX5_claimNow_53 : decode cX5_claimNow 53 = .ok (.iconst 2, 1) := by decide +kernel
theorem dX5_claimNow_54 : decode cX5_claimNow 54 = .ok (.iload_n 3, 1) := by decide +kernel
theorem dX5_claimNow_55 : decode cX5_claimNow 55 = .ok (.invokevirtual 103, 3) := by decide +kernel
theorem dX5_claimNow_58 : decode cX5_claimNow 58 = .ok (.aload_n 0, 1) := by decide +kernel
theorem dX5_claimNow_59 : decode cX5_claimNow 59 = .ok (.getfield 7, 3) := by decide +kernel
theorem dX5_claimNow_62 : decode cX5_claimNow 62 = .ok (.bipush 8, 2) := by decide +kernel
theorem dX5_claimNow_64 : decode cX5_claimNow 64 = .ok (.dup2, 1) := by decide +kernel
theorem dX5_claimNow_65 : decode cX5_claimNow 65 = .ok (.iaload, 1) := by decide +kernel
theorem dX5_claimNow_66 : decode cX5_claimNow 66 = .ok (.iconst 1, 1) := by decide +kernel
theorem dX5_claimNow_67 : decode cX5_claimNow 67 = .ok (.iadd, 1) := by decide +kernel
theorem dX5_claimNow_68 : decode cX5_claimNow 68 = .ok (.iastore, 1) := by decide +kernel
theorem dX5_claimNow_69 : decode cX5_claimNow 69 = .ok (.iload 4, 2) := by decide +kernel
theorem dX5_claimNow_71 : decode cX5_claimNow 71 = .ok (.ireturn, 1) := by decide +kernel
theorem dX5_claim_0 : decode cX5_claim 0 = .ok (.aload_n 0, 1) := by decide +kernel
theorem dX5_claim_1 : decode cX5_claim 1 = .ok (.iload_n 1, 1) := by decide +kernel
theorem dX5_claim_2 : decode cX5_claim 2 = .ok (.iload_n 2, 1) := by decide +kernel
theorem dX5_claim_3 : decode cX5_claim 3 = .ok (.iload_n 3, 1) := by decide +kernel
theorem dX5_claim_4 : decode cX5_claim 4 = .ok (.invokevirtual 106, 3) := by decide +kernel
theorem dX5_claim_7 : decode cX5_claim 7 = .ok (.istore 4, 2) := by decide +kernel
theorem dX5_claim_9 : decode cX5_claim 9 = .ok (.iload 4, 2) := by decide +kernel
theorem dX5_claim_11 : decode cX5_claim 11 = .ok (.ifCond .ge 6, 3) := by decide +kernel
theorem dX5_claim_14 : decode cX5_claim 14 = .ok (.iload 4, 2) := by decide +kernel
theorem dX5_claim_16 : decode cX5_claim 16 = .ok (.ireturn, 1) := by decide +kernel
theorem dX5_claim_17 : decode cX5_claim 17 = .ok (.aload_n 0, 1) := by decide +kernel
theorem dX5_claim_18 : decode cX5_claim 18 = .ok (.invokevirtual 44, 3) := by decide +kernel
theorem dX5_claim_21 : decode cX5_claim 21 = .ok (.aload_n 0, 1) := by decide +kernel
theorem dX5_claim_22 : decode cX5_claim 22 = .ok (.iload_n 1, 1) := by decide +kernel
theorem dX5_claim_23 : decode cX5_claim 23 = .ok (.iload_n 2, 1) := by decide +kernel
theorem dX5_claim_24 : decode cX5_claim 24 = .ok (.iload_n 3, 1) := by decide +kernel
theorem dX5_claim_25 : decode cX5_claim 25 = .ok (.invokevirtual 110, 3) := by decide +kernel
theorem dX5_claim_28 : decode cX5_claim 28 = .ok (.ireturn, 1) := by decide +kernel
theorem dX5_whyNotOpen_0 : decode cX5_whyNotOpen 0 = .ok (.aload_n 0, 1) := by decide +kernel
theorem dX5_whyNotOpen_1 : decode cX5_whyNotOpen 1 = .ok (.iload_n 1, 1) := by decide +kernel
theorem dX5_whyNotOpen_2 : decode cX5_whyNotOpen 2 = .ok (.iconst 4, 1) := by decide +kernel
theorem dX5_whyNotOpen_3 : decode cX5_whyNotOpen 3 = .ok (.invokevirtual 47, 3) := by decide +kernel
theorem dX5_whyNotOpen_6 : decode cX5_whyNotOpen 6 = .ok (.ifCond .ne 7, 3) := by decide +kernel
theorem dX5_whyNotOpen_9 : decode cX5_whyNotOpen 9 = .ok (.iconst 0, 1) := by decide +kernel
theorem dX5_whyNotOpen_10 : decode cX5_whyNotOpen 10 = .ok (.goto 5, 3) := by decide +kernel
theorem dX5_whyNotOpen_13 : decode cX5_whyNotOpen 13 = .ok (.bipush (-5), 2) := by decide +kernel
theorem dX5_whyNotOpen_15 : decode cX5_whyNotOpen 15 = .ok (.ireturn, 1) := by decide +kernel
theorem dX5_whyNotProve_0 : decode cX5_whyNotProve 0 = .ok (.aload_n 0, 1) := by decide +kernel
theorem dX5_whyNotProve_1 : decode cX5_whyNotProve 1 = .ok (.iload_n 1, 1) := by decide +kernel
theorem dX5_whyNotProve_2 : decode cX5_whyNotProve 2 = .ok (.invokevirtual 113, 3) := by decide +kernel
theorem dX5_whyNotProve_5 : decode cX5_whyNotProve 5 = .ok (.ifCond .ne 7, 3) := by decide +kernel
theorem dX5_whyNotProve_8 : decode cX5_whyNotProve 8 = .ok (.iconst (-1), 1) := by decide +kernel
theorem dX5_whyNotProve_9 : decode cX5_whyNotProve 9 = .ok (.goto 23, 3) := by decide +kernel
theorem dX5_whyNotProve_12 : decode cX5_whyNotProve 12 = .ok (.iload_n 2, 1) := by decide +kernel
theorem dX5_whyNotProve_13 : decode cX5_whyNotProve 13 = .ok (.iconst 1, 1) := by decide +kernel
theorem dX5_whyNotProve_14 : decode cX5_whyNotProve 14 = .ok (.bipush 100, 2) := by decide +kernel
theorem dX5_whyNotProve_16 : decode cX5_whyNotProve 16 = .ok (.invokestatic 32, 3) := by decide +kernel
theorem dX5_whyNotProve_19 : decode cX5_whyNotProve 19 = .ok (.ifCond .eq 11, 3) := by decide +kernel
theorem dX5_whyNotProve_22 : decode cX5_whyNotProve 22 = .ok (.aload_n 0, 1) := by decide +kernel
theorem dX5_whyNotProve_23 : decode cX5_whyNotProve 23 = .ok (.iload_n 1, 1) := by decide +kernel
theorem dX5_whyNotProve_24 : decode cX5_whyNotProve 24 = .ok (.invokevirtual 116, 3) := by decide +kernel
theorem dX5_whyNotProve_27 : decode cX5_whyNotProve 27 = .ok (.goto 5, 3) := by decide +kernel
theorem dX5_whyNotProve_30 : decode cX5_whyNotProve 30 = .ok (.bipush (-2), 2) := by decide +kernel
theorem dX5_whyNotProve_32 : decode cX5_whyNotProve 32 = .ok (.ireturn, 1) := by decide +kernel
theorem dX5_proveNow_0 : decode cX5_proveNow 0 = .ok (.aload_n 0, 1) := by decide +kernel
theorem dX5_proveNow_1 : decode cX5_proveNow 1 = .ok (.iload_n 1, 1) := by decide +kernel
theorem dX5_proveNow_2 : decode cX5_proveNow 2 = .ok (.iconst 3, 1) := by decide +kernel
theorem dX5_proveNow_3 : decode cX5_proveNow 3 = .ok (.invokevirtual 47, 3) := by decide +kernel
theorem dX5_proveNow_6 : decode cX5_proveNow 6 = .ok (.iload_n 2, 1) := by decide +kernel
theorem dX5_proveNow_7 : decode cX5_proveNow 7 = .ok (.iadd, 1) := by decide +kernel
theorem dX5_proveNow_8 : decode cX5_proveNow 8 = .ok (.istore_n 3, 1) := by decide +kernel
theorem dX5_proveNow_9 : decode cX5_proveNow 9 = .ok (.aload_n 0, 1) := by decide +kernel
theorem dX5_proveNow_10 : decode cX5_proveNow 10 = .ok (.iload_n 1, 1) := by decide +kernel
theorem dX5_proveNow_11 : decode cX5_proveNow 11 = .ok (.iconst 3, 1) := by decide +kernel
theorem dX5_proveNow_12 : decode cX5_proveNow 12 = .ok (.iload_n 3, 1) := by decide +kernel
theorem dX5_proveNow_13 : decode cX5_proveNow 13 = .ok (.bipush 100, 2) := by decide +kernel
theorem dX5_proveNow_15 : decode cX5_proveNow 15 = .ok (.if_icmp .le 8, 3) := by decide +kernel
theorem dX5_proveNow_18 : decode cX5_proveNow 18 = .ok (.bipush 100, 2) := by decide +kernel
theorem dX5_proveNow_20 : decode cX5_proveNow 20 = .ok (.goto 4, 3) := by decide +kernel
theorem dX5_proveNow_23 : decode cX5_proveNow 23 = .ok (.iload_n 3, 1) := by decide +kernel
theorem dX5_proveNow_24 : decode cX5_proveNow 24 = .ok (.invokevirtual 103, 3) := by decide +kernel
theorem dX5_proveNow_27 : decode cX5_proveNow 27 = .ok (.aload_n 0, 1) := by decide +kernel
theorem dX5_proveNow_28 : decode cX5_proveNow 28 = .ok (.iload_n 1, 1) := by decide +kernel
theorem dX5_proveNow_29 : decode cX5_proveNow 29 = .ok (.iconst 5, 1) := by decide +kernel
theorem dX5_proveNow_30 : decode cX5_proveNow 30 = .ok (.iconst 0, 1) := by decide +kernel
theorem dX5_proveNow_31 : decode cX5_proveNow 31 = .ok (.invokevirtual 103, 3) := by decide +kernel
theorem dX5_proveNow_34 : decode cX5_proveNow 34 = .ok (.aload_n 0, 1) := by decide +kernel
theorem dX5_proveNow_35 : decode cX5_proveNow 35 = .ok (.iload_n 1, 1) := by decide +kernel
theorem dX5_proveNow_36 : decode cX5_proveNow 36 = .ok (.iconst 3, 1) := by decide +kernel
theorem dX5_proveNow_37 : decode cX5_proveNow 37 = .ok (.invokevirtual 47, 3) := by decide +kernel
theorem dX5_proveNow_40 : decode cX5_proveNow 40 = .ok (.ireturn, 1) := by decide +kernel
theorem dX5_prove_0 : decode cX5_prove 0 = .ok (.aload_n 0, 1) := by decide +kernel
theorem dX5_prove_1 : decode cX5_prove 1 = .ok (.iload_n 1, 1) := by decide +kernel
theorem dX5_prove_2 : decode cX5_prove 2 = .ok (.iload_n 2, 1) := by decide +kernel
theorem dX5_prove_3 : decode cX5_prove 3 = .ok (.invokevirtual 119, 3) := by decide +kernel
theorem dX5_prove_6 : decode cX5_prove 6 = .ok (.istore_n 3, 1) := by decide +kernel
theorem dX5_prove_7 : decode cX5_prove 7 = .ok (.iload_n 3, 1) := by decide +kernel
theorem dX5_prove_8 : decode cX5_prove 8 = .ok (.ifCond .ge 5, 3) := by decide +kernel
theorem dX5_prove_11 : decode cX5_prove 11 = .ok (.iload_n 3, 1) := by decide +kernel
theorem dX5_prove_12 : decode cX5_prove 12 = .ok (.ireturn, 1) := by decide +kernel
theorem dX5_prove_13 : decode cX5_prove 13 = .ok (.aload_n 0, 1) := by decide +kernel
theorem dX5_prove_14 : decode cX5_prove 14 = .ok (.invokevirtual 44, 3) := by decide +kernel
theorem dX5_prove_17 : decode cX5_prove 17 = .ok (.aload_n 0, 1) := by decide +kernel
theorem dX5_prove_18 : decode cX5_prove 18 = .ok (.iload_n 1, 1) := by decide +kernel
theorem dX5_prove_19 : decode cX5_prove 19 = .ok (.iload_n 2, 1) := by decide +kernel
theorem dX5_prove_20 : decode cX5_prove 20 = .ok (.invokevirtual 122, 3) := by decide +kernel
theorem dX5_prove_23 : decode cX5_prove 23 = .ok (.ireturn, 1) := by decide +kernel
theorem dX5_whyNotDecide_0 : decode cX5_whyNotDecide 0 = .ok (.aload_n 0, 1) := by decide +kernel
theorem dX5_whyNotDecide_1 : decode cX5_whyNotDecide 1 = .ok (.iload_n 1, 1) := by decide +kernel
theorem dX5_whyNotDecide_2 : decode cX5_whyNotDecide 2 = .ok (.invokevirtual 113, 3) := by decide +kernel
theorem dX5_whyNotDecide_5 : decode cX5_whyNotDecide 5 = .ok (.ifCond .eq 11, 3) := by decide +kernel
theorem dX5_whyNotDecide_8 : decode cX5_whyNotDecide 8 = .ok (.aload_n 0, 1) := by decide +kernel
theorem dX5_whyNotDecide_9 : decode cX5_whyNotDecide 9 = .ok (.iload_n 1, 1) := by decide +kernel
theorem dX5_whyNotDecide_10 : decode cX5_whyNotDecide 10 = .ok (.invokevirtual 116, 3) := by decide +kernel
theorem dX5_whyNotDecide_13 : decode cX5_whyNotDecide 13 = .ok (.goto 4, 3) := by decide +kernel
theorem dX5_whyNotDecide_16 : decode cX5_whyNotDecide 16 = .ok (.iconst (-1), 1) := by decide +kernel
theorem dX5_whyNotDecide_17 : decode cX5_whyNotDecide 17 = .ok (.ireturn, 1) := by decide +kernel
theorem dX5_decideNow_0 : decode cX5_decideNow 0 = .ok (.aload_n 0, 1) := by decide +kernel
theorem dX5_decideNow_1 : decode cX5_decideNow 1 = .ok (.iload_n 1, 1) := by decide +kernel
theorem dX5_decideNow_2 : decode cX5_decideNow 2 = .ok (.iconst 4, 1) := by decide +kernel
theorem dX5_decideNow_3 : decode cX5_decideNow 3 = .ok (.aload_n 0, 1) := by decide +kernel
theorem dX5_decideNow_4 : decode cX5_decideNow 4 = .ok (.iload_n 1, 1) := by decide +kernel
theorem dX5_decideNow_5 : decode cX5_decideNow 5 = .ok (.iconst 3, 1) := by decide +kernel
theorem dX5_decideNow_6 : decode cX5_decideNow 6 = .ok (.invokevirtual 47, 3) := by decide +kernel
theorem dX5_decideNow_9 : decode cX5_decideNow 9 = .ok (.aload_n 0, 1) := by decide +kernel
theorem dX5_decideNow_10 : decode cX5_decideNow 10 = .ok (.getfield 7, 3) := by decide +kernel
theorem dX5_decideNow_13 : decode cX5_decideNow 13 = .ok (.iconst 1, 1) := by decide +kernel
theorem dX5_decideNow_14 : decode cX5_decideNow 14 = .ok (.iaload, 1) := by decide +kernel
theorem dX5_decideNow_15 : decode cX5_decideNow 15 = .ok (.if_icmp .lt 7, 3) := by decide +kernel
theorem dX5_decideNow_18 : decode cX5_decideNow 18 = .ok (.iconst 1, 1) := by decide +kernel
theorem dX5_decideNow_19 : decode cX5_decideNow 19 = .ok (.goto 4, 3) := by decide +kernel
theorem dX5_decideNow_22 : decode cX5_decideNow 22 = .ok (.iconst 2, 1) := by decide +kernel
theorem dX5_decideNow_23 : decode cX5_decideNow 23 = .ok (.invokevirtual 103, 3) := by decide +kernel
theorem dX5_decideNow_26 : decode cX5_decideNow 26 = .ok (.aload_n 0, 1) := by decide +kernel
theorem dX5_decideNow_27 : decode cX5_decideNow 27 = .ok (.iload_n 1, 1) := by decide +kernel
theorem dX5_decideNow_28 : decode cX5_decideNow 28 = .ok (.iconst 4, 1) := by decide +kernel
theorem dX5_decideNow_29 : decode cX5_decideNow 29 = .ok (.invokevirtual 47, 3) := by decide +kernel
theorem dX5_decideNow_32 : decode cX5_decideNow 32 = .ok (.ireturn, 1) := by decide +kernel
theorem dX5_decide_0 : decode cX5_decide 0 = .ok (.aload_n 0, 1) := by decide +kernel
theorem dX5_decide_1 : decode cX5_decide 1 = .ok (.iload_n 1, 1) := by decide +kernel
theorem dX5_decide_2 : decode cX5_decide 2 = .ok (.invokevirtual 125, 3) := by decide +kernel
theorem dX5_decide_5 : decode cX5_decide 5 = .ok (.istore_n 2, 1) := by decide +kernel
theorem dX5_decide_6 : decode cX5_decide 6 = .ok (.iload_n 2, 1) := by decide +kernel
theorem dX5_decide_7 : decode cX5_decide 7 = .ok (.ifCond .ge 5, 3) := by decide +kernel
theorem dX5_decide_10 : decode cX5_decide 10 = .ok (.iload_n 2, 1) := by decide +kernel
theorem dX5_decide_11 : decode cX5_decide 11 = .ok (.ireturn, 1) := by decide +kernel
theorem dX5_decide_12 : decode cX5_decide 12 = .ok (.aload_n 0, 1) := by decide +kernel
theorem dX5_decide_13 : decode cX5_decide 13 = .ok (.invokevirtual 44, 3) := by decide +kernel
theorem dX5_decide_16 : decode cX5_decide 16 = .ok (.aload_n 0, 1) := by decide +kernel
theorem dX5_decide_17 : decode cX5_decide 17 = .ok (.iload_n 1, 1) := by decide +kernel
theorem dX5_decide_18 : decode cX5_decide 18 = .ok (.invokevirtual 128, 3) := by decide +kernel
theorem dX5_decide_21 : decode cX5_decide 21 = .ok (.ireturn, 1) := by decide +kernel
theorem dX5_whyNotWithdraw_0 : decode cX5_whyNotWithdraw 0 = .ok (.aload_n 0, 1) := by decide +kernel
theorem dX5_whyNotWithdraw_1 : decode cX5_whyNotWithdraw 1 = .ok (.iload_n 1, 1) := by decide +kernel
theorem dX5_whyNotWithdraw_2 : decode cX5_whyNotWithdraw 2 = .ok (.invokevirtual 113, 3) := by decide +kernel
theorem dX5_whyNotWithdraw_5 : decode cX5_whyNotWithdraw 5 = .ok (.ifCond .ne 7, 3) := by decide +kernel
theorem dX5_whyNotWithdraw_8 : decode cX5_whyNotWithdraw 8 = .ok (.iconst (-1), 1) := by decide +kernel
theorem dX5_whyNotWithdraw_9 : decode cX5_whyNotWithdraw 9 = .ok (.goto 17, 3) := by decide +kernel
theorem dX5_whyNotWithdraw_12 : decode cX5_whyNotWithdraw 12 = .ok (.aload_n 0, 1) := by decide +kernel
theorem dX5_whyNotWithdraw_13 : decode cX5_whyNotWithdraw 13 = .ok (.iload_n 1, 1) := by decide +kernel
theorem dX5_whyNotWithdraw_14 : decode cX5_whyNotWithdraw 14 = .ok (.invokevirtual 91, 3) := by decide +kernel
theorem dX5_whyNotWithdraw_17 : decode cX5_whyNotWithdraw 17 = .ok (.ifCond .eq 7, 3) := by decide +kernel
theorem dX5_whyNotWithdraw_20 : decode cX5_whyNotWithdraw 20 = .ok (.iconst 0, 1) := by decide +kernel
theorem dX5_whyNotWithdraw_21 : decode cX5_whyNotWithdraw 21 = .ok (.goto 5, 3) := by decide +kernel
theorem dX5_whyNotWithdraw_24 : decode cX5_whyNotWithdraw 24 = .ok (.bipush (-5), 2) := by decide +kernel
theorem dX5_whyNotWithdraw_26 : decode cX5_whyNotWithdraw 26 = .ok (.ireturn, 1) := by decide +kernel
theorem dX5_withdrawNow_0 : decode cX5_withdrawNow 0 = .ok (.aload_n 0, 1) := by decide +kernel
theorem dX5_withdrawNow_1 : decode cX5_withdrawNow 1 = .ok (.iload_n 1, 1) := by decide +kernel
theorem dX5_withdrawNow_2 : decode cX5_withdrawNow 2 = .ok (.iconst 4, 1) := by decide +kernel
theorem dX5_withdrawNow_3 : decode cX5_withdrawNow 3 = .ok (.iconst 3, 1) := by decide +kernel
theorem dX5_withdrawNow_4 : decode cX5_withdrawNow 4 = .ok (.invokevirtual 103, 3) := by decide +kernel
theorem dX5_withdrawNow_7 : decode cX5_withdrawNow 7 = .ok (.aload_n 0, 1) := by decide +kernel
theorem dX5_withdrawNow_8 : decode cX5_withdrawNow 8 = .ok (.aload_n 0, 1) := by decide +kernel
theorem dX5_withdrawNow_9 : decode cX5_withdrawNow 9 = .ok (.iload_n 1, 1) := by decide +kernel
theorem dX5_withdrawNow_10 : decode cX5_withdrawNow 10 = .ok (.iconst 1, 1) := by decide +kernel
theorem dX5_withdrawNow_11 : decode cX5_withdrawNow 11 = .ok (.invokevirtual 47, 3) := by decide +kernel
theorem dX5_withdrawNow_14 : decode cX5_withdrawNow 14 = .ok (.invokevirtual 131, 3) := by decide +kernel
theorem dX5_withdrawNow_17 : decode cX5_withdrawNow 17 = .ok (.invokestatic 61, 3) := by decide +kernel
theorem dX5_withdrawNow_20 : decode cX5_withdrawNow 20 = .ok (.ireturn, 1) := by decide +kernel
theorem dX5_withdraw_0 : decode cX5_withdraw 0 = .ok (.aload_n 0, 1) := by decide +kernel
theorem dX5_withdraw_1 : decode cX5_withdraw 1 = .ok (.iload_n 1, 1) := by decide +kernel
theorem dX5_withdraw_2 : decode cX5_withdraw 2 = .ok (.invokevirtual 134, 3) := by decide +kernel
theorem dX5_withdraw_5 : decode cX5_withdraw 5 = .ok (.istore_n 2, 1) := by decide +kernel
theorem dX5_withdraw_6 : decode cX5_withdraw 6 = .ok (.iload_n 2, 1) := by decide +kernel
theorem dX5_withdraw_7 : decode cX5_withdraw 7 = .ok (.ifCond .ge 5, 3) := by decide +kernel
theorem dX5_withdraw_10 : decode cX5_withdraw 10 = .ok (.iload_n 2, 1) := by decide +kernel
theorem dX5_withdraw_11 : decode cX5_withdraw 11 = .ok (.ireturn, 1) := by decide +kernel
theorem dX5_withdraw_12 : decode cX5_withdraw 12 = .ok (.aload_n 0, 1) := by decide +kernel
theorem dX5_withdraw_13 : decode cX5_withdraw 13 = .ok (.invokevirtual 44, 3) := by decide +kernel
theorem dX5_withdraw_16 : decode cX5_withdraw 16 = .ok (.aload_n 0, 1) := by decide +kernel
theorem dX5_withdraw_17 : decode cX5_withdraw 17 = .ok (.iload_n 1, 1) := by decide +kernel
theorem dX5_withdraw_18 : decode cX5_withdraw 18 = .ok (.invokevirtual 137, 3) := by decide +kernel
theorem dX5_withdraw_21 : decode cX5_withdraw 21 = .ok (.ireturn, 1) := by decide +kernel
theorem dX5_whyNotSettle_0 : decode cX5_whyNotSettle 0 = .ok (.aload_n 0, 1) := by decide +kernel
theorem dX5_whyNotSettle_1 : decode cX5_whyNotSettle 1 = .ok (.iload_n 1, 1) := by decide +kernel
theorem dX5_whyNotSettle_2 : decode cX5_whyNotSettle 2 = .ok (.invokevirtual 78, 3) := by decide +kernel
theorem dX5_whyNotSettle_5 : decode cX5_whyNotSettle 5 = .ok (.ifCond .ne 7, 3) := by decide +kernel
theorem dX5_whyNotSettle_8 : decode cX5_whyNotSettle 8 = .ok (.iconst (-1), 1) := by decide +kernel
theorem dX5_whyNotSettle_9 : decode cX5_whyNotSettle 9 = .ok (.goto 35, 3) := by decide +kernel
theorem dX5_whyNotSettle_12 : decode cX5_whyNotSettle 12 = .ok (.aload_n 0, 1) := by decide +kernel
theorem dX5_whyNotSettle_13 : decode cX5_whyNotSettle 13 = .ok (.iload_n 1, 1) := by decide +kernel
theorem dX5_whyNotSettle_14 : decode cX5_whyNotSettle 14 = .ok (.invokevirtual 97, 3) := by decide +kernel
theorem dX5_whyNotSettle_17 : decode cX5_whyNotSettle 17 = .ok (.ifCond .ne 21, 3) := by decide +kernel
theorem dX5_whyNotSettle_20 : decode cX5_whyNotSettle 20 = .ok (.aload_n 0, 1) := by decide +kernel
theorem dX5_whyNotSettle_21 : decode cX5_whyNotSettle 21 = .ok (.iload_n 1, 1) := by decide +kernel
theorem dX5_whyNotSettle_22 : decode cX5_whyNotSettle 22 = .ok (.iconst 0, 1) := by decide +kernel
theorem dX5_whyNotSettle_23 : decode cX5_whyNotSettle 23 = .ok (.invokevirtual 51, 3) := by decide +kernel
theorem dX5_whyNotSettle_26 : decode cX5_whyNotSettle 26 = .ok (.ifCond .ne 12, 3) := by decide +kernel
theorem dX5_whyNotSettle_29 : decode cX5_whyNotSettle 29 = .ok (.aload_n 0, 1) := by decide +kernel
theorem dX5_whyNotSettle_30 : decode cX5_whyNotSettle 30 = .ok (.iload_n 1, 1) := by decide +kernel
theorem dX5_whyNotSettle_31 : decode cX5_whyNotSettle 31 = .ok (.iconst 1, 1) := by decide +kernel
theorem dX5_whyNotSettle_32 : decode cX5_whyNotSettle 32 = .ok (.invokevirtual 51, 3) := by decide +kernel
theorem dX5_whyNotSettle_35 : decode cX5_whyNotSettle 35 = .ok (.ifCond .ne 8, 3) := by decide +kernel
theorem dX5_whyNotSettle_38 : decode cX5_whyNotSettle 38 = .ok (.bipush (-5), 2) := by decide +kernel
theorem dX5_whyNotSettle_40 : decode cX5_whyNotSettle 40 = .ok (.goto 4, 3) := by decide +kernel
theorem dX5_whyNotSettle_43 : decode cX5_whyNotSettle 43 = .ok (.iconst 0, 1) := by decide +kernel
theorem dX5_whyNotSettle_44 : decode cX5_whyNotSettle 44 = .ok (.ireturn, 1) := by decide +kernel
theorem dX5_isPaid_0 : decode cX5_isPaid 0 = .ok (.iconst 0, 1) := by decide +kernel
theorem dX5_isPaid_1 : decode cX5_isPaid 1 = .ok (.istore_n 2, 1) := by decide +kernel
theorem dX5_isPaid_2 : decode cX5_isPaid 2 = .ok (.iconst 0, 1) := by decide +kernel
theorem dX5_isPaid_3 : decode cX5_isPaid 3 = .ok (.istore_n 3, 1) := by decide +kernel
theorem dX5_isPaid_4 : decode cX5_isPaid 4 = .ok (.iload_n 3, 1) := by decide +kernel
theorem dX5_isPaid_5 : decode cX5_isPaid 5 = .ok (.aload_n 0, 1) := by decide +kernel
theorem dX5_isPaid_6 : decode cX5_isPaid 6 = .ok (.getfield 7, 3) := by decide +kernel
theorem dX5_isPaid_9 : decode cX5_isPaid 9 = .ok (.bipush 9, 2) := by decide +kernel
theorem dX5_isPaid_11 : decode cX5_isPaid 11 = .ok (.iaload, 1) := by decide +kernel
theorem dX5_isPaid_12 : decode cX5_isPaid 12 = .ok (.if_icmp .ge 33, 3) := by decide +kernel
theorem dX5_isPaid_15 : decode cX5_isPaid 15 = .ok (.iload_n 2, 1) := by decide +kernel
theorem dX5_isPaid_16 : decode cX5_isPaid 16 = .ok (.ifCond .ne 17, 3) := by decide +kernel
theorem dX5_isPaid_19 : decode cX5_isPaid 19 = .ok (.aload_n 0, 1) := by decide +kernel
theorem dX5_isPaid_20 : decode cX5_isPaid 20 = .ok (.getfield 7, 3) := by decide +kernel
theorem dX5_isPaid_23 : decode cX5_isPaid 23 = .ok (.sipush 284, 3) := by decide +kernel
theorem dX5_isPaid_26 : decode cX5_isPaid 26 = .ok (.iload_n 3, 1) := by decide +kernel
theorem dX5_isPaid_27 : decode cX5_isPaid 27 = .ok (.iadd, 1) := by decide +kernel
theorem dX5_isPaid_28 : decode cX5_isPaid 28 = .ok (.iaload, 1) := by decide +kernel
theorem dX5_isPaid_29 : decode cX5_isPaid 29 = .ok (.iload_n 1, 1) := by decide +kernel
theorem dX5_isPaid_30 : decode cX5_isPaid 30 = .ok (.if_icmp .ne 7, 3) := by decide +kernel
theorem dX5_isPaid_33 : decode cX5_isPaid 33 = .ok (.iconst 1, 1) := by decide +kernel
theorem dX5_isPaid_34 : decode cX5_isPaid 34 = .ok (.goto 4, 3) := by decide +kernel
theorem dX5_isPaid_37 : decode cX5_isPaid 37 = .ok (.iconst 0, 1) := by decide +kernel
theorem dX5_isPaid_38 : decode cX5_isPaid 38 = .ok (.istore_n 2, 1) := by decide +kernel
theorem dX5_isPaid_39 : decode cX5_isPaid 39 = .ok (.iinc 3 1, 3) := by decide +kernel
theorem dX5_isPaid_42 : decode cX5_isPaid 42 = .ok (.goto (-38), 3) := by decide +kernel
theorem dX5_isPaid_45 : decode cX5_isPaid 45 = .ok (.iload_n 2, 1) := by decide +kernel
theorem dX5_isPaid_46 : decode cX5_isPaid 46 = .ok (.ireturn, 1) := by decide +kernel
theorem dX5_pay_0 : decode cX5_pay 0 = .ok (.aload_n 0, 1) := by decide +kernel
theorem dX5_pay_1 : decode cX5_pay 1 = .ok (.iload_n 1, 1) := by decide +kernel
theorem dX5_pay_2 : decode cX5_pay 2 = .ok (.iconst 0, 1) := by decide +kernel
theorem dX5_pay_3 : decode cX5_pay 3 = .ok (.invokevirtual 47, 3) := by decide +kernel
theorem dX5_pay_6 : decode cX5_pay 6 = .ok (.istore_n 3, 1) := by decide +kernel
theorem dX5_pay_7 : decode cX5_pay 7 = .ok (.aload_n 0, 1) := by decide +kernel
theorem dX5_pay_8 : decode cX5_pay 8 = .ok (.iload_n 1, 1) := by decide +kernel
theorem dX5_pay_9 : decode cX5_pay 9 = .ok (.bipush 6, 2) := by decide +kernel
theorem dX5_pay_11 : decode cX5_pay 11 = .ok (.iload_n 2, 1) := by decide +kernel
theorem dX5_pay_12 : decode cX5_pay 12 = .ok (.invokevirtual 103, 3) := by decide +kernel
theorem dX5_pay_15 : decode cX5_pay 15 = .ok (.aload_n 0, 1) := by decide +kernel
theorem dX5_pay_16 : decode cX5_pay 16 = .ok (.getfield 7, 3) := by decide +kernel
theorem dX5_pay_19 : decode cX5_pay 19 = .ok (.sipush 268, 3) := by decide +kernel
theorem dX5_pay_22 : decode cX5_pay 22 = .ok (.iload_n 3, 1) := by decide +kernel
theorem dX5_pay_23 : decode cX5_pay 23 = .ok (.iadd, 1) := by decide +kernel
theorem dX5_pay_24 : decode cX5_pay 24 = .ok (.dup2, 1) := by decide +kernel
theorem dX5_pay_25 : decode cX5_pay 25 = .ok (.iaload, 1) := by decide +kernel
theorem dX5_pay_26 : decode cX5_pay 26 = .ok (.iload_n 2, 1) := by decide +kernel
theorem dX5_pay_27 : decode cX5_pay 27 = .ok (.iadd, 1) := by decide +kernel
theorem dX5_pay_28 : decode cX5_pay 28 = .ok (.iastore, 1) := by decide +kernel
theorem dX5_pay_29 : decode cX5_pay 29 = .ok (.iload_n 2, 1) := by decide +kernel
theorem dX5_pay_30 : decode cX5_pay 30 = .ok (.ifCond .le 39, 3) := by decide +kernel
theorem dX5_pay_33 : decode cX5_pay 33 = .ok (.aload_n 0, 1) := by decide +kernel
theorem dX5_pay_34 : decode cX5_pay 34 = .ok (.iload_n 3, 1) := by decide +kernel
theorem dX5_pay_35 : decode cX5_pay 35 = .ok (.invokevirtual 140, 3) := by decide +kernel
theorem dX5_pay_38 : decode cX5_pay 38 = .ok (.ifCond .ne 31, 3) := by decide +kernel
theorem dX5_pay_41 : decode cX5_pay 41 = .ok (.aload_n 0, 1) := by decide +kernel
theorem dX5_pay_42 : decode cX5_pay 42 = .ok (.getfield 7, 3) := by decide +kernel
theorem dX5_pay_45 : decode cX5_pay 45 = .ok (.sipush 284, 3) := by decide +kernel
theorem dX5_pay_48 : decode cX5_pay 48 = .ok (.aload_n 0, 1) := by decide +kernel
theorem dX5_pay_49 : decode cX5_pay 49 = .ok (.getfield 7, 3) := by decide +kernel
theorem dX5_pay_52 : decode cX5_pay 52 = .ok (.bipush 9, 2) := by decide +kernel
theorem dX5_pay_54 : decode cX5_pay 54 = .ok (.iaload, 1) := by decide +kernel
theorem dX5_pay_55 : decode cX5_pay 55 = .ok (.iadd, 1) := by decide +kernel
theorem dX5_pay_56 : decode cX5_pay 56 = .ok (.iload_n 3, 1) := by decide +kernel
theorem dX5_pay_57 : decode cX5_pay 57 = .ok (.iastore, 1) := by decide +kernel
theorem dX5_pay_58 : decode cX5_pay 58 = .ok (.aload_n 0, 1) := by decide +kernel
theorem dX5_pay_59 : decode cX5_pay 59 = .ok (.getfield 7, 3) := by decide +kernel
theorem dX5_pay_62 : decode cX5_pay 62 = .ok (.bipush 9, 2) := by decide +kernel
theorem dX5_pay_64 : decode cX5_pay 64 = .ok (.dup2, 1) := by decide +kernel
theorem dX5_pay_65 : decode cX5_pay 65 = .ok (.iaload, 1) := by decide +kernel
theorem dX5_pay_66 : decode cX5_pay 66 = .ok (.iconst 1, 1) := by decide +kernel
theorem dX5_pay_67 : decode cX5_pay 67 = .ok (.iadd, 1) := by decide +kernel
theorem dX5_pay_68 : decode cX5_pay 68 = .ok (.iastore, 1) := by decide +kernel
theorem dX5_pay_69 : decode cX5_pay 69 = .ok (.return_, 1) := by decide +kernel
theorem dX5_settleNow_0 : decode cX5_settleNow 0 = .ok (.aload_n 0, 1) := by decide +kernel
theorem dX5_settleNow_1 : decode cX5_settleNow 1 = .ok (.iload_n 1, 1) := by decide +kernel
theorem dX5_settleNow_2 : decode cX5_settleNow 2 = .ok (.iconst 1, 1) := by decide +kernel
theorem dX5_settleNow_3 : decode cX5_settleNow 3 = .ok (.invokevirtual 51, 3) := by decide +kernel
theorem dX5_settleNow_6 : decode cX5_settleNow 6 = .ok (.istore_n 2, 1) := by decide +kernel
theorem dX5_settleNow_7 : decode cX5_settleNow 7 = .ok (.aload_n 0, 1) := by decide +kernel
theorem dX5_settleNow_8 : decode cX5_settleNow 8 = .ok (.iload_n 2, 1) := by decide +kernel
theorem dX5_settleNow_9 : decode cX5_settleNow 9 = .ok (.invokevirtual 143, 3) := by decide +kernel
theorem dX5_settleNow_12 : decode cX5_settleNow 12 = .ok (.istore_n 3, 1) := by decide +kernel
theorem dX5_settleNow_13 : decode cX5_settleNow 13 = .ok (.aload_n 0, 1) := by decide +kernel
theorem dX5_settleNow_14 : decode cX5_settleNow 14 = .ok (.iload_n 1, 1) := by decide +kernel
theorem dX5_settleNow_15 : decode cX5_settleNow 15 = .ok (.invokevirtual 146, 3) := by decide +kernel
theorem dX5_settleNow_18 : decode cX5_settleNow 18 = .ok (.istore 4, 2) := by decide +kernel
theorem dX5_settleNow_20 : decode cX5_settleNow 20 = .ok (.aload_n 0, 1) := by decide +kernel
theorem dX5_settleNow_21 : decode cX5_settleNow 21 = .ok (.iload_n 1, 1) := by decide +kernel
theorem dX5_settleNow_22 : decode cX5_settleNow 22 = .ok (.iconst 1, 1) := by decide +kernel
theorem dX5_settleNow_23 : decode cX5_settleNow 23 = .ok (.invokevirtual 58, 3) := by decide +kernel
theorem dX5_settleNow_26 : decode cX5_settleNow 26 = .ok (.iconst 3, 1) := by decide +kernel
theorem dX5_settleNow_27 : decode cX5_settleNow 27 = .ok (.if_icmp .ne 7, 3) := by decide +kernel
theorem dX5_settleNow_30 : decode cX5_settleNow 30 = .ok (.iconst 1, 1) := by decide +kernel
theorem dX5_settleNow_31 : decode cX5_settleNow 31 = .ok (.goto 4, 3) := by decide +kernel
theorem dX5_settleNow_34 : decode cX5_settleNow 34 = .ok (.iconst 0, 1) := by decide +kernel
theorem dX5_settleNow_35 : decode cX5_settleNow 35 = .ok (.istore 5, 2) := by decide +kernel
theorem dX5_settleNow_37 : decode cX5_settleNow 37 = .ok (.iconst 0, 1) := by decide +kernel
theorem dX5_settleNow_38 : decode cX5_settleNow 38 = .ok (.istore 6, 2) := by decide +kernel
theorem dX5_settleNow_40 : decode cX5_settleNow 40 = .ok (.iload 6, 2) := by decide +kernel
theorem dX5_settleNow_42 : decode cX5_settleNow 42 = .ok (.aload_n 0, 1) := by decide +kernel
theorem dX5_settleNow_43 : decode cX5_settleNow 43 = .ok (.getfield 7, 3) := by decide +kernel
theorem dX5_settleNow_46 : decode cX5_settleNow 46 = .ok (.bipush 8, 2) := by decide +kernel
theorem dX5_settleNow_48 : decode cX5_settleNow 48 = .ok (.iaload, 1) := by decide +kernel
theorem dX5_settleNow_49 : decode cX5_settleNow 49 = .ok (.if_icmp .ge 61, 3) := by decide +kernel
theorem dX5_settleNow_52 : decode cX5_settleNow 52 = .ok (.iload_n 3, 1) := by decide +kernel
theorem dX5_settleNow_53 : decode cX5_settleNow 53 = .ok (.iload 6, 2) := by decide +kernel
theorem dX5_settleNow_55 : decode cX5_settleNow 55 = .ok (.ishr, 1) := by decide +kernel
theorem dX5_settleNow_56 : decode cX5_settleNow 56 = .ok (.iconst 1, 1) := by decide +kernel
theorem dX5_settleNow_57 : decode cX5_settleNow 57 = .ok (.iand, 1) := by decide +kernel
theorem dX5_settleNow_58 : decode cX5_settleNow 58 = .ok (.iconst 1, 1) := by decide +kernel
theorem dX5_settleNow_59 : decode cX5_settleNow 59 = .ok (.if_icmp .ne 17, 3) := by decide +kernel
theorem dX5_settleNow_62 : decode cX5_settleNow 62 = .ok (.aload_n 0, 1) := by decide +kernel
theorem dX5_settleNow_63 : decode cX5_settleNow 63 = .ok (.iload 6, 2) := by decide +kernel
theorem dX5_settleNow_65 : decode cX5_settleNow 65 = .ok (.iload 6, 2) := by decide +kernel
theorem dX5_settleNow_67 : decode cX5_settleNow 67 = .ok (.iload_n 3, 1) := by decide +kernel
theorem dX5_settleNow_68 : decode cX5_settleNow 68 = .ok (.iload 4, 2) := by decide +kernel
theorem dX5_settleNow_70 : decode cX5_settleNow 70 = .ok (.invokestatic 149, 3) := by decide +kernel
theorem dX5_settleNow_73 : decode cX5_settleNow 73 = .ok (.invokevirtual 152, 3) := by decide +kernel
theorem dX5_settleNow_76 : decode cX5_settleNow 76 = .ok (.aload_n 0, 1) := by decide +kernel
theorem dX5_settleNow_77 : decode cX5_settleNow 77 = .ok (.iload 6, 2) := by decide +kernel
theorem dX5_settleNow_79 : decode cX5_settleNow 79 = .ok (.iconst 4, 1) := by decide +kernel
theorem dX5_settleNow_80 : decode cX5_settleNow 80 = .ok (.iload_n 2, 1) := by decide +kernel
theorem dX5_settleNow_81 : decode cX5_settleNow 81 = .ok (.iload 6, 2) := by decide +kernel
theorem dX5_settleNow_83 : decode cX5_settleNow 83 = .ok (.ishr, 1) := by decide +kernel
theorem dX5_settleNow_84 : decode cX5_settleNow 84 = .ok (.iconst 1, 1) := by decide +kernel
theorem dX5_settleNow_85 : decode cX5_settleNow 85 = .ok (.iand, 1) := by decide +kernel
theorem dX5_settleNow_86 : decode cX5_settleNow 86 = .ok (.iconst 1, 1) := by decide +kernel
theorem dX5_settleNow_87 : decode cX5_settleNow 87 = .ok (.if_icmp .ne 7, 3) := by decide +kernel
theorem dX5_settleNow_90 : decode cX5_settleNow 90 = .ok (.iconst 5, 1) := by decide +kernel
theorem dX5_settleNow_91 : decode cX5_settleNow 91 = .ok (.goto 10, 3) := by decide +kernel
theorem dX5_settleNow_94 : decode cX5_settleNow 94 = .ok (.aload_n 0, 1) := by decide +kernel
theorem dX5_settleNow_95 : decode cX5_settleNow 95 = .ok (.iload 6, 2) := by decide +kernel
theorem dX5_settleNow_97 : decode cX5_settleNow 97 = .ok (.iconst 4, 1) := by decide +kernel
theorem dX5_settleNow_98 : decode cX5_settleNow 98 = .ok (.invokevirtual 47, 3) := by decide +kernel
theorem dX5_settleNow_101 : decode cX5_settleNow 101 = .ok (.invokevirtual 103, 3) := by decide +kernel
theorem dX5_settleNow_104 : decode cX5_settleNow 104 = .ok (.iinc 6 1, 3) := by decide +kernel
theorem dX5_settleNow_107 : decode cX5_settleNow 107 = .ok (.goto (-67), 3) := by decide +kernel
theorem dX5_settleNow_110 : decode cX5_settleNow 110 = .ok (.aload_n 0, 1) := by decide +kernel
theorem dX5_settleNow_111 : decode cX5_settleNow 111 = .ok (.getfield 7, 3) := by decide +kernel
theorem dX5_settleNow_114 : decode cX5_settleNow 114 = .ok (.bipush 6, 2) := by decide +kernel
theorem dX5_settleNow_116 : decode cX5_settleNow 116 = .ok (.dup2, 1) := by decide +kernel
theorem dX5_settleNow_117 : decode cX5_settleNow 117 = .ok (.iaload, 1) := by decide +kernel
theorem dX5_settleNow_118 : decode cX5_settleNow 118 = .ok (.iload 5, 2) := by decide +kernel
theorem dX5_settleNow_120 : decode cX5_settleNow 120 = .ok (.ifCond .eq 8, 3) := by decide +kernel
theorem dX5_settleNow_123 : decode cX5_settleNow 123 = .ok (.iload 4, 2) := by decide +kernel
theorem dX5_settleNow_125 : decode cX5_settleNow 125 = .ok (.goto 4, 3) := by decide +kernel
theorem dX5_settleNow_128 : decode cX5_settleNow 128 = .ok (.iconst 0, 1) := by decide +kernel
theorem dX5_settleNow_129 : decode cX5_settleNow 129 = .ok (.isub, 1) := by decide +kernel
theorem dX5_settleNow_130 : decode cX5_settleNow 130 = .ok (.iastore, 1) := by decide +kernel
theorem dX5_settleNow_131 : decode cX5_settleNow 131 = .ok (.aload_n 0, 1) := by decide +kernel
theorem dX5_settleNow_132 : decode cX5_settleNow 132 = .ok (.iload_n 1, 1) := by decide +kernel
theorem dX5_settleNow_133 : decode cX5_settleNow 133 = .ok (.iconst 1, 1) := by decide +kernel
theorem dX5_settleNow_134 : decode cX5_settleNow 134 = .ok (.iload 5, 2) := by decide +kernel
theorem dX5_settleNow_136 : decode cX5_settleNow 136 = .ok (.ifCond .eq 7, 3) := by decide +kernel
theorem dX5_settleNow_139 : decode cX5_settleNow 139 = .ok (.iconst 4, 1) := by decide +kernel
theorem dX5_settleNow_140 : decode cX5_settleNow 140 = .ok (.goto 4, 3) := by decide +kernel
theorem dX5_settleNow_143 : decode cX5_settleNow 143 = .ok (.iconst 2, 1) := by decide +kernel
theorem dX5_settleNow_144 : decode cX5_settleNow 144 = .ok (.invokevirtual 68, 3) := by decide +kernel
theorem dX5_settleNow_147 : decode cX5_settleNow 147 = .ok (.iload_n 3, 1) := by decide +kernel
theorem dX5_settleNow_148 : decode cX5_settleNow 148 = .ok (.invokestatic 61, 3) := by decide +kernel
theorem dX5_settleNow_151 : decode cX5_settleNow 151 = .ok (.ireturn, 1) := by decide +kernel
theorem dX5_settle_0 : decode cX5_settle 0 = .ok (.aload_n 0, 1) := by decide +kernel
theorem dX5_settle_1 : decode cX5_settle 1 = .ok (.iload_n 1, 1) := by decide +kernel
theorem dX5_settle_2 : decode cX5_settle 2 = .ok (.invokevirtual 156, 3) := by decide +kernel
theorem dX5_settle_5 : decode cX5_settle 5 = .ok (.istore_n 2, 1) := by decide +kernel
theorem dX5_settle_6 : decode cX5_settle 6 = .ok (.iload_n 2, 1) := by decide +kernel
theorem dX5_settle_7 : decode cX5_settle 7 = .ok (.ifCond .ge 5, 3) := by decide +kernel
theorem dX5_settle_10 : decode cX5_settle 10 = .ok (.iload_n 2, 1) := by decide +kernel
theorem dX5_settle_11 : decode cX5_settle 11 = .ok (.ireturn, 1) := by decide +kernel
theorem dX5_settle_12 : decode cX5_settle 12 = .ok (.aload_n 0, 1) := by decide +kernel
theorem dX5_settle_13 : decode cX5_settle 13 = .ok (.invokevirtual 44, 3) := by decide +kernel
theorem dX5_settle_16 : decode cX5_settle 16 = .ok (.aload_n 0, 1) := by decide +kernel
theorem dX5_settle_17 : decode cX5_settle 17 = .ok (.iload_n 1, 1) := by decide +kernel
theorem dX5_settle_18 : decode cX5_settle 18 = .ok (.invokevirtual 159, 3) := by decide +kernel
theorem dX5_settle_21 : decode cX5_settle 21 = .ok (.ireturn, 1) := by decide +kernel
theorem dX5_dayOf_0 : decode cX5_dayOf 0 = .ok (.aload_n 0, 1) := by decide +kernel
theorem dX5_dayOf_1 : decode cX5_dayOf 1 = .ok (.iload_n 1, 1) := by decide +kernel
theorem dX5_dayOf_2 : decode cX5_dayOf 2 = .ok (.iconst 1, 1) := by decide +kernel
theorem dX5_dayOf_3 : decode cX5_dayOf 3 = .ok (.invokevirtual 58, 3) := by decide +kernel
theorem dX5_dayOf_6 : decode cX5_dayOf 6 = .ok (.iconst 3, 1) := by decide +kernel
theorem dX5_dayOf_7 : decode cX5_dayOf 7 = .ok (.if_icmp .ne 7, 3) := by decide +kernel
theorem dX5_dayOf_10 : decode cX5_dayOf 10 = .ok (.iconst 1, 1) := by decide +kernel
theorem dX5_dayOf_11 : decode cX5_dayOf 11 = .ok (.goto 4, 3) := by decide +kernel
theorem dX5_dayOf_14 : decode cX5_dayOf 14 = .ok (.iconst 0, 1) := by decide +kernel
theorem dX5_dayOf_15 : decode cX5_dayOf 15 = .ok (.istore_n 2, 1) := by decide +kernel
theorem dX5_dayOf_16 : decode cX5_dayOf 16 = .ok (.iconst 0, 1) := by decide +kernel
theorem dX5_dayOf_17 : decode cX5_dayOf 17 = .ok (.istore_n 3, 1) := by decide +kernel
theorem dX5_dayOf_18 : decode cX5_dayOf 18 = .ok (.iload_n 3, 1) := by decide +kernel
theorem dX5_dayOf_19 : decode cX5_dayOf 19 = .ok (.aload_n 0, 1) := by decide +kernel
theorem dX5_dayOf_20 : decode cX5_dayOf 20 = .ok (.getfield 7, 3) := by decide +kernel
theorem dX5_dayOf_23 : decode cX5_dayOf 23 = .ok (.bipush 8, 2) := by decide +kernel
theorem dX5_dayOf_25 : decode cX5_dayOf 25 = .ok (.iaload, 1) := by decide +kernel
theorem dX5_dayOf_26 : decode cX5_dayOf 26 = .ok (.if_icmp .ge 68, 3) := by decide +kernel
theorem dX5_dayOf_29 : decode cX5_dayOf 29 = .ok (.aload_n 0, 1) := by decide +kernel
theorem dX5_dayOf_30 : decode cX5_dayOf 30 = .ok (.iload_n 3, 1) := by decide +kernel
theorem dX5_dayOf_31 : decode cX5_dayOf 31 = .ok (.iconst 1, 1) := by decide +kernel
theorem dX5_dayOf_32 : decode cX5_dayOf 32 = .ok (.invokevirtual 47, 3) := by decide +kernel
theorem dX5_dayOf_35 : decode cX5_dayOf 35 = .ok (.iload_n 1, 1) := by decide +kernel
theorem dX5_dayOf_36 : decode cX5_dayOf 36 = .ok (.if_icmp .ne 52, 3) := by decide +kernel
theorem dX5_dayOf_39 : decode cX5_dayOf 39 = .ok (.aload_n 0, 1) := by decide +kernel
theorem dX5_dayOf_40 : decode cX5_dayOf 40 = .ok (.iload_n 3, 1) := by decide +kernel
theorem dX5_dayOf_41 : decode cX5_dayOf 41 = .ok (.iconst 4, 1) := by decide +kernel
theorem dX5_dayOf_42 : decode cX5_dayOf 42 = .ok (.invokevirtual 47, 3) := by decide +kernel
theorem dX5_dayOf_45 : decode cX5_dayOf 45 = .ok (.ifCond .ne 43, 3) := by decide +kernel
theorem dX5_dayOf_48 : decode cX5_dayOf 48 = .ok (.aload_n 0, 1) := by decide +kernel
theorem dX5_dayOf_49 : decode cX5_dayOf 49 = .ok (.iload_n 3, 1) := by decide +kernel
theorem dX5_dayOf_50 : decode cX5_dayOf 50 = .ok (.iconst 5, 1) := by decide +kernel
theorem dX5_dayOf_51 : decode cX5_dayOf 51 = .ok (.aload_n 0, 1) := by decide +kernel
theorem dX5_dayOf_52 : decode cX5_dayOf 52 = .ok (.iload_n 3, 1) := by decide +kernel
theorem dX5_dayOf_53 : decode cX5_dayOf 53 = .ok (.iconst 5, 1) := by decide +kernel
theorem dX5_dayOf_54 : decode cX5_dayOf 54 = .ok (.invokevirtual 47, 3) := by decide +kernel
theorem dX5_dayOf_57 : decode cX5_dayOf 57 = .ok (.iconst 1, 1) := by decide +kernel
theorem dX5_dayOf_58 : decode cX5_dayOf 58 = .ok (.iadd, 1) := by decide +kernel
theorem dX5_dayOf_59 : decode cX5_dayOf 59 = .ok (.invokevirtual 103, 3) := by decide +kernel
theorem dX5_dayOf_62 : decode cX5_dayOf 62 = .ok (.aload_n 0, 1) := by decide +kernel
theorem dX5_dayOf_63 : decode cX5_dayOf 63 = .ok (.iload_n 3, 1) := by decide +kernel
theorem dX5_dayOf_64 : decode cX5_dayOf 64 = .ok (.iconst 4, 1) := by decide +kernel
theorem dX5_dayOf_65 : decode cX5_dayOf 65 = .ok (.aload_n 0, 1) := by decide +kernel
theorem dX5_dayOf_66 : decode cX5_dayOf 66 = .ok (.iload_n 3, 1) := by decide +kernel
theorem dX5_dayOf_67 : decode cX5_dayOf 67 = .ok (.iconst 5, 1) := by decide +kernel
theorem dX5_dayOf_68 : decode cX5_dayOf 68 = .ok (.invokevirtual 47, 3) := by decide +kernel
theorem dX5_dayOf_71 : decode cX5_dayOf 71 = .ok (.aload_n 0, 1) := by decide +kernel
theorem dX5_dayOf_72 : decode cX5_dayOf 72 = .ok (.getfield 7, 3) := by decide +kernel
theorem dX5_dayOf_75 : decode cX5_dayOf 75 = .ok (.iconst 2, 1) := by decide +kernel
theorem dX5_dayOf_76 : decode cX5_dayOf 76 = .ok (.iaload, 1) := by decide +kernel
theorem dX5_dayOf_77 : decode cX5_dayOf 77 = .ok (.if_icmp .lt 7, 3) := by decide +kernel
theorem dX5_dayOf_80 : decode cX5_dayOf 80 = .ok (.iconst 4, 1) := by decide +kernel
theorem dX5_dayOf_81 : decode cX5_dayOf 81 = .ok (.goto 4, 3) := by decide +kernel
theorem dX5_dayOf_84 : decode cX5_dayOf 84 = .ok (.iconst 0, 1) := by decide +kernel
theorem dX5_dayOf_85 : decode cX5_dayOf 85 = .ok (.invokevirtual 103, 3) := by decide +kernel
theorem dX5_dayOf_88 : decode cX5_dayOf 88 = .ok (.iinc 3 1, 3) := by decide +kernel
theorem dX5_dayOf_91 : decode cX5_dayOf 91 = .ok (.goto (-73), 3) := by decide +kernel
theorem dX5_dayOf_94 : decode cX5_dayOf 94 = .ok (.aload_n 0, 1) := by decide +kernel
theorem dX5_dayOf_95 : decode cX5_dayOf 95 = .ok (.iload_n 1, 1) := by decide +kernel
theorem dX5_dayOf_96 : decode cX5_dayOf 96 = .ok (.iconst 1, 1) := by decide +kernel
theorem dX5_dayOf_97 : decode cX5_dayOf 97 = .ok (.invokevirtual 58, 3) := by decide +kernel
theorem dX5_dayOf_100 : decode cX5_dayOf 100 = .ok (.iconst 1, 1) := by decide +kernel
theorem dX5_dayOf_101 : decode cX5_dayOf 101 = .ok (.if_icmp .ne 15, 3) := by decide +kernel
theorem dX5_dayOf_104 : decode cX5_dayOf 104 = .ok (.aload_n 0, 1) := by decide +kernel
theorem dX5_dayOf_105 : decode cX5_dayOf 105 = .ok (.iload_n 1, 1) := by decide +kernel
theorem dX5_dayOf_106 : decode cX5_dayOf 106 = .ok (.invokevirtual 131, 3) := by decide +kernel
theorem dX5_dayOf_109 : decode cX5_dayOf 109 = .ok (.ifCond .ne 7, 3) := by decide +kernel
theorem dX5_dayOf_112 : decode cX5_dayOf 112 = .ok (.iconst 1, 1) := by decide +kernel
theorem dX5_dayOf_113 : decode cX5_dayOf 113 = .ok (.goto 4, 3) := by decide +kernel
theorem dX5_dayOf_116 : decode cX5_dayOf 116 = .ok (.iconst 0, 1) := by decide +kernel
theorem dX5_dayOf_117 : decode cX5_dayOf 117 = .ok (.istore_n 3, 1) := by decide +kernel
theorem dX5_dayOf_118 : decode cX5_dayOf 118 = .ok (.aload_n 0, 1) := by decide +kernel
theorem dX5_dayOf_119 : decode cX5_dayOf 119 = .ok (.iload_n 1, 1) := by decide +kernel
theorem dX5_dayOf_120 : decode cX5_dayOf 120 = .ok (.iconst 2, 1) := by decide +kernel
theorem dX5_dayOf_121 : decode cX5_dayOf 121 = .ok (.aload_n 0, 1) := by decide +kernel
theorem dX5_dayOf_122 : decode cX5_dayOf 122 = .ok (.iload_n 1, 1) := by decide +kernel
theorem dX5_dayOf_123 : decode cX5_dayOf 123 = .ok (.iconst 2, 1) := by decide +kernel
theorem dX5_dayOf_124 : decode cX5_dayOf 124 = .ok (.invokevirtual 58, 3) := by decide +kernel
theorem dX5_dayOf_127 : decode cX5_dayOf 127 = .ok (.iload_n 3, 1) := by decide +kernel
theorem dX5_dayOf_128 : decode cX5_dayOf 128 = .ok (.ifCond .eq 7, 3) := by decide +kernel
theorem dX5_dayOf_131 : decode cX5_dayOf 131 = .ok (.iconst 1, 1) := by decide +kernel
theorem dX5_dayOf_132 : decode cX5_dayOf 132 = .ok (.goto 4, 3) := by decide +kernel
theorem dX5_dayOf_135 : decode cX5_dayOf 135 = .ok (.iconst 0, 1) := by decide +kernel
theorem dX5_dayOf_136 : decode cX5_dayOf 136 = .ok (.iadd, 1) := by decide +kernel
theorem dX5_dayOf_137 : decode cX5_dayOf 137 = .ok (.invokevirtual 68, 3) := by decide +kernel
theorem dX5_dayOf_140 : decode cX5_dayOf 140 = .ok (.iload_n 3, 1) := by decide +kernel
theorem dX5_dayOf_141 : decode cX5_dayOf 141 = .ok (.ifCond .eq 22, 3) := by decide +kernel
theorem dX5_dayOf_144 : decode cX5_dayOf 144 = .ok (.aload_n 0, 1) := by decide +kernel
theorem dX5_dayOf_145 : decode cX5_dayOf 145 = .ok (.iload_n 1, 1) := by decide +kernel
theorem dX5_dayOf_146 : decode cX5_dayOf 146 = .ok (.iconst 2, 1) := by decide +kernel
theorem dX5_dayOf_147 : decode cX5_dayOf 147 = .ok (.invokevirtual 58, 3) := by decide +kernel
theorem dX5_dayOf_150 : decode cX5_dayOf 150 = .ok (.aload_n 0, 1) := by decide +kernel
theorem dX5_dayOf_151 : decode cX5_dayOf 151 = .ok (.getfield 7, 3) := by decide +kernel
theorem dX5_dayOf_154 : decode cX5_dayOf 154 = .ok (.iconst 0, 1) := by decide +kernel
theorem dX5_dayOf_155 : decode cX5_dayOf 155 = .ok (.iaload, 1) := by decide +kernel
theorem dX5_dayOf_156 : decode cX5_dayOf 156 = .ok (.if_icmp .lt 7, 3) := by decide +kernel
theorem dX5_dayOf_159 : decode cX5_dayOf 159 = .ok (.iconst 1, 1) := by decide +kernel
theorem dX5_dayOf_160 : decode cX5_dayOf 160 = .ok (.goto 4, 3) := by decide +kernel
theorem dX5_dayOf_163 : decode cX5_dayOf 163 = .ok (.iconst 0, 1) := by decide +kernel
theorem dX5_dayOf_164 : decode cX5_dayOf 164 = .ok (.istore 4, 2) := by decide +kernel
theorem dX5_dayOf_166 : decode cX5_dayOf 166 = .ok (.aload_n 0, 1) := by decide +kernel
theorem dX5_dayOf_167 : decode cX5_dayOf 167 = .ok (.iload_n 1, 1) := by decide +kernel
theorem dX5_dayOf_168 : decode cX5_dayOf 168 = .ok (.iconst 1, 1) := by decide +kernel
theorem dX5_dayOf_169 : decode cX5_dayOf 169 = .ok (.iload 4, 2) := by decide +kernel
theorem dX5_dayOf_171 : decode cX5_dayOf 171 = .ok (.ifCond .eq 7, 3) := by decide +kernel
theorem dX5_dayOf_174 : decode cX5_dayOf 174 = .ok (.iconst 3, 1) := by decide +kernel
theorem dX5_dayOf_175 : decode cX5_dayOf 175 = .ok (.goto 9, 3) := by decide +kernel
theorem dX5_dayOf_178 : decode cX5_dayOf 178 = .ok (.aload_n 0, 1) := by decide +kernel
theorem dX5_dayOf_179 : decode cX5_dayOf 179 = .ok (.iload_n 1, 1) := by decide +kernel
theorem dX5_dayOf_180 : decode cX5_dayOf 180 = .ok (.iconst 1, 1) := by decide +kernel
theorem dX5_dayOf_181 : decode cX5_dayOf 181 = .ok (.invokevirtual 58, 3) := by decide +kernel
theorem dX5_dayOf_184 : decode cX5_dayOf 184 = .ok (.invokevirtual 68, 3) := by decide +kernel
theorem dX5_dayOf_187 : decode cX5_dayOf 187 = .ok (.aload_n 0, 1) := by decide +kernel
theorem dX5_dayOf_188 : decode cX5_dayOf 188 = .ok (.getfield 7, 3) := by decide +kernel
theorem dX5_dayOf_191 : decode cX5_dayOf 191 = .ok (.bipush 6, 2) := by decide +kernel
theorem dX5_dayOf_193 : decode cX5_dayOf 193 = .ok (.dup2, 1) := by decide +kernel
theorem dX5_dayOf_194 : decode cX5_dayOf 194 = .ok (.iaload, 1) := by decide +kernel
theorem dX5_dayOf_195 : decode cX5_dayOf 195 = .ok (.iload 4, 2) := by decide +kernel
theorem dX5_dayOf_197 : decode cX5_dayOf 197 = .ok (.ifCond .eq 12, 3) := by decide +kernel
theorem dX5_dayOf_200 : decode cX5_dayOf 200 = .ok (.aload_n 0, 1) := by decide +kernel
theorem dX5_dayOf_201 : decode cX5_dayOf 201 = .ok (.iload_n 1, 1) := by decide +kernel
theorem dX5_dayOf_202 : decode cX5_dayOf 202 = .ok (.iconst 0, 1) := by decide +kernel
theorem dX5_dayOf_203 : decode cX5_dayOf 203 = .ok (.invokevirtual 58, 3) := by decide +kernel
theorem dX5_dayOf_206 : decode cX5_dayOf 206 = .ok (.goto 4, 3) := by decide +kernel
theorem dX5_dayOf_209 : decode cX5_dayOf 209 = .ok (.iconst 0, 1) := by decide +kernel
theorem dX5_dayOf_210 : decode cX5_dayOf 210 = .ok (.iadd, 1) := by decide +kernel
theorem dX5_dayOf_211 : decode cX5_dayOf 211 = .ok (.iastore, 1) := by decide +kernel
theorem dX5_dayOf_212 : decode cX5_dayOf 212 = .ok (.aload_n 0, 1) := by decide +kernel
theorem dX5_dayOf_213 : decode cX5_dayOf 213 = .ok (.iload_n 1, 1) := by decide +kernel
theorem dX5_dayOf_214 : decode cX5_dayOf 214 = .ok (.iconst 3, 1) := by decide +kernel
theorem dX5_dayOf_215 : decode cX5_dayOf 215 = .ok (.aload_n 0, 1) := by decide +kernel
theorem dX5_dayOf_216 : decode cX5_dayOf 216 = .ok (.iload_n 1, 1) := by decide +kernel
theorem dX5_dayOf_217 : decode cX5_dayOf 217 = .ok (.iconst 3, 1) := by decide +kernel
theorem dX5_dayOf_218 : decode cX5_dayOf 218 = .ok (.invokevirtual 58, 3) := by decide +kernel
theorem dX5_dayOf_221 : decode cX5_dayOf 221 = .ok (.iload_n 2, 1) := by decide +kernel
theorem dX5_dayOf_222 : decode cX5_dayOf 222 = .ok (.ifCond .eq 7, 3) := by decide +kernel
theorem dX5_dayOf_225 : decode cX5_dayOf 225 = .ok (.iconst 1, 1) := by decide +kernel
theorem dX5_dayOf_226 : decode cX5_dayOf 226 = .ok (.goto 4, 3) := by decide +kernel
theorem dX5_dayOf_229 : decode cX5_dayOf 229 = .ok (.iconst 0, 1) := by decide +kernel
theorem dX5_dayOf_230 : decode cX5_dayOf 230 = .ok (.iadd, 1) := by decide +kernel
theorem dX5_dayOf_231 : decode cX5_dayOf 231 = .ok (.invokevirtual 68, 3) := by decide +kernel
theorem dX5_dayOf_234 : decode cX5_dayOf 234 = .ok (.iload 4, 2) := by decide +kernel
theorem dX5_dayOf_236 : decode cX5_dayOf 236 = .ok (.ireturn, 1) := by decide +kernel
theorem dX5_dayNow_0 : decode cX5_dayNow 0 = .ok (.iconst 0, 1) := by decide +kernel
theorem dX5_dayNow_1 : decode cX5_dayNow 1 = .ok (.istore_n 1, 1) := by decide +kernel
theorem dX5_dayNow_2 : decode cX5_dayNow 2 = .ok (.iconst 0, 1) := by decide +kernel
theorem dX5_dayNow_3 : decode cX5_dayNow 3 = .ok (.istore_n 2, 1) := by decide +kernel
theorem dX5_dayNow_4 : decode cX5_dayNow 4 = .ok (.iload_n 2, 1) := by decide +kernel
theorem dX5_dayNow_5 : decode cX5_dayNow 5 = .ok (.aload_n 0, 1) := by decide +kernel
theorem dX5_dayNow_6 : decode cX5_dayNow 6 = .ok (.getfield 7, 3) := by decide +kernel
theorem dX5_dayNow_9 : decode cX5_dayNow 9 = .ok (.bipush 7, 2) := by decide +kernel
theorem dX5_dayNow_11 : decode cX5_dayNow 11 = .ok (.iaload, 1) := by decide +kernel
theorem dX5_dayNow_12 : decode cX5_dayNow 12 = .ok (.if_icmp .ge 25, 3) := by decide +kernel
theorem dX5_dayNow_15 : decode cX5_dayNow 15 = .ok (.iload_n 1, 1) := by decide +kernel
theorem dX5_dayNow_16 : decode cX5_dayNow 16 = .ok (.aload_n 0, 1) := by decide +kernel
theorem dX5_dayNow_17 : decode cX5_dayNow 17 = .ok (.iload_n 2, 1) := by decide +kernel
theorem dX5_dayNow_18 : decode cX5_dayNow 18 = .ok (.invokevirtual 162, 3) := by decide +kernel
theorem dX5_dayNow_21 : decode cX5_dayNow 21 = .ok (.ifCond .eq 7, 3) := by decide +kernel
theorem dX5_dayNow_24 : decode cX5_dayNow 24 = .ok (.iconst 1, 1) := by decide +kernel
theorem dX5_dayNow_25 : decode cX5_dayNow 25 = .ok (.goto 4, 3) := by decide +kernel
theorem dX5_dayNow_28 : decode cX5_dayNow 28 = .ok (.iconst 0, 1) := by decide +kernel
theorem dX5_dayNow_29 : decode cX5_dayNow 29 = .ok (.iadd, 1) := by decide +kernel
theorem dX5_dayNow_30 : decode cX5_dayNow 30 = .ok (.istore_n 1, 1) := by decide +kernel
theorem dX5_dayNow_31 : decode cX5_dayNow 31 = .ok (.iinc 2 1, 3) := by decide +kernel
theorem dX5_dayNow_34 : decode cX5_dayNow 34 = .ok (.goto (-30), 3) := by decide +kernel
theorem dX5_dayNow_37 : decode cX5_dayNow 37 = .ok (.aload_n 0, 1) := by decide +kernel
theorem dX5_dayNow_38 : decode cX5_dayNow 38 = .ok (.getfield 7, 3) := by decide +kernel
theorem dX5_dayNow_41 : decode cX5_dayNow 41 = .ok (.iconst 5, 1) := by decide +kernel
theorem dX5_dayNow_42 : decode cX5_dayNow 42 = .ok (.dup2, 1) := by decide +kernel
theorem dX5_dayNow_43 : decode cX5_dayNow 43 = .ok (.iaload, 1) := by decide +kernel
theorem dX5_dayNow_44 : decode cX5_dayNow 44 = .ok (.iconst 1, 1) := by decide +kernel
theorem dX5_dayNow_45 : decode cX5_dayNow 45 = .ok (.iadd, 1) := by decide +kernel
theorem dX5_dayNow_46 : decode cX5_dayNow 46 = .ok (.iastore, 1) := by decide +kernel
theorem dX5_dayNow_47 : decode cX5_dayNow 47 = .ok (.iload_n 1, 1) := by decide +kernel
theorem dX5_dayNow_48 : decode cX5_dayNow 48 = .ok (.ireturn, 1) := by decide +kernel
theorem dX5_whyNotPass_0 : decode cX5_whyNotPass 0 = .ok (.iload_n 1, 1) := by decide +kernel
theorem dX5_whyNotPass_1 : decode cX5_whyNotPass 1 = .ok (.iconst 1, 1) := by decide +kernel
theorem dX5_whyNotPass_2 : decode cX5_whyNotPass 2 = .ok (.sipush 400, 3) := by decide +kernel
theorem dX5_whyNotPass_5 : decode cX5_whyNotPass 5 = .ok (.invokestatic 32, 3) := by decide +kernel
theorem dX5_whyNotPass_8 : decode cX5_whyNotPass 8 = .ok (.ifCond .ne 8, 3) := by decide +kernel
theorem dX5_whyNotPass_11 : decode cX5_whyNotPass 11 = .ok (.bipush (-2), 2) := by decide +kernel
theorem dX5_whyNotPass_13 : decode cX5_whyNotPass 13 = .ok (.goto 23, 3) := by decide +kernel
theorem dX5_whyNotPass_16 : decode cX5_whyNotPass 16 = .ok (.aload_n 0, 1) := by decide +kernel
theorem dX5_whyNotPass_17 : decode cX5_whyNotPass 17 = .ok (.getfield 7, 3) := by decide +kernel
theorem dX5_whyNotPass_20 : decode cX5_whyNotPass 20 = .ok (.iconst 5, 1) := by decide +kernel
theorem dX5_whyNotPass_21 : decode cX5_whyNotPass 21 = .ok (.iaload, 1) := by decide +kernel
theorem dX5_whyNotPass_22 : decode cX5_whyNotPass 22 = .ok (.iload_n 1, 1) := by decide +kernel
theorem dX5_whyNotPass_23 : decode cX5_whyNotPass 23 = .ok (.iadd, 1) := by decide +kernel
theorem dX5_whyNotPass_24 : decode cX5_whyNotPass 24 = .ok (.sipush 9999, 3) := by decide +kernel
theorem dX5_whyNotPass_27 : decode cX5_whyNotPass 27 = .ok (.if_icmp .le 8, 3) := by decide +kernel
theorem dX5_whyNotPass_30 : decode cX5_whyNotPass 30 = .ok (.bipush (-5), 2) := by decide +kernel
theorem dX5_whyNotPass_32 : decode cX5_whyNotPass 32 = .ok (.goto 4, 3) := by decide +kernel
theorem dX5_whyNotPass_35 : decode cX5_whyNotPass 35 = .ok (.iconst 0, 1) := by decide +kernel
theorem dX5_whyNotPass_36 : decode cX5_whyNotPass 36 = .ok (.ireturn, 1) := by decide +kernel
theorem dX5_passNow_0 : decode cX5_passNow 0 = .ok (.iconst 0, 1) := by decide +kernel
theorem dX5_passNow_1 : decode cX5_passNow 1 = .ok (.istore_n 2, 1) := by decide +kernel
theorem dX5_passNow_2 : decode cX5_passNow 2 = .ok (.iconst 0, 1) := by decide +kernel
theorem dX5_passNow_3 : decode cX5_passNow 3 = .ok (.istore_n 3, 1) := by decide +kernel
theorem dX5_passNow_4 : decode cX5_passNow 4 = .ok (.iload_n 3, 1) := by decide +kernel
theorem dX5_passNow_5 : decode cX5_passNow 5 = .ok (.iload_n 1, 1) := by decide +kernel
theorem dX5_passNow_6 : decode cX5_passNow 6 = .ok (.if_icmp .ge 16, 3) := by decide +kernel
theorem dX5_passNow_9 : decode cX5_passNow 9 = .ok (.iload_n 2, 1) := by decide +kernel
theorem dX5_passNow_10 : decode cX5_passNow 10 = .ok (.aload_n 0, 1) := by decide +kernel
theorem dX5_passNow_11 : decode cX5_passNow 11 = .ok (.invokevirtual 165, 3) := by decide +kernel
theorem dX5_passNow_14 : decode cX5_passNow 14 = .ok (.iadd, 1) := by decide +kernel
theorem dX5_passNow_15 : decode cX5_passNow 15 = .ok (.istore_n 2, 1) := by decide +kernel
theorem dX5_passNow_16 : decode cX5_passNow 16 = .ok (.iinc 3 1, 3) := by decide +kernel
theorem dX5_passNow_19 : decode cX5_passNow 19 = .ok (.goto (-15), 3) := by decide +kernel
theorem dX5_passNow_22 : decode cX5_passNow 22 = .ok (.iload_n 2, 1) := by decide +kernel
theorem dX5_passNow_23 : decode cX5_passNow 23 = .ok (.ireturn, 1) := by decide +kernel
theorem dX5_pass_0 : decode cX5_pass 0 = .ok (.aload_n 0, 1) := by decide +kernel
theorem dX5_pass_1 : decode cX5_pass 1 = .ok (.iload_n 1, 1) := by decide +kernel
theorem dX5_pass_2 : decode cX5_pass 2 = .ok (.invokevirtual 169, 3) := by decide +kernel
theorem dX5_pass_5 : decode cX5_pass 5 = .ok (.istore_n 2, 1) := by decide +kernel
theorem dX5_pass_6 : decode cX5_pass 6 = .ok (.iload_n 2, 1) := by decide +kernel
theorem dX5_pass_7 : decode cX5_pass 7 = .ok (.ifCond .ge 5, 3) := by decide +kernel
theorem dX5_pass_10 : decode cX5_pass 10 = .ok (.iload_n 2, 1) := by decide +kernel
theorem dX5_pass_11 : decode cX5_pass 11 = .ok (.ireturn, 1) := by decide +kernel
theorem dX5_pass_12 : decode cX5_pass 12 = .ok (.aload_n 0, 1) := by decide +kernel
theorem dX5_pass_13 : decode cX5_pass 13 = .ok (.invokevirtual 44, 3) := by decide +kernel
theorem dX5_pass_16 : decode cX5_pass 16 = .ok (.aload_n 0, 1) := by decide +kernel
theorem dX5_pass_17 : decode cX5_pass 17 = .ok (.iload_n 1, 1) := by decide +kernel
theorem dX5_pass_18 : decode cX5_pass 18 = .ok (.invokevirtual 172, 3) := by decide +kernel
theorem dX5_pass_21 : decode cX5_pass 21 = .ok (.ireturn, 1) := by decide +kernel
theorem dX5_allClaimsTo_0 : decode cX5_allClaimsTo 0 = .ok (.iconst 0, 1) := by decide +kernel
theorem dX5_allClaimsTo_1 : decode cX5_allClaimsTo 1 = .ok (.istore_n 2, 1) := by decide +kernel
theorem dX5_allClaimsTo_2 : decode cX5_allClaimsTo 2 = .ok (.iconst 0, 1) := by decide +kernel
theorem dX5_allClaimsTo_3 : decode cX5_allClaimsTo 3 = .ok (.istore_n 3, 1) := by decide +kernel
theorem dX5_allClaimsTo_4 : decode cX5_allClaimsTo 4 = .ok (.iload_n 3, 1) := by decide +kernel
theorem dX5_allClaimsTo_5 : decode cX5_allClaimsTo 5 = .ok (.iconst 5, 1) := by decide +kernel
theorem dX5_allClaimsTo_6 : decode cX5_allClaimsTo 6 = .ok (.if_icmp .gt 18, 3) := by decide +kernel
theorem dX5_allClaimsTo_9 : decode cX5_allClaimsTo 9 = .ok (.iload_n 2, 1) := by decide +kernel
theorem dX5_allClaimsTo_10 : decode cX5_allClaimsTo 10 = .ok (.aload_n 0, 1) := by decide +kernel
theorem dX5_allClaimsTo_11 : decode cX5_allClaimsTo 11 = .ok (.iload_n 1, 1) := by decide +kernel
theorem dX5_allClaimsTo_12 : decode cX5_allClaimsTo 12 = .ok (.iload_n 3, 1) := by decide +kernel
theorem dX5_allClaimsTo_13 : decode cX5_allClaimsTo 13 = .ok (.invokevirtual 51, 3) := by decide +kernel
theorem dX5_allClaimsTo_16 : decode cX5_allClaimsTo 16 = .ok (.ior, 1) := by decide +kernel
theorem dX5_allClaimsTo_17 : decode cX5_allClaimsTo 17 = .ok (.istore_n 2, 1) := by decide +kernel
theorem dX5_allClaimsTo_18 : decode cX5_allClaimsTo 18 = .ok (.iinc 3 1, 3) := by decide +kernel
theorem dX5_allClaimsTo_21 : decode cX5_allClaimsTo 21 = .ok (.goto (-17), 3) := by decide +kernel
theorem dX5_allClaimsTo_24 : decode cX5_allClaimsTo 24 = .ok (.iload_n 2, 1) := by decide +kernel
theorem dX5_allClaimsTo_25 : decode cX5_allClaimsTo 25 = .ok (.ireturn, 1) := by decide +kernel
theorem dX5_of_0 : decode cX5_of 0 = .ok (.aload_n 0, 1) := by decide +kernel
theorem dX5_of_1 : decode cX5_of 1 = .ok (.iload_n 1, 1) := by decide +kernel
theorem dX5_of_2 : decode cX5_of 2 = .ok (.invokevirtual 78, 3) := by decide +kernel
theorem dX5_of_5 : decode cX5_of 5 = .ok (.ifCond .ne 5, 3) := by decide +kernel
theorem dX5_of_8 : decode cX5_of 8 = .ok (.iconst (-1), 1) := by decide +kernel
theorem dX5_of_9 : decode cX5_of 9 = .ok (.ireturn, 1) := by decide +kernel
theorem dX5_of_10 : decode cX5_of 10 = .ok (.iload_n 2, 1) := by decide +kernel
theorem dX5_of_11 : decode cX5_of 11 = .ok (.tableswitch 71 0 6 #[41, 41, 41, 41, 48, 54, 60], 41) := by decide +kernel
theorem dX5_of_52 : decode cX5_of 52 = .ok (.aload_n 0, 1) := by decide +kernel
theorem dX5_of_53 : decode cX5_of 53 = .ok (.iload_n 1, 1) := by decide +kernel
theorem dX5_of_54 : decode cX5_of 54 = .ok (.iload_n 2, 1) := by decide +kernel
theorem dX5_of_55 : decode cX5_of 55 = .ok (.invokevirtual 58, 3) := by decide +kernel
theorem dX5_of_58 : decode cX5_of 58 = .ok (.ireturn, 1) := by decide +kernel
theorem dX5_of_59 : decode cX5_of 59 = .ok (.aload_n 0, 1) := by decide +kernel
theorem dX5_of_60 : decode cX5_of 60 = .ok (.iload_n 1, 1) := by decide +kernel
theorem dX5_of_61 : decode cX5_of 61 = .ok (.invokevirtual 131, 3) := by decide +kernel
theorem dX5_of_64 : decode cX5_of 64 = .ok (.ireturn, 1) := by decide +kernel
theorem dX5_of_65 : decode cX5_of 65 = .ok (.aload_n 0, 1) := by decide +kernel
theorem dX5_of_66 : decode cX5_of 66 = .ok (.iload_n 1, 1) := by decide +kernel
theorem dX5_of_67 : decode cX5_of 67 = .ok (.invokevirtual 175, 3) := by decide +kernel
theorem dX5_of_70 : decode cX5_of 70 = .ok (.ireturn, 1) := by decide +kernel
theorem dX5_of_71 : decode cX5_of 71 = .ok (.aload_n 0, 1) := by decide +kernel
theorem dX5_of_72 : decode cX5_of 72 = .ok (.aload_n 0, 1) := by decide +kernel
theorem dX5_of_73 : decode cX5_of 73 = .ok (.iload_n 1, 1) := by decide +kernel
theorem dX5_of_74 : decode cX5_of 74 = .ok (.iconst 1, 1) := by decide +kernel
theorem dX5_of_75 : decode cX5_of 75 = .ok (.invokevirtual 51, 3) := by decide +kernel
theorem dX5_of_78 : decode cX5_of 78 = .ok (.invokevirtual 54, 3) := by decide +kernel
theorem dX5_of_81 : decode cX5_of 81 = .ok (.ireturn, 1) := by decide +kernel
theorem dX5_of_82 : decode cX5_of 82 = .ok (.bipush (-2), 2) := by decide +kernel
theorem dX5_of_84 : decode cX5_of 84 = .ok (.ireturn, 1) := by decide +kernel
theorem dX5_ofClaim_0 : decode cX5_ofClaim 0 = .ok (.aload_n 0, 1) := by decide +kernel
theorem dX5_ofClaim_1 : decode cX5_ofClaim 1 = .ok (.iload_n 1, 1) := by decide +kernel
theorem dX5_ofClaim_2 : decode cX5_ofClaim 2 = .ok (.invokevirtual 113, 3) := by decide +kernel
theorem dX5_ofClaim_5 : decode cX5_ofClaim 5 = .ok (.ifCond .ne 5, 3) := by decide +kernel
theorem dX5_ofClaim_8 : decode cX5_ofClaim 8 = .ok (.iconst (-1), 1) := by decide +kernel
theorem dX5_ofClaim_9 : decode cX5_ofClaim 9 = .ok (.ireturn, 1) := by decide +kernel
theorem dX5_ofClaim_10 : decode cX5_ofClaim 10 = .ok (.iload_n 2, 1) := by decide +kernel
theorem dX5_ofClaim_11 : decode cX5_ofClaim 11 = .ok (.iconst 0, 1) := by decide +kernel
theorem dX5_ofClaim_12 : decode cX5_ofClaim 12 = .ok (.bipush 6, 2) := by decide +kernel
theorem dX5_ofClaim_14 : decode cX5_ofClaim 14 = .ok (.invokestatic 32, 3) := by decide +kernel
theorem dX5_ofClaim_17 : decode cX5_ofClaim 17 = .ok (.ifCond .eq 12, 3) := by decide +kernel
theorem dX5_ofClaim_20 : decode cX5_ofClaim 20 = .ok (.aload_n 0, 1) := by decide +kernel
theorem dX5_ofClaim_21 : decode cX5_ofClaim 21 = .ok (.iload_n 1, 1) := by decide +kernel
theorem dX5_ofClaim_22 : decode cX5_ofClaim 22 = .ok (.iload_n 2, 1) := by decide +kernel
theorem dX5_ofClaim_23 : decode cX5_ofClaim 23 = .ok (.invokevirtual 47, 3) := by decide +kernel
theorem dX5_ofClaim_26 : decode cX5_ofClaim 26 = .ok (.goto 5, 3) := by decide +kernel
theorem dX5_ofClaim_29 : decode cX5_ofClaim 29 = .ok (.bipush (-2), 2) := by decide +kernel
theorem dX5_ofClaim_31 : decode cX5_ofClaim 31 = .ok (.ireturn, 1) := by decide +kernel
theorem dX5_claimsOf_0 : decode cX5_claimsOf 0 = .ok (.iconst 0, 1) := by decide +kernel
theorem dX5_claimsOf_1 : decode cX5_claimsOf 1 = .ok (.istore_n 3, 1) := by decide +kernel
theorem dX5_claimsOf_2 : decode cX5_claimsOf 2 = .ok (.iconst 0, 1) := by decide +kernel
theorem dX5_claimsOf_3 : decode cX5_claimsOf 3 = .ok (.istore 4, 2) := by decide +kernel
theorem dX5_claimsOf_5 : decode cX5_claimsOf 5 = .ok (.iload 4, 2) := by decide +kernel
theorem dX5_claimsOf_7 : decode cX5_claimsOf 7 = .ok (.aload_n 0, 1) := by decide +kernel
theorem dX5_claimsOf_8 : decode cX5_claimsOf 8 = .ok (.getfield 7, 3) := by decide +kernel
theorem dX5_claimsOf_11 : decode cX5_claimsOf 11 = .ok (.bipush 8, 2) := by decide +kernel
theorem dX5_claimsOf_13 : decode cX5_claimsOf 13 = .ok (.iaload, 1) := by decide +kernel
theorem dX5_claimsOf_14 : decode cX5_claimsOf 14 = .ok (.if_icmp .ge 44, 3) := by decide +kernel
theorem dX5_claimsOf_17 : decode cX5_claimsOf 17 = .ok (.iload_n 3, 1) := by decide +kernel
theorem dX5_claimsOf_18 : decode cX5_claimsOf 18 = .ok (.aload_n 0, 1) := by decide +kernel
theorem dX5_claimsOf_19 : decode cX5_claimsOf 19 = .ok (.iload 4, 2) := by decide +kernel
theorem dX5_claimsOf_21 : decode cX5_claimsOf 21 = .ok (.iconst 0, 1) := by decide +kernel
theorem dX5_claimsOf_22 : decode cX5_claimsOf 22 = .ok (.invokevirtual 47, 3) := by decide +kernel
theorem dX5_claimsOf_25 : decode cX5_claimsOf 25 = .ok (.iload_n 1, 1) := by decide +kernel
theorem dX5_claimsOf_26 : decode cX5_claimsOf 26 = .ok (.if_icmp .ne 23, 3) := by decide +kernel
theorem dX5_claimsOf_29 : decode cX5_claimsOf 29 = .ok (.iload_n 2, 1) := by decide +kernel
theorem dX5_claimsOf_30 : decode cX5_claimsOf 30 = .ok (.ifCond .eq 12, 3) := by decide +kernel
theorem dX5_claimsOf_33 : decode cX5_claimsOf 33 = .ok (.aload_n 0, 1) := by decide +kernel
theorem dX5_claimsOf_34 : decode cX5_claimsOf 34 = .ok (.iload 4, 2) := by decide +kernel
theorem dX5_claimsOf_36 : decode cX5_claimsOf 36 = .ok (.invokevirtual 91, 3) := by decide +kernel
theorem dX5_claimsOf_39 : decode cX5_claimsOf 39 = .ok (.ifCond .eq 10, 3) := by decide +kernel
theorem dX5_claimsOf_42 : decode cX5_claimsOf 42 = .ok (.iconst 1, 1) := by decide +kernel
theorem dX5_claimsOf_43 : decode cX5_claimsOf 43 = .ok (.iload 4, 2) := by decide +kernel
theorem dX5_claimsOf_45 : decode cX5_claimsOf 45 = .ok (.ishl, 1) := by decide +kernel
theorem dX5_claimsOf_46 : decode cX5_claimsOf 46 = .ok (.goto 4, 3) := by decide +kernel
theorem dX5_claimsOf_49 : decode cX5_claimsOf 49 = .ok (.iconst 0, 1) := by decide +kernel
theorem dX5_claimsOf_50 : decode cX5_claimsOf 50 = .ok (.ior, 1) := by decide +kernel
theorem dX5_claimsOf_51 : decode cX5_claimsOf 51 = .ok (.istore_n 3, 1) := by decide +kernel
theorem dX5_claimsOf_52 : decode cX5_claimsOf 52 = .ok (.iinc 4 1, 3) := by decide +kernel
theorem dX5_claimsOf_55 : decode cX5_claimsOf 55 = .ok (.goto (-50), 3) := by decide +kernel
theorem dX5_claimsOf_58 : decode cX5_claimsOf 58 = .ok (.iload_n 3, 1) := by decide +kernel
theorem dX5_claimsOf_59 : decode cX5_claimsOf 59 = .ok (.ireturn, 1) := by decide +kernel
theorem dX5_lotsGot_0 : decode cX5_lotsGot 0 = .ok (.iconst 0, 1) := by decide +kernel
theorem dX5_lotsGot_1 : decode cX5_lotsGot 1 = .ok (.istore_n 2, 1) := by decide +kernel
theorem dX5_lotsGot_2 : decode cX5_lotsGot 2 = .ok (.iconst 0, 1) := by decide +kernel
theorem dX5_lotsGot_3 : decode cX5_lotsGot 3 = .ok (.istore_n 3, 1) := by decide +kernel
theorem dX5_lotsGot_4 : decode cX5_lotsGot 4 = .ok (.iload_n 3, 1) := by decide +kernel
theorem dX5_lotsGot_5 : decode cX5_lotsGot 5 = .ok (.aload_n 0, 1) := by decide +kernel
theorem dX5_lotsGot_6 : decode cX5_lotsGot 6 = .ok (.getfield 7, 3) := by decide +kernel
theorem dX5_lotsGot_9 : decode cX5_lotsGot 9 = .ok (.bipush 8, 2) := by decide +kernel
theorem dX5_lotsGot_11 : decode cX5_lotsGot 11 = .ok (.iaload, 1) := by decide +kernel
theorem dX5_lotsGot_12 : decode cX5_lotsGot 12 = .ok (.if_icmp .ge 44, 3) := by decide +kernel
theorem dX5_lotsGot_15 : decode cX5_lotsGot 15 = .ok (.iload_n 2, 1) := by decide +kernel
theorem dX5_lotsGot_16 : decode cX5_lotsGot 16 = .ok (.aload_n 0, 1) := by decide +kernel
theorem dX5_lotsGot_17 : decode cX5_lotsGot 17 = .ok (.iload_n 3, 1) := by decide +kernel
theorem dX5_lotsGot_18 : decode cX5_lotsGot 18 = .ok (.iconst 0, 1) := by decide +kernel
theorem dX5_lotsGot_19 : decode cX5_lotsGot 19 = .ok (.invokevirtual 47, 3) := by decide +kernel
theorem dX5_lotsGot_22 : decode cX5_lotsGot 22 = .ok (.iload_n 1, 1) := by decide +kernel
theorem dX5_lotsGot_23 : decode cX5_lotsGot 23 = .ok (.if_icmp .ne 24, 3) := by decide +kernel
theorem dX5_lotsGot_26 : decode cX5_lotsGot 26 = .ok (.aload_n 0, 1) := by decide +kernel
theorem dX5_lotsGot_27 : decode cX5_lotsGot 27 = .ok (.iload_n 3, 1) := by decide +kernel
theorem dX5_lotsGot_28 : decode cX5_lotsGot 28 = .ok (.bipush 6, 2) := by decide +kernel
theorem dX5_lotsGot_30 : decode cX5_lotsGot 30 = .ok (.invokevirtual 47, 3) := by decide +kernel
theorem dX5_lotsGot_33 : decode cX5_lotsGot 33 = .ok (.ifCond .le 14, 3) := by decide +kernel
theorem dX5_lotsGot_36 : decode cX5_lotsGot 36 = .ok (.iconst 1, 1) := by decide +kernel
theorem dX5_lotsGot_37 : decode cX5_lotsGot 37 = .ok (.aload_n 0, 1) := by decide +kernel
theorem dX5_lotsGot_38 : decode cX5_lotsGot 38 = .ok (.iload_n 3, 1) := by decide +kernel
theorem dX5_lotsGot_39 : decode cX5_lotsGot 39 = .ok (.iconst 1, 1) := by decide +kernel
theorem dX5_lotsGot_40 : decode cX5_lotsGot 40 = .ok (.invokevirtual 47, 3) := by decide +kernel
theorem dX5_lotsGot_43 : decode cX5_lotsGot 43 = .ok (.ishl, 1) := by decide +kernel
theorem dX5_lotsGot_44 : decode cX5_lotsGot 44 = .ok (.goto 4, 3) := by decide +kernel
theorem dX5_lotsGot_47 : decode cX5_lotsGot 47 = .ok (.iconst 0, 1) := by decide +kernel
theorem dX5_lotsGot_48 : decode cX5_lotsGot 48 = .ok (.ior, 1) := by decide +kernel
theorem dX5_lotsGot_49 : decode cX5_lotsGot 49 = .ok (.istore_n 2, 1) := by decide +kernel
theorem dX5_lotsGot_50 : decode cX5_lotsGot 50 = .ok (.iinc 3 1, 3) := by decide +kernel
theorem dX5_lotsGot_53 : decode cX5_lotsGot 53 = .ok (.goto (-49), 3) := by decide +kernel
theorem dX5_lotsGot_56 : decode cX5_lotsGot 56 = .ok (.iload_n 2, 1) := by decide +kernel
theorem dX5_lotsGot_57 : decode cX5_lotsGot 57 = .ok (.ireturn, 1) := by decide +kernel
theorem dX5_heir_0 : decode cX5_heir 0 = .ok (.iload_n 1, 1) := by decide +kernel
theorem dX5_heir_1 : decode cX5_heir 1 = .ok (.invokestatic 94, 3) := by decide +kernel
theorem dX5_heir_4 : decode cX5_heir 4 = .ok (.ifCond .ne 5, 3) := by decide +kernel
theorem dX5_heir_7 : decode cX5_heir 7 = .ok (.iconst (-1), 1) := by decide +kernel
theorem dX5_heir_8 : decode cX5_heir 8 = .ok (.ireturn, 1) := by decide +kernel
theorem dX5_heir_9 : decode cX5_heir 9 = .ok (.iload_n 2, 1) := by decide +kernel
theorem dX5_heir_10 : decode cX5_heir 10 = .ok (.tableswitch 63 0 3 #[30, 41, 41, 57], 30) := by decide +kernel
theorem dX5_heir_40 : decode cX5_heir 40 = .ok (.aload_n 0, 1) := by decide +kernel
theorem dX5_heir_41 : decode cX5_heir 41 = .ok (.getfield 7, 3) := by decide +kernel
theorem dX5_heir_44 : decode cX5_heir 44 = .ok (.sipush 268, 3) := by decide +kernel
theorem dX5_heir_47 : decode cX5_heir 47 = .ok (.iload_n 1, 1) := by decide +kernel
theorem dX5_heir_48 : decode cX5_heir 48 = .ok (.iadd, 1) := by decide +kernel
theorem dX5_heir_49 : decode cX5_heir 49 = .ok (.iaload, 1) := by decide +kernel
theorem dX5_heir_50 : decode cX5_heir 50 = .ok (.ireturn, 1) := by decide +kernel
theorem dX5_heir_51 : decode cX5_heir 51 = .ok (.aload_n 0, 1) := by decide +kernel
theorem dX5_heir_52 : decode cX5_heir 52 = .ok (.iload_n 1, 1) := by decide +kernel
theorem dX5_heir_53 : decode cX5_heir 53 = .ok (.iload_n 2, 1) := by decide +kernel
theorem dX5_heir_54 : decode cX5_heir 54 = .ok (.iconst 2, 1) := by decide +kernel
theorem dX5_heir_55 : decode cX5_heir 55 = .ok (.if_icmp .ne 7, 3) := by decide +kernel
theorem dX5_heir_58 : decode cX5_heir 58 = .ok (.iconst 1, 1) := by decide +kernel
theorem dX5_heir_59 : decode cX5_heir 59 = .ok (.goto 4, 3) := by decide +kernel
theorem dX5_heir_62 : decode cX5_heir 62 = .ok (.iconst 0, 1) := by decide +kernel
theorem dX5_heir_63 : decode cX5_heir 63 = .ok (.invokevirtual 178, 3) := by decide +kernel
theorem dX5_heir_66 : decode cX5_heir 66 = .ok (.ireturn, 1) := by decide +kernel
theorem dX5_heir_67 : decode cX5_heir 67 = .ok (.aload_n 0, 1) := by decide +kernel
theorem dX5_heir_68 : decode cX5_heir 68 = .ok (.iload_n 1, 1) := by decide +kernel
theorem dX5_heir_69 : decode cX5_heir 69 = .ok (.invokevirtual 182, 3) := by decide +kernel
theorem dX5_heir_72 : decode cX5_heir 72 = .ok (.ireturn, 1) := by decide +kernel
theorem dX5_heir_73 : decode cX5_heir 73 = .ok (.bipush (-2), 2) := by decide +kernel
theorem dX5_heir_75 : decode cX5_heir 75 = .ok (.ireturn, 1) := by decide +kernel
theorem dX5_paid_0 : decode cX5_paid 0 = .ok (.iload_n 1, 1) := by decide +kernel
theorem dX5_paid_1 : decode cX5_paid 1 = .ok (.iconst 0, 1) := by decide +kernel
theorem dX5_paid_2 : decode cX5_paid 2 = .ok (.aload_n 0, 1) := by decide +kernel
theorem dX5_paid_3 : decode cX5_paid 3 = .ok (.getfield 7, 3) := by decide +kernel
theorem dX5_paid_6 : decode cX5_paid 6 = .ok (.bipush 9, 2) := by decide +kernel
theorem dX5_paid_8 : decode cX5_paid 8 = .ok (.iaload, 1) := by decide +kernel
theorem dX5_paid_9 : decode cX5_paid 9 = .ok (.iconst 1, 1) := by decide +kernel
theorem dX5_paid_10 : decode cX5_paid 10 = .ok (.isub, 1) := by decide +kernel
theorem dX5_paid_11 : decode cX5_paid 11 = .ok (.invokestatic 32, 3) := by decide +kernel
theorem dX5_paid_14 : decode cX5_paid 14 = .ok (.ifCond .eq 16, 3) := by decide +kernel
theorem dX5_paid_17 : decode cX5_paid 17 = .ok (.aload_n 0, 1) := by decide +kernel
theorem dX5_paid_18 : decode cX5_paid 18 = .ok (.getfield 7, 3) := by decide +kernel
theorem dX5_paid_21 : decode cX5_paid 21 = .ok (.sipush 284, 3) := by decide +kernel
theorem dX5_paid_24 : decode cX5_paid 24 = .ok (.iload_n 1, 1) := by decide +kernel
theorem dX5_paid_25 : decode cX5_paid 25 = .ok (.iadd, 1) := by decide +kernel
theorem dX5_paid_26 : decode cX5_paid 26 = .ok (.iaload, 1) := by decide +kernel
theorem dX5_paid_27 : decode cX5_paid 27 = .ok (.goto 4, 3) := by decide +kernel
theorem dX5_paid_30 : decode cX5_paid 30 = .ok (.iconst (-1), 1) := by decide +kernel
theorem dX5_paid_31 : decode cX5_paid 31 = .ok (.ireturn, 1) := by decide +kernel
theorem dX5_valueOf_0 : decode cX5_valueOf 0 = .ok (.iconst 0, 1) := by decide +kernel
theorem dX5_valueOf_1 : decode cX5_valueOf 1 = .ok (.istore_n 2, 1) := by decide +kernel
theorem dX5_valueOf_2 : decode cX5_valueOf 2 = .ok (.iconst 0, 1) := by decide +kernel
theorem dX5_valueOf_3 : decode cX5_valueOf 3 = .ok (.istore_n 3, 1) := by decide +kernel
theorem dX5_valueOf_4 : decode cX5_valueOf 4 = .ok (.iload_n 3, 1) := by decide +kernel
theorem dX5_valueOf_5 : decode cX5_valueOf 5 = .ok (.aload_n 0, 1) := by decide +kernel
theorem dX5_valueOf_6 : decode cX5_valueOf 6 = .ok (.getfield 7, 3) := by decide +kernel
theorem dX5_valueOf_9 : decode cX5_valueOf 9 = .ok (.bipush 7, 2) := by decide +kernel
theorem dX5_valueOf_11 : decode cX5_valueOf 11 = .ok (.iaload, 1) := by decide +kernel
theorem dX5_valueOf_12 : decode cX5_valueOf 12 = .ok (.if_icmp .ge 31, 3) := by decide +kernel
theorem dX5_valueOf_15 : decode cX5_valueOf 15 = .ok (.iload_n 2, 1) := by decide +kernel
theorem dX5_valueOf_16 : decode cX5_valueOf 16 = .ok (.iload_n 1, 1) := by decide +kernel
theorem dX5_valueOf_17 : decode cX5_valueOf 17 = .ok (.iload_n 3, 1) := by decide +kernel
theorem dX5_valueOf_18 : decode cX5_valueOf 18 = .ok (.ishr, 1) := by decide +kernel
theorem dX5_valueOf_19 : decode cX5_valueOf 19 = .ok (.iconst 1, 1) := by decide +kernel
theorem dX5_valueOf_20 : decode cX5_valueOf 20 = .ok (.iand, 1) := by decide +kernel
theorem dX5_valueOf_21 : decode cX5_valueOf 21 = .ok (.iconst 1, 1) := by decide +kernel
theorem dX5_valueOf_22 : decode cX5_valueOf 22 = .ok (.if_icmp .ne 12, 3) := by decide +kernel
theorem dX5_valueOf_25 : decode cX5_valueOf 25 = .ok (.aload_n 0, 1) := by decide +kernel
theorem dX5_valueOf_26 : decode cX5_valueOf 26 = .ok (.iload_n 3, 1) := by decide +kernel
theorem dX5_valueOf_27 : decode cX5_valueOf 27 = .ok (.iconst 0, 1) := by decide +kernel
theorem dX5_valueOf_28 : decode cX5_valueOf 28 = .ok (.invokevirtual 58, 3) := by decide +kernel
theorem dX5_valueOf_31 : decode cX5_valueOf 31 = .ok (.goto 4, 3) := by decide +kernel
theorem dX5_valueOf_34 : decode cX5_valueOf 34 = .ok (.iconst 0, 1) := by decide +kernel
theorem dX5_valueOf_35 : decode cX5_valueOf 35 = .ok (.iadd, 1) := by decide +kernel
theorem dX5_valueOf_36 : decode cX5_valueOf 36 = .ok (.istore_n 2, 1) := by decide +kernel
theorem dX5_valueOf_37 : decode cX5_valueOf 37 = .ok (.iinc 3 1, 3) := by decide +kernel
theorem dX5_valueOf_40 : decode cX5_valueOf 40 = .ok (.goto (-36), 3) := by decide +kernel
theorem dX5_valueOf_43 : decode cX5_valueOf 43 = .ok (.iload_n 2, 1) := by decide +kernel
theorem dX5_valueOf_44 : decode cX5_valueOf 44 = .ok (.ireturn, 1) := by decide +kernel
theorem dX5_purses_0 : decode cX5_purses 0 = .ok (.iconst 0, 1) := by decide +kernel
theorem dX5_purses_1 : decode cX5_purses 1 = .ok (.istore_n 1, 1) := by decide +kernel
theorem dX5_purses_2 : decode cX5_purses 2 = .ok (.iconst 0, 1) := by decide +kernel
theorem dX5_purses_3 : decode cX5_purses 3 = .ok (.istore_n 2, 1) := by decide +kernel
theorem dX5_purses_4 : decode cX5_purses 4 = .ok (.iload_n 2, 1) := by decide +kernel
theorem dX5_purses_5 : decode cX5_purses 5 = .ok (.bipush 16, 2) := by decide +kernel
theorem dX5_purses_7 : decode cX5_purses 7 = .ok (.if_icmp .ge 22, 3) := by decide +kernel
theorem dX5_purses_10 : decode cX5_purses 10 = .ok (.iload_n 1, 1) := by decide +kernel
theorem dX5_purses_11 : decode cX5_purses 11 = .ok (.aload_n 0, 1) := by decide +kernel
theorem dX5_purses_12 : decode cX5_purses 12 = .ok (.getfield 7, 3) := by decide +kernel
theorem dX5_purses_15 : decode cX5_purses 15 = .ok (.sipush 268, 3) := by decide +kernel
theorem dX5_purses_18 : decode cX5_purses 18 = .ok (.iload_n 2, 1) := by decide +kernel
theorem dX5_purses_19 : decode cX5_purses 19 = .ok (.iadd, 1) := by decide +kernel
theorem dX5_purses_20 : decode cX5_purses 20 = .ok (.iaload, 1) := by decide +kernel
theorem dX5_purses_21 : decode cX5_purses 21 = .ok (.iadd, 1) := by decide +kernel
theorem dX5_purses_22 : decode cX5_purses 22 = .ok (.istore_n 1, 1) := by decide +kernel
theorem dX5_purses_23 : decode cX5_purses 23 = .ok (.iinc 2 1, 3) := by decide +kernel
theorem dX5_purses_26 : decode cX5_purses 26 = .ok (.goto (-22), 3) := by decide +kernel
theorem dX5_purses_29 : decode cX5_purses 29 = .ok (.iload_n 1, 1) := by decide +kernel
theorem dX5_purses_30 : decode cX5_purses 30 = .ok (.ireturn, 1) := by decide +kernel
theorem dX5_standingClaims_0 : decode cX5_standingClaims 0 = .ok (.iconst 0, 1) := by decide +kernel
theorem dX5_standingClaims_1 : decode cX5_standingClaims 1 = .ok (.istore_n 1, 1) := by decide +kernel
theorem dX5_standingClaims_2 : decode cX5_standingClaims 2 = .ok (.iconst 0, 1) := by decide +kernel
theorem dX5_standingClaims_3 : decode cX5_standingClaims 3 = .ok (.istore_n 2, 1) := by decide +kernel
theorem dX5_standingClaims_4 : decode cX5_standingClaims 4 = .ok (.iload_n 2, 1) := by decide +kernel
theorem dX5_standingClaims_5 : decode cX5_standingClaims 5 = .ok (.bipush 16, 2) := by decide +kernel
theorem dX5_standingClaims_7 : decode cX5_standingClaims 7 = .ok (.if_icmp .ge 18, 3) := by decide +kernel
theorem dX5_standingClaims_10 : decode cX5_standingClaims 10 = .ok (.iload_n 1, 1) := by decide +kernel
theorem dX5_standingClaims_11 : decode cX5_standingClaims 11 = .ok (.aload_n 0, 1) := by decide +kernel
theorem dX5_standingClaims_12 : decode cX5_standingClaims 12 = .ok (.iload_n 2, 1) := by decide +kernel
theorem dX5_standingClaims_13 : decode cX5_standingClaims 13 = .ok (.iconst 1, 1) := by decide +kernel
theorem dX5_standingClaims_14 : decode cX5_standingClaims 14 = .ok (.invokevirtual 178, 3) := by decide +kernel
theorem dX5_standingClaims_17 : decode cX5_standingClaims 17 = .ok (.ior, 1) := by decide +kernel
theorem dX5_standingClaims_18 : decode cX5_standingClaims 18 = .ok (.istore_n 1, 1) := by decide +kernel
theorem dX5_standingClaims_19 : decode cX5_standingClaims 19 = .ok (.iinc 2 1, 3) := by decide +kernel
theorem dX5_standingClaims_22 : decode cX5_standingClaims 22 = .ok (.goto (-18), 3) := by decide +kernel
theorem dX5_standingClaims_25 : decode cX5_standingClaims 25 = .ok (.iload_n 1, 1) := by decide +kernel
theorem dX5_standingClaims_26 : decode cX5_standingClaims 26 = .ok (.ireturn, 1) := by decide +kernel
theorem dX5_heirsWhoClaimed_0 : decode cX5_heirsWhoClaimed 0 = .ok (.iconst 0, 1) := by decide +kernel
theorem dX5_heirsWhoClaimed_1 : decode cX5_heirsWhoClaimed 1 = .ok (.istore_n 1, 1) := by decide +kernel
theorem dX5_heirsWhoClaimed_2 : decode cX5_heirsWhoClaimed 2 = .ok (.iconst 0, 1) := by decide +kernel
theorem dX5_heirsWhoClaimed_3 : decode cX5_heirsWhoClaimed 3 = .ok (.istore_n 2, 1) := by decide +kernel
theorem dX5_heirsWhoClaimed_4 : decode cX5_heirsWhoClaimed 4 = .ok (.iload_n 2, 1) := by decide +kernel
theorem dX5_heirsWhoClaimed_5 : decode cX5_heirsWhoClaimed 5 = .ok (.bipush 16, 2) := by decide +kernel
theorem dX5_heirsWhoClaimed_7 : decode cX5_heirsWhoClaimed 7 = .ok (.if_icmp .ge 26, 3) := by decide +kernel
theorem dX5_heirsWhoClaimed_10 : decode cX5_heirsWhoClaimed 10 = .ok (.iload_n 1, 1) := by decide +kernel
theorem dX5_heirsWhoClaimed_11 : decode cX5_heirsWhoClaimed 11 = .ok (.aload_n 0, 1) := by decide +kernel
theorem dX5_heirsWhoClaimed_12 : decode cX5_heirsWhoClaimed 12 = .ok (.iload_n 2, 1) := by decide +kernel
theorem dX5_heirsWhoClaimed_13 : decode cX5_heirsWhoClaimed 13 = .ok (.iconst 0, 1) := by decide +kernel
theorem dX5_heirsWhoClaimed_14 : decode cX5_heirsWhoClaimed 14 = .ok (.invokevirtual 178, 3) := by decide +kernel
theorem dX5_heirsWhoClaimed_17 : decode cX5_heirsWhoClaimed 17 = .ok (.ifCond .eq 7, 3) := by decide +kernel
theorem dX5_heirsWhoClaimed_20 : decode cX5_heirsWhoClaimed 20 = .ok (.iconst 1, 1) := by decide +kernel
theorem dX5_heirsWhoClaimed_21 : decode cX5_heirsWhoClaimed 21 = .ok (.goto 4, 3) := by decide +kernel
theorem dX5_heirsWhoClaimed_24 : decode cX5_heirsWhoClaimed 24 = .ok (.iconst 0, 1) := by decide +kernel
theorem dX5_heirsWhoClaimed_25 : decode cX5_heirsWhoClaimed 25 = .ok (.iadd, 1) := by decide +kernel
theorem dX5_heirsWhoClaimed_26 : decode cX5_heirsWhoClaimed 26 = .ok (.istore_n 1, 1) := by decide +kernel
theorem dX5_heirsWhoClaimed_27 : decode cX5_heirsWhoClaimed 27 = .ok (.iinc 2 1, 3) := by decide +kernel
theorem dX5_heirsWhoClaimed_30 : decode cX5_heirsWhoClaimed 30 = .ok (.goto (-26), 3) := by decide +kernel
theorem dX5_heirsWhoClaimed_33 : decode cX5_heirsWhoClaimed 33 = .ok (.iload_n 1, 1) := by decide +kernel
theorem dX5_heirsWhoClaimed_34 : decode cX5_heirsWhoClaimed 34 = .ok (.ireturn, 1) := by decide +kernel
theorem dX5_count_0 : decode cX5_count 0 = .ok (.iload_n 1, 1) := by decide +kernel
theorem dX5_count_1 : decode cX5_count 1 = .ok (.tableswitch 197 0 20 #[99, 106, 114, 122, 122, 122, 122, 122, 130, 138, 154, 162, 167, 172, 177, 177, 177, 177, 177, 187, 192], 99) := by decide +kernel
theorem dX5_count_100 : decode cX5_count 100 = .ok (.aload_n 0, 1) := by decide +kernel
theorem dX5_count_101 : decode cX5_count 101 = .ok (.getfield 7, 3) := by decide +kernel
theorem dX5_count_104 : decode cX5_count 104 = .ok (.iconst 5, 1) := by decide +kernel
theorem dX5_count_105 : decode cX5_count 105 = .ok (.iaload, 1) := by decide +kernel
theorem dX5_count_106 : decode cX5_count 106 = .ok (.ireturn, 1) := by decide +kernel
theorem dX5_count_107 : decode cX5_count 107 = .ok (.aload_n 0, 1) := by decide +kernel
theorem dX5_count_108 : decode cX5_count 108 = .ok (.getfield 7, 3) := by decide +kernel
theorem dX5_count_111 : decode cX5_count 111 = .ok (.bipush 7, 2) := by decide +kernel
theorem dX5_count_113 : decode cX5_count 113 = .ok (.iaload, 1) := by decide +kernel
theorem dX5_count_114 : decode cX5_count 114 = .ok (.ireturn, 1) := by decide +kernel
theorem dX5_count_115 : decode cX5_count 115 = .ok (.aload_n 0, 1) := by decide +kernel
theorem dX5_count_116 : decode cX5_count 116 = .ok (.getfield 7, 3) := by decide +kernel
theorem dX5_count_119 : decode cX5_count 119 = .ok (.bipush 8, 2) := by decide +kernel
theorem dX5_count_121 : decode cX5_count 121 = .ok (.iaload, 1) := by decide +kernel
theorem dX5_count_122 : decode cX5_count 122 = .ok (.ireturn, 1) := by decide +kernel
theorem dX5_count_123 : decode cX5_count 123 = .ok (.aload_n 0, 1) := by decide +kernel
theorem dX5_count_124 : decode cX5_count 124 = .ok (.iload_n 1, 1) := by decide +kernel
theorem dX5_count_125 : decode cX5_count 125 = .ok (.iconst 3, 1) := by decide +kernel
theorem dX5_count_126 : decode cX5_count 126 = .ok (.isub, 1) := by decide +kernel
theorem dX5_count_127 : decode cX5_count 127 = .ok (.invokevirtual 82, 3) := by decide +kernel
theorem dX5_count_130 : decode cX5_count 130 = .ok (.ireturn, 1) := by decide +kernel
theorem dX5_count_131 : decode cX5_count 131 = .ok (.aload_n 0, 1) := by decide +kernel
theorem dX5_count_132 : decode cX5_count 132 = .ok (.sipush 4095, 3) := by decide +kernel
theorem dX5_count_135 : decode cX5_count 135 = .ok (.invokevirtual 185, 3) := by decide +kernel
theorem dX5_count_138 : decode cX5_count 138 = .ok (.ireturn, 1) := by decide +kernel
theorem dX5_count_139 : decode cX5_count 139 = .ok (.aload_n 0, 1) := by decide +kernel
theorem dX5_count_140 : decode cX5_count 140 = .ok (.aload_n 0, 1) := by decide +kernel
theorem dX5_count_141 : decode cX5_count 141 = .ok (.iconst 0, 1) := by decide +kernel
theorem dX5_count_142 : decode cX5_count 142 = .ok (.invokevirtual 82, 3) := by decide +kernel
theorem dX5_count_145 : decode cX5_count 145 = .ok (.aload_n 0, 1) := by decide +kernel
theorem dX5_count_146 : decode cX5_count 146 = .ok (.iconst 1, 1) := by decide +kernel
theorem dX5_count_147 : decode cX5_count 147 = .ok (.invokevirtual 82, 3) := by decide +kernel
theorem dX5_count_150 : decode cX5_count 150 = .ok (.ior, 1) := by decide +kernel
theorem dX5_count_151 : decode cX5_count 151 = .ok (.invokevirtual 185, 3) := by decide +kernel
theorem dX5_count_154 : decode cX5_count 154 = .ok (.ireturn, 1) := by decide +kernel
theorem dX5_count_155 : decode cX5_count 155 = .ok (.aload_n 0, 1) := by decide +kernel
theorem dX5_count_156 : decode cX5_count 156 = .ok (.getfield 7, 3) := by decide +kernel
theorem dX5_count_159 : decode cX5_count 159 = .ok (.bipush 6, 2) := by decide +kernel
theorem dX5_count_161 : decode cX5_count 161 = .ok (.iaload, 1) := by decide +kernel
theorem dX5_count_162 : decode cX5_count 162 = .ok (.ireturn, 1) := by decide +kernel
theorem dX5_count_163 : decode cX5_count 163 = .ok (.aload_n 0, 1) := by decide +kernel
theorem dX5_count_164 : decode cX5_count 164 = .ok (.invokevirtual 188, 3) := by decide +kernel
theorem dX5_count_167 : decode cX5_count 167 = .ok (.ireturn, 1) := by decide +kernel
theorem dX5_count_168 : decode cX5_count 168 = .ok (.aload_n 0, 1) := by decide +kernel
theorem dX5_count_169 : decode cX5_count 169 = .ok (.invokevirtual 191, 3) := by decide +kernel
theorem dX5_count_172 : decode cX5_count 172 = .ok (.ireturn, 1) := by decide +kernel
theorem dX5_count_173 : decode cX5_count 173 = .ok (.aload_n 0, 1) := by decide +kernel
theorem dX5_count_174 : decode cX5_count 174 = .ok (.invokevirtual 194, 3) := by decide +kernel
theorem dX5_count_177 : decode cX5_count 177 = .ok (.ireturn, 1) := by decide +kernel
theorem dX5_count_178 : decode cX5_count 178 = .ok (.aload_n 0, 1) := by decide +kernel
theorem dX5_count_179 : decode cX5_count 179 = .ok (.getfield 7, 3) := by decide +kernel
theorem dX5_count_182 : decode cX5_count 182 = .ok (.iload_n 1, 1) := by decide +kernel
theorem dX5_count_183 : decode cX5_count 183 = .ok (.bipush 14, 2) := by decide +kernel
theorem dX5_count_185 : decode cX5_count 185 = .ok (.isub, 1) := by decide +kernel
theorem dX5_count_186 : decode cX5_count 186 = .ok (.iaload, 1) := by decide +kernel
theorem dX5_count_187 : decode cX5_count 187 = .ok (.ireturn, 1) := by decide +kernel
theorem dX5_count_188 : decode cX5_count 188 = .ok (.aload_n 0, 1) := by decide +kernel
theorem dX5_count_189 : decode cX5_count 189 = .ok (.getfield 197, 3) := by decide +kernel
theorem dX5_count_192 : decode cX5_count 192 = .ok (.ireturn, 1) := by decide +kernel
theorem dX5_count_193 : decode cX5_count 193 = .ok (.aload_n 0, 1) := by decide +kernel
theorem dX5_count_194 : decode cX5_count 194 = .ok (.getfield 36, 3) := by decide +kernel
theorem dX5_count_197 : decode cX5_count 197 = .ok (.ireturn, 1) := by decide +kernel
theorem dX5_count_198 : decode cX5_count 198 = .ok (.bipush (-2), 2) := by decide +kernel
theorem dX5_count_200 : decode cX5_count 200 = .ok (.ireturn, 1) := by decide +kernel
theorem dX5_why_0 : decode cX5_why 0 = .ok (.aload_n 0, 1) := by decide +kernel
theorem dX5_why_1 : decode cX5_why 1 = .ok (.iload_n 1, 1) := by decide +kernel
theorem dX5_why_2 : decode cX5_why 2 = .ok (.invokevirtual 78, 3) := by decide +kernel
theorem dX5_why_5 : decode cX5_why 5 = .ok (.ifCond .ne 5, 3) := by decide +kernel
theorem dX5_why_8 : decode cX5_why 8 = .ok (.iconst (-1), 1) := by decide +kernel
theorem dX5_why_9 : decode cX5_why 9 = .ok (.ireturn, 1) := by decide +kernel
theorem dX5_why_10 : decode cX5_why 10 = .ok (.aload_n 0, 1) := by decide +kernel
theorem dX5_why_11 : decode cX5_why 11 = .ok (.iload_n 1, 1) := by decide +kernel
theorem dX5_why_12 : decode cX5_why 12 = .ok (.iconst 1, 1) := by decide +kernel
theorem dX5_why_13 : decode cX5_why 13 = .ok (.invokevirtual 58, 3) := by decide +kernel
theorem dX5_why_16 : decode cX5_why 16 = .ok (.iconst 1, 1) := by decide +kernel
theorem dX5_why_17 : decode cX5_why 17 = .ok (.if_icmp .eq 7, 3) := by decide +kernel
theorem dX5_why_20 : decode cX5_why 20 = .ok (.iconst 1, 1) := by decide +kernel
theorem dX5_why_21 : decode cX5_why 21 = .ok (.goto 30, 3) := by decide +kernel
theorem dX5_why_24 : decode cX5_why 24 = .ok (.aload_n 0, 1) := by decide +kernel
theorem dX5_why_25 : decode cX5_why 25 = .ok (.iload_n 1, 1) := by decide +kernel
theorem dX5_why_26 : decode cX5_why 26 = .ok (.iconst 0, 1) := by decide +kernel
theorem dX5_why_27 : decode cX5_why 27 = .ok (.invokevirtual 51, 3) := by decide +kernel
theorem dX5_why_30 : decode cX5_why 30 = .ok (.ifCond .eq 7, 3) := by decide +kernel
theorem dX5_why_33 : decode cX5_why 33 = .ok (.iconst 2, 1) := by decide +kernel
theorem dX5_why_34 : decode cX5_why 34 = .ok (.goto 17, 3) := by decide +kernel
theorem dX5_why_37 : decode cX5_why 37 = .ok (.aload_n 0, 1) := by decide +kernel
theorem dX5_why_38 : decode cX5_why 38 = .ok (.iload_n 1, 1) := by decide +kernel
theorem dX5_why_39 : decode cX5_why 39 = .ok (.iconst 1, 1) := by decide +kernel
theorem dX5_why_40 : decode cX5_why 40 = .ok (.invokevirtual 51, 3) := by decide +kernel
theorem dX5_why_43 : decode cX5_why 43 = .ok (.ifCond .eq 7, 3) := by decide +kernel
theorem dX5_why_46 : decode cX5_why 46 = .ok (.iconst 3, 1) := by decide +kernel
theorem dX5_why_47 : decode cX5_why 47 = .ok (.goto 4, 3) := by decide +kernel
theorem dX5_why_50 : decode cX5_why 50 = .ok (.iconst 0, 1) := by decide +kernel
theorem dX5_why_51 : decode cX5_why 51 = .ok (.ireturn, 1) := by decide +kernel
theorem dX5_daysToFall_0 : decode cX5_daysToFall 0 = .ok (.aload_n 0, 1) := by decide +kernel
theorem dX5_daysToFall_1 : decode cX5_daysToFall 1 = .ok (.getfield 7, 3) := by decide +kernel
theorem dX5_daysToFall_4 : decode cX5_daysToFall 4 = .ok (.iconst 0, 1) := by decide +kernel
theorem dX5_daysToFall_5 : decode cX5_daysToFall 5 = .ok (.aload_n 0, 1) := by decide +kernel
theorem dX5_daysToFall_6 : decode cX5_daysToFall 6 = .ok (.getfield 13, 3) := by decide +kernel
theorem dX5_daysToFall_9 : decode cX5_daysToFall 9 = .ok (.iconst 0, 1) := by decide +kernel
theorem dX5_daysToFall_10 : decode cX5_daysToFall 10 = .ok (.invokestatic 40, 3) := by decide +kernel
theorem dX5_daysToFall_13 : decode cX5_daysToFall 13 = .ok (.iconst 0, 1) := by decide +kernel
theorem dX5_daysToFall_14 : decode cX5_daysToFall 14 = .ok (.istore_n 2, 1) := by decide +kernel
theorem dX5_daysToFall_15 : decode cX5_daysToFall 15 = .ok (.iload_n 2, 1) := by decide +kernel
theorem dX5_daysToFall_16 : decode cX5_daysToFall 16 = .ok (.sipush 700, 3) := by decide +kernel
theorem dX5_daysToFall_19 : decode cX5_daysToFall 19 = .ok (.if_icmp .ge 25, 3) := by decide +kernel
theorem dX5_daysToFall_22 : decode cX5_daysToFall 22 = .ok (.aload_n 0, 1) := by decide +kernel
theorem dX5_daysToFall_23 : decode cX5_daysToFall 23 = .ok (.iload_n 1, 1) := by decide +kernel
theorem dX5_daysToFall_24 : decode cX5_daysToFall 24 = .ok (.iconst 1, 1) := by decide +kernel
theorem dX5_daysToFall_25 : decode cX5_daysToFall 25 = .ok (.invokevirtual 58, 3) := by decide +kernel
theorem dX5_daysToFall_28 : decode cX5_daysToFall 28 = .ok (.iconst 1, 1) := by decide +kernel
theorem dX5_daysToFall_29 : decode cX5_daysToFall 29 = .ok (.if_icmp .ne 15, 3) := by decide +kernel
theorem dX5_daysToFall_32 : decode cX5_daysToFall 32 = .ok (.aload_n 0, 1) := by decide +kernel
theorem dX5_daysToFall_33 : decode cX5_daysToFall 33 = .ok (.iload_n 1, 1) := by decide +kernel
theorem dX5_daysToFall_34 : decode cX5_daysToFall 34 = .ok (.invokevirtual 162, 3) := by decide +kernel
theorem dX5_daysToFall_37 : decode cX5_daysToFall 37 = .ok (.pop, 1) := by decide +kernel
theorem dX5_daysToFall_38 : decode cX5_daysToFall 38 = .ok (.iinc 2 1, 3) := by decide +kernel
theorem dX5_daysToFall_41 : decode cX5_daysToFall 41 = .ok (.goto (-26), 3) := by decide +kernel
theorem dX5_daysToFall_44 : decode cX5_daysToFall 44 = .ok (.aload_n 0, 1) := by decide +kernel
theorem dX5_daysToFall_45 : decode cX5_daysToFall 45 = .ok (.iload_n 1, 1) := by decide +kernel
theorem dX5_daysToFall_46 : decode cX5_daysToFall 46 = .ok (.iconst 1, 1) := by decide +kernel
theorem dX5_daysToFall_47 : decode cX5_daysToFall 47 = .ok (.invokevirtual 58, 3) := by decide +kernel
theorem dX5_daysToFall_50 : decode cX5_daysToFall 50 = .ok (.iconst 3, 1) := by decide +kernel
theorem dX5_daysToFall_51 : decode cX5_daysToFall 51 = .ok (.if_icmp .ne 7, 3) := by decide +kernel
theorem dX5_daysToFall_54 : decode cX5_daysToFall 54 = .ok (.iconst 1, 1) := by decide +kernel
theorem dX5_daysToFall_55 : decode cX5_daysToFall 55 = .ok (.goto 4, 3) := by decide +kernel
theorem dX5_daysToFall_58 : decode cX5_daysToFall 58 = .ok (.iconst 0, 1) := by decide +kernel
theorem dX5_daysToFall_59 : decode cX5_daysToFall 59 = .ok (.istore_n 3, 1) := by decide +kernel
theorem dX5_daysToFall_60 : decode cX5_daysToFall 60 = .ok (.aload_n 0, 1) := by decide +kernel
theorem dX5_daysToFall_61 : decode cX5_daysToFall 61 = .ok (.getfield 13, 3) := by decide +kernel
theorem dX5_daysToFall_64 : decode cX5_daysToFall 64 = .ok (.iconst 0, 1) := by decide +kernel
theorem dX5_daysToFall_65 : decode cX5_daysToFall 65 = .ok (.aload_n 0, 1) := by decide +kernel
theorem dX5_daysToFall_66 : decode cX5_daysToFall 66 = .ok (.getfield 7, 3) := by decide +kernel
theorem dX5_daysToFall_69 : decode cX5_daysToFall 69 = .ok (.iconst 0, 1) := by decide +kernel
theorem dX5_daysToFall_70 : decode cX5_daysToFall 70 = .ok (.invokestatic 40, 3) := by decide +kernel
theorem dX5_daysToFall_73 : decode cX5_daysToFall 73 = .ok (.iload_n 3, 1) := by decide +kernel
theorem dX5_daysToFall_74 : decode cX5_daysToFall 74 = .ok (.ifCond .eq 7, 3) := by decide +kernel
theorem dX5_daysToFall_77 : decode cX5_daysToFall 77 = .ok (.iload_n 2, 1) := by decide +kernel
theorem dX5_daysToFall_78 : decode cX5_daysToFall 78 = .ok (.goto 5, 3) := by decide +kernel
theorem dX5_daysToFall_81 : decode cX5_daysToFall 81 = .ok (.bipush (-6), 2) := by decide +kernel
theorem dX5_daysToFall_83 : decode cX5_daysToFall 83 = .ok (.ireturn, 1) := by decide +kernel
theorem dX5_fallsIn_0 : decode cX5_fallsIn 0 = .ok (.aload_n 0, 1) := by decide +kernel
theorem dX5_fallsIn_1 : decode cX5_fallsIn 1 = .ok (.iload_n 1, 1) := by decide +kernel
theorem dX5_fallsIn_2 : decode cX5_fallsIn 2 = .ok (.invokevirtual 78, 3) := by decide +kernel
theorem dX5_fallsIn_5 : decode cX5_fallsIn 5 = .ok (.ifCond .ne 7, 3) := by decide +kernel
theorem dX5_fallsIn_8 : decode cX5_fallsIn 8 = .ok (.iconst (-1), 1) := by decide +kernel
theorem dX5_fallsIn_9 : decode cX5_fallsIn 9 = .ok (.goto 23, 3) := by decide +kernel
theorem dX5_fallsIn_12 : decode cX5_fallsIn 12 = .ok (.aload_n 0, 1) := by decide +kernel
theorem dX5_fallsIn_13 : decode cX5_fallsIn 13 = .ok (.iload_n 1, 1) := by decide +kernel
theorem dX5_fallsIn_14 : decode cX5_fallsIn 14 = .ok (.iconst 1, 1) := by decide +kernel
theorem dX5_fallsIn_15 : decode cX5_fallsIn 15 = .ok (.invokevirtual 58, 3) := by decide +kernel
theorem dX5_fallsIn_18 : decode cX5_fallsIn 18 = .ok (.iconst 1, 1) := by decide +kernel
theorem dX5_fallsIn_19 : decode cX5_fallsIn 19 = .ok (.if_icmp .ne 11, 3) := by decide +kernel
theorem dX5_fallsIn_22 : decode cX5_fallsIn 22 = .ok (.aload_n 0, 1) := by decide +kernel
theorem dX5_fallsIn_23 : decode cX5_fallsIn 23 = .ok (.iload_n 1, 1) := by decide +kernel
theorem dX5_fallsIn_24 : decode cX5_fallsIn 24 = .ok (.invokevirtual 200, 3) := by decide +kernel
theorem dX5_fallsIn_27 : decode cX5_fallsIn 27 = .ok (.goto 5, 3) := by decide +kernel
theorem dX5_fallsIn_30 : decode cX5_fallsIn 30 = .ok (.bipush (-5), 2) := by decide +kernel
theorem dX5_fallsIn_32 : decode cX5_fallsIn 32 = .ok (.ireturn, 1) := by decide +kernel
theorem dX5_shareOf_0 : decode cX5_shareOf 0 = .ok (.aload_n 0, 1) := by decide +kernel
theorem dX5_shareOf_1 : decode cX5_shareOf 1 = .ok (.iload_n 3, 1) := by decide +kernel
theorem dX5_shareOf_2 : decode cX5_shareOf 2 = .ok (.invokevirtual 143, 3) := by decide +kernel
theorem dX5_shareOf_5 : decode cX5_shareOf 5 = .ok (.istore 4, 2) := by decide +kernel
theorem dX5_shareOf_7 : decode cX5_shareOf 7 = .ok (.iconst 0, 1) := by decide +kernel
theorem dX5_shareOf_8 : decode cX5_shareOf 8 = .ok (.istore 5, 2) := by decide +kernel
theorem dX5_shareOf_10 : decode cX5_shareOf 10 = .ok (.iconst 0, 1) := by decide +kernel
theorem dX5_shareOf_11 : decode cX5_shareOf 11 = .ok (.istore 6, 2) := by decide +kernel
theorem dX5_shareOf_13 : decode cX5_shareOf 13 = .ok (.iload 6, 2) := by decide +kernel
theorem dX5_shareOf_15 : decode cX5_shareOf 15 = .ok (.aload_n 0, 1) := by decide +kernel
theorem dX5_shareOf_16 : decode cX5_shareOf 16 = .ok (.getfield 7, 3) := by decide +kernel
theorem dX5_shareOf_19 : decode cX5_shareOf 19 = .ok (.bipush 8, 2) := by decide +kernel
theorem dX5_shareOf_21 : decode cX5_shareOf 21 = .ok (.iaload, 1) := by decide +kernel
theorem dX5_shareOf_22 : decode cX5_shareOf 22 = .ok (.if_icmp .ge 52, 3) := by decide +kernel
theorem dX5_shareOf_25 : decode cX5_shareOf 25 = .ok (.iload 5, 2) := by decide +kernel
theorem dX5_shareOf_27 : decode cX5_shareOf 27 = .ok (.iload 4, 2) := by decide +kernel
theorem dX5_shareOf_29 : decode cX5_shareOf 29 = .ok (.iload 6, 2) := by decide +kernel
theorem dX5_shareOf_31 : decode cX5_shareOf 31 = .ok (.ishr, 1) := by decide +kernel
theorem dX5_shareOf_32 : decode cX5_shareOf 32 = .ok (.iconst 1, 1) := by decide +kernel
theorem dX5_shareOf_33 : decode cX5_shareOf 33 = .ok (.iand, 1) := by decide +kernel
theorem dX5_shareOf_34 : decode cX5_shareOf 34 = .ok (.iconst 1, 1) := by decide +kernel
theorem dX5_shareOf_35 : decode cX5_shareOf 35 = .ok (.if_icmp .ne 29, 3) := by decide +kernel
theorem dX5_shareOf_38 : decode cX5_shareOf 38 = .ok (.aload_n 0, 1) := by decide +kernel
theorem dX5_shareOf_39 : decode cX5_shareOf 39 = .ok (.iload 6, 2) := by decide +kernel
theorem dX5_shareOf_41 : decode cX5_shareOf 41 = .ok (.iconst 0, 1) := by decide +kernel
theorem dX5_shareOf_42 : decode cX5_shareOf 42 = .ok (.invokevirtual 47, 3) := by decide +kernel
theorem dX5_shareOf_45 : decode cX5_shareOf 45 = .ok (.iload_n 2, 1) := by decide +kernel
theorem dX5_shareOf_46 : decode cX5_shareOf 46 = .ok (.if_icmp .ne 18, 3) := by decide +kernel
theorem dX5_shareOf_49 : decode cX5_shareOf 49 = .ok (.iload 6, 2) := by decide +kernel
theorem dX5_shareOf_51 : decode cX5_shareOf 51 = .ok (.iload 4, 2) := by decide +kernel
theorem dX5_shareOf_53 : decode cX5_shareOf 53 = .ok (.aload_n 0, 1) := by decide +kernel
theorem dX5_shareOf_54 : decode cX5_shareOf 54 = .ok (.iload_n 1, 1) := by decide +kernel
theorem dX5_shareOf_55 : decode cX5_shareOf 55 = .ok (.invokevirtual 146, 3) := by decide +kernel
theorem dX5_shareOf_58 : decode cX5_shareOf 58 = .ok (.invokestatic 149, 3) := by decide +kernel
theorem dX5_shareOf_61 : decode cX5_shareOf 61 = .ok (.goto 4, 3) := by decide +kernel
theorem dX5_shareOf_64 : decode cX5_shareOf 64 = .ok (.iconst 0, 1) := by decide +kernel
theorem dX5_shareOf_65 : decode cX5_shareOf 65 = .ok (.iadd, 1) := by decide +kernel
theorem dX5_shareOf_66 : decode cX5_shareOf 66 = .ok (.istore 5, 2) := by decide +kernel
theorem dX5_shareOf_68 : decode cX5_shareOf 68 = .ok (.iinc 6 1, 3) := by decide +kernel
theorem dX5_shareOf_71 : decode cX5_shareOf 71 = .ok (.goto (-58), 3) := by decide +kernel
theorem dX5_shareOf_74 : decode cX5_shareOf 74 = .ok (.iload 5, 2) := by decide +kernel
theorem dX5_shareOf_76 : decode cX5_shareOf 76 = .ok (.ireturn, 1) := by decide +kernel
theorem dX5_share_0 : decode cX5_share 0 = .ok (.aload_n 0, 1) := by decide +kernel
theorem dX5_share_1 : decode cX5_share 1 = .ok (.iload_n 1, 1) := by decide +kernel
theorem dX5_share_2 : decode cX5_share 2 = .ok (.invokevirtual 78, 3) := by decide +kernel
theorem dX5_share_5 : decode cX5_share 5 = .ok (.ifCond .eq 10, 3) := by decide +kernel
theorem dX5_share_8 : decode cX5_share 8 = .ok (.iload_n 2, 1) := by decide +kernel
theorem dX5_share_9 : decode cX5_share 9 = .ok (.invokestatic 94, 3) := by decide +kernel
theorem dX5_share_12 : decode cX5_share 12 = .ok (.ifCond .ne 5, 3) := by decide +kernel
theorem dX5_share_15 : decode cX5_share 15 = .ok (.iconst (-1), 1) := by decide +kernel
theorem dX5_share_16 : decode cX5_share 16 = .ok (.ireturn, 1) := by decide +kernel
theorem dX5_share_17 : decode cX5_share 17 = .ok (.iload_n 3, 1) := by decide +kernel
theorem dX5_share_18 : decode cX5_share 18 = .ok (.iconst 0, 1) := by decide +kernel
theorem dX5_share_19 : decode cX5_share 19 = .ok (.iconst 1, 1) := by decide +kernel
theorem dX5_share_20 : decode cX5_share 20 = .ok (.invokestatic 32, 3) := by decide +kernel
theorem dX5_share_23 : decode cX5_share 23 = .ok (.ifCond .ne 6, 3) := by decide +kernel
theorem dX5_share_26 : decode cX5_share 26 = .ok (.bipush (-2), 2) := by decide +kernel
theorem dX5_share_28 : decode cX5_share 28 = .ok (.ireturn, 1) := by decide +kernel
theorem dX5_share_29 : decode cX5_share 29 = .ok (.aload_n 0, 1) := by decide +kernel
theorem dX5_share_30 : decode cX5_share 30 = .ok (.iload_n 1, 1) := by decide +kernel
theorem dX5_share_31 : decode cX5_share 31 = .ok (.invokevirtual 97, 3) := by decide +kernel
theorem dX5_share_34 : decode cX5_share 34 = .ok (.ifCond .eq 8, 3) := by decide +kernel
theorem dX5_share_37 : decode cX5_share 37 = .ok (.bipush (-5), 2) := by decide +kernel
theorem dX5_share_39 : decode cX5_share 39 = .ok (.goto 27, 3) := by decide +kernel
theorem dX5_share_42 : decode cX5_share 42 = .ok (.aload_n 0, 1) := by decide +kernel
theorem dX5_share_43 : decode cX5_share 43 = .ok (.iload_n 1, 1) := by decide +kernel
theorem dX5_share_44 : decode cX5_share 44 = .ok (.iload_n 2, 1) := by decide +kernel
theorem dX5_share_45 : decode cX5_share 45 = .ok (.iload_n 3, 1) := by decide +kernel
theorem dX5_share_46 : decode cX5_share 46 = .ok (.ifCond .ne 12, 3) := by decide +kernel
theorem dX5_share_49 : decode cX5_share 49 = .ok (.aload_n 0, 1) := by decide +kernel
theorem dX5_share_50 : decode cX5_share 50 = .ok (.iload_n 1, 1) := by decide +kernel
theorem dX5_share_51 : decode cX5_share 51 = .ok (.iconst 1, 1) := by decide +kernel
theorem dX5_share_52 : decode cX5_share 52 = .ok (.invokevirtual 51, 3) := by decide +kernel
theorem dX5_share_55 : decode cX5_share 55 = .ok (.goto 8, 3) := by decide +kernel
theorem dX5_share_58 : decode cX5_share 58 = .ok (.aload_n 0, 1) := by decide +kernel
theorem dX5_share_59 : decode cX5_share 59 = .ok (.iload_n 1, 1) := by decide +kernel
theorem dX5_share_60 : decode cX5_share 60 = .ok (.invokevirtual 131, 3) := by decide +kernel
theorem dX5_share_63 : decode cX5_share 63 = .ok (.invokevirtual 203, 3) := by decide +kernel
theorem dX5_share_66 : decode cX5_share 66 = .ok (.ireturn, 1) := by decide +kernel
theorem dX5_nextFall_0 : decode cX5_nextFall 0 = .ok (.iload_n 1, 1) := by decide +kernel
theorem dX5_nextFall_1 : decode cX5_nextFall 1 = .ok (.iconst 0, 1) := by decide +kernel
theorem dX5_nextFall_2 : decode cX5_nextFall 2 = .ok (.iconst 1, 1) := by decide +kernel
theorem dX5_nextFall_3 : decode cX5_nextFall 3 = .ok (.invokestatic 32, 3) := by decide +kernel
theorem dX5_nextFall_6 : decode cX5_nextFall 6 = .ok (.ifCond .ne 6, 3) := by decide +kernel
theorem dX5_nextFall_9 : decode cX5_nextFall 9 = .ok (.bipush (-2), 2) := by decide +kernel
theorem dX5_nextFall_11 : decode cX5_nextFall 11 = .ok (.ireturn, 1) := by decide +kernel
theorem dX5_nextFall_12 : decode cX5_nextFall 12 = .ok (.bipush (-6), 2) := by decide +kernel
theorem dX5_nextFall_14 : decode cX5_nextFall 14 = .ok (.istore_n 2, 1) := by decide +kernel
theorem dX5_nextFall_15 : decode cX5_nextFall 15 = .ok (.bipush (-6), 2) := by decide +kernel
theorem dX5_nextFall_17 : decode cX5_nextFall 17 = .ok (.istore_n 3, 1) := by decide +kernel
theorem dX5_nextFall_18 : decode cX5_nextFall 18 = .ok (.iconst 0, 1) := by decide +kernel
theorem dX5_nextFall_19 : decode cX5_nextFall 19 = .ok (.istore 4, 2) := by decide +kernel
theorem dX5_nextFall_21 : decode cX5_nextFall 21 = .ok (.iload 4, 2) := by decide +kernel
theorem dX5_nextFall_23 : decode cX5_nextFall 23 = .ok (.aload_n 0, 1) := by decide +kernel
theorem dX5_nextFall_24 : decode cX5_nextFall 24 = .ok (.getfield 7, 3) := by decide +kernel
theorem dX5_nextFall_27 : decode cX5_nextFall 27 = .ok (.bipush 7, 2) := by decide +kernel
theorem dX5_nextFall_29 : decode cX5_nextFall 29 = .ok (.iaload, 1) := by decide +kernel
theorem dX5_nextFall_30 : decode cX5_nextFall 30 = .ok (.if_icmp .ge 83, 3) := by decide +kernel
theorem dX5_nextFall_33 : decode cX5_nextFall 33 = .ok (.aload_n 0, 1) := by decide +kernel
theorem dX5_nextFall_34 : decode cX5_nextFall 34 = .ok (.iload 4, 2) := by decide +kernel
theorem dX5_nextFall_36 : decode cX5_nextFall 36 = .ok (.iconst 1, 1) := by decide +kernel
theorem dX5_nextFall_37 : decode cX5_nextFall 37 = .ok (.invokevirtual 58, 3) := by decide +kernel
theorem dX5_nextFall_40 : decode cX5_nextFall 40 = .ok (.iconst 1, 1) := by decide +kernel
theorem dX5_nextFall_41 : decode cX5_nextFall 41 = .ok (.if_icmp .ne 12, 3) := by decide +kernel
theorem dX5_nextFall_44 : decode cX5_nextFall 44 = .ok (.aload_n 0, 1) := by decide +kernel
theorem dX5_nextFall_45 : decode cX5_nextFall 45 = .ok (.iload 4, 2) := by decide +kernel
theorem dX5_nextFall_47 : decode cX5_nextFall 47 = .ok (.invokevirtual 200, 3) := by decide +kernel
theorem dX5_nextFall_50 : decode cX5_nextFall 50 = .ok (.goto 5, 3) := by decide +kernel
theorem dX5_nextFall_53 : decode cX5_nextFall 53 = .ok (.bipush (-6), 2) := by decide +kernel
theorem dX5_nextFall_55 : decode cX5_nextFall 55 = .ok (.istore 5, 2) := by decide +kernel
theorem dX5_nextFall_57 : decode cX5_nextFall 57 = .ok (.iload 5, 2) := by decide +kernel
theorem dX5_nextFall_59 : decode cX5_nextFall 59 = .ok (.bipush (-6), 2) := by decide +kernel
theorem dX5_nextFall_61 : decode cX5_nextFall 61 = .ok (.if_icmp .eq 19, 3) := by decide +kernel
theorem dX5_nextFall_64 : decode cX5_nextFall 64 = .ok (.iload_n 3, 1) := by decide +kernel
theorem dX5_nextFall_65 : decode cX5_nextFall 65 = .ok (.bipush (-6), 2) := by decide +kernel
theorem dX5_nextFall_67 : decode cX5_nextFall 67 = .ok (.if_icmp .eq 9, 3) := by decide +kernel
theorem dX5_nextFall_70 : decode cX5_nextFall 70 = .ok (.iload 5, 2) := by decide +kernel
theorem dX5_nextFall_72 : decode cX5_nextFall 72 = .ok (.iload_n 3, 1) := by decide +kernel
theorem dX5_nextFall_73 : decode cX5_nextFall 73 = .ok (.if_icmp .ge 7, 3) := by decide +kernel
theorem dX5_nextFall_76 : decode cX5_nextFall 76 = .ok (.iconst 1, 1) := by decide +kernel
theorem dX5_nextFall_77 : decode cX5_nextFall 77 = .ok (.goto 4, 3) := by decide +kernel
theorem dX5_nextFall_80 : decode cX5_nextFall 80 = .ok (.iconst 0, 1) := by decide +kernel
theorem dX5_nextFall_81 : decode cX5_nextFall 81 = .ok (.istore 6, 2) := by decide +kernel
theorem dX5_nextFall_83 : decode cX5_nextFall 83 = .ok (.iload 6, 2) := by decide +kernel
theorem dX5_nextFall_85 : decode cX5_nextFall 85 = .ok (.ifCond .eq 8, 3) := by decide +kernel
theorem dX5_nextFall_88 : decode cX5_nextFall 88 = .ok (.iload 4, 2) := by decide +kernel
theorem dX5_nextFall_90 : decode cX5_nextFall 90 = .ok (.goto 4, 3) := by decide +kernel
theorem dX5_nextFall_93 : decode cX5_nextFall 93 = .ok (.iload_n 2, 1) := by decide +kernel
theorem dX5_nextFall_94 : decode cX5_nextFall 94 = .ok (.istore_n 2, 1) := by decide +kernel
theorem dX5_nextFall_95 : decode cX5_nextFall 95 = .ok (.iload 6, 2) := by decide +kernel
theorem dX5_nextFall_97 : decode cX5_nextFall 97 = .ok (.ifCond .eq 8, 3) := by decide +kernel
theorem dX5_nextFall_100 : decode cX5_nextFall 100 = .ok (.iload 5, 2) := by decide +kernel
theorem dX5_nextFall_102 : decode cX5_nextFall 102 = .ok (.goto 4, 3) := by decide +kernel
theorem dX5_nextFall_105 : decode cX5_nextFall 105 = .ok (.iload_n 3, 1) := by decide +kernel
theorem dX5_nextFall_106 : decode cX5_nextFall 106 = .ok (.istore_n 3, 1) := by decide +kernel
theorem dX5_nextFall_107 : decode cX5_nextFall 107 = .ok (.iinc 4 1, 3) := by decide +kernel
theorem dX5_nextFall_110 : decode cX5_nextFall 110 = .ok (.goto (-89), 3) := by decide +kernel
theorem dX5_nextFall_113 : decode cX5_nextFall 113 = .ok (.iload_n 1, 1) := by decide +kernel
theorem dX5_nextFall_114 : decode cX5_nextFall 114 = .ok (.ifCond .ne 7, 3) := by decide +kernel
theorem dX5_nextFall_117 : decode cX5_nextFall 117 = .ok (.iload_n 2, 1) := by decide +kernel
theorem dX5_nextFall_118 : decode cX5_nextFall 118 = .ok (.goto 4, 3) := by decide +kernel
theorem dX5_nextFall_121 : decode cX5_nextFall 121 = .ok (.iload_n 3, 1) := by decide +kernel
theorem dX5_nextFall_122 : decode cX5_nextFall 122 = .ok (.ireturn, 1) := by decide +kernel
theorem dX5_lapsesIn_0 : decode cX5_lapsesIn 0 = .ok (.aload_n 0, 1) := by decide +kernel
theorem dX5_lapsesIn_1 : decode cX5_lapsesIn 1 = .ok (.getfield 7, 3) := by decide +kernel
theorem dX5_lapsesIn_4 : decode cX5_lapsesIn 4 = .ok (.iconst 2, 1) := by decide +kernel
theorem dX5_lapsesIn_5 : decode cX5_lapsesIn 5 = .ok (.iaload, 1) := by decide +kernel
theorem dX5_lapsesIn_6 : decode cX5_lapsesIn 6 = .ok (.aload_n 0, 1) := by decide +kernel
theorem dX5_lapsesIn_7 : decode cX5_lapsesIn 7 = .ok (.iload_n 1, 1) := by decide +kernel
theorem dX5_lapsesIn_8 : decode cX5_lapsesIn 8 = .ok (.iconst 5, 1) := by decide +kernel
theorem dX5_lapsesIn_9 : decode cX5_lapsesIn 9 = .ok (.invokevirtual 47, 3) := by decide +kernel
theorem dX5_lapsesIn_12 : decode cX5_lapsesIn 12 = .ok (.isub, 1) := by decide +kernel
theorem dX5_lapsesIn_13 : decode cX5_lapsesIn 13 = .ok (.istore_n 2, 1) := by decide +kernel
theorem dX5_lapsesIn_14 : decode cX5_lapsesIn 14 = .ok (.iload_n 2, 1) := by decide +kernel
theorem dX5_lapsesIn_15 : decode cX5_lapsesIn 15 = .ok (.iconst 1, 1) := by decide +kernel
theorem dX5_lapsesIn_16 : decode cX5_lapsesIn 16 = .ok (.if_icmp .ge 7, 3) := by decide +kernel
theorem dX5_lapsesIn_19 : decode cX5_lapsesIn 19 = .ok (.iconst 1, 1) := by decide +kernel
theorem dX5_lapsesIn_20 : decode cX5_lapsesIn 20 = .ok (.goto 4, 3) := by decide +kernel
theorem dX5_lapsesIn_23 : decode cX5_lapsesIn 23 = .ok (.iload_n 2, 1) := by decide +kernel
theorem dX5_lapsesIn_24 : decode cX5_lapsesIn 24 = .ok (.ireturn, 1) := by decide +kernel
theorem dX5_nextLapse_0 : decode cX5_nextLapse 0 = .ok (.iload_n 1, 1) := by decide +kernel
theorem dX5_nextLapse_1 : decode cX5_nextLapse 1 = .ok (.iconst 0, 1) := by decide +kernel
theorem dX5_nextLapse_2 : decode cX5_nextLapse 2 = .ok (.iconst 1, 1) := by decide +kernel
theorem dX5_nextLapse_3 : decode cX5_nextLapse 3 = .ok (.invokestatic 32, 3) := by decide +kernel
theorem dX5_nextLapse_6 : decode cX5_nextLapse 6 = .ok (.ifCond .ne 6, 3) := by decide +kernel
theorem dX5_nextLapse_9 : decode cX5_nextLapse 9 = .ok (.bipush (-2), 2) := by decide +kernel
theorem dX5_nextLapse_11 : decode cX5_nextLapse 11 = .ok (.ireturn, 1) := by decide +kernel
theorem dX5_nextLapse_12 : decode cX5_nextLapse 12 = .ok (.bipush (-6), 2) := by decide +kernel
theorem dX5_nextLapse_14 : decode cX5_nextLapse 14 = .ok (.istore_n 2, 1) := by decide +kernel
theorem dX5_nextLapse_15 : decode cX5_nextLapse 15 = .ok (.iconst 0, 1) := by decide +kernel
theorem dX5_nextLapse_16 : decode cX5_nextLapse 16 = .ok (.istore_n 3, 1) := by decide +kernel
theorem dX5_nextLapse_17 : decode cX5_nextLapse 17 = .ok (.iload_n 3, 1) := by decide +kernel
theorem dX5_nextLapse_18 : decode cX5_nextLapse 18 = .ok (.aload_n 0, 1) := by decide +kernel
theorem dX5_nextLapse_19 : decode cX5_nextLapse 19 = .ok (.getfield 7, 3) := by decide +kernel
theorem dX5_nextLapse_22 : decode cX5_nextLapse 22 = .ok (.bipush 8, 2) := by decide +kernel
theorem dX5_nextLapse_24 : decode cX5_nextLapse 24 = .ok (.iaload, 1) := by decide +kernel
theorem dX5_nextLapse_25 : decode cX5_nextLapse 25 = .ok (.if_icmp .ge 77, 3) := by decide +kernel
theorem dX5_nextLapse_28 : decode cX5_nextLapse 28 = .ok (.aload_n 0, 1) := by decide +kernel
theorem dX5_nextLapse_29 : decode cX5_nextLapse 29 = .ok (.iload_n 3, 1) := by decide +kernel
theorem dX5_nextLapse_30 : decode cX5_nextLapse 30 = .ok (.iconst 4, 1) := by decide +kernel
theorem dX5_nextLapse_31 : decode cX5_nextLapse 31 = .ok (.invokevirtual 47, 3) := by decide +kernel
theorem dX5_nextLapse_34 : decode cX5_nextLapse 34 = .ok (.ifCond .ne 62, 3) := by decide +kernel
theorem dX5_nextLapse_37 : decode cX5_nextLapse 37 = .ok (.iload_n 2, 1) := by decide +kernel
theorem dX5_nextLapse_38 : decode cX5_nextLapse 38 = .ok (.bipush (-6), 2) := by decide +kernel
theorem dX5_nextLapse_40 : decode cX5_nextLapse 40 = .ok (.if_icmp .ne 7, 3) := by decide +kernel
theorem dX5_nextLapse_43 : decode cX5_nextLapse 43 = .ok (.iconst (-1), 1) := by decide +kernel
theorem dX5_nextLapse_44 : decode cX5_nextLapse 44 = .ok (.goto 14, 3) := by decide +kernel
theorem dX5_nextLapse_47 : decode cX5_nextLapse 47 = .ok (.aload_n 0, 1) := by decide +kernel
theorem dX5_nextLapse_48 : decode cX5_nextLapse 48 = .ok (.iload_n 3, 1) := by decide +kernel
theorem dX5_nextLapse_49 : decode cX5_nextLapse 49 = .ok (.invokevirtual 206, 3) := by decide +kernel
theorem dX5_nextLapse_52 : decode cX5_nextLapse 52 = .ok (.aload_n 0, 1) := by decide +kernel
theorem dX5_nextLapse_53 : decode cX5_nextLapse 53 = .ok (.iload_n 2, 1) := by decide +kernel
theorem dX5_nextLapse_54 : decode cX5_nextLapse 54 = .ok (.invokevirtual 206, 3) := by decide +kernel
theorem dX5_nextLapse_57 : decode cX5_nextLapse 57 = .ok (.isub, 1) := by decide +kernel
theorem dX5_nextLapse_58 : decode cX5_nextLapse 58 = .ok (.istore 4, 2) := by decide +kernel
theorem dX5_nextLapse_60 : decode cX5_nextLapse 60 = .ok (.iload 4, 2) := by decide +kernel
theorem dX5_nextLapse_62 : decode cX5_nextLapse 62 = .ok (.ifCond .ne 19, 3) := by decide +kernel
theorem dX5_nextLapse_65 : decode cX5_nextLapse 65 = .ok (.aload_n 0, 1) := by decide +kernel
theorem dX5_nextLapse_66 : decode cX5_nextLapse 66 = .ok (.iload_n 3, 1) := by decide +kernel
theorem dX5_nextLapse_67 : decode cX5_nextLapse 67 = .ok (.iconst 1, 1) := by decide +kernel
theorem dX5_nextLapse_68 : decode cX5_nextLapse 68 = .ok (.invokevirtual 47, 3) := by decide +kernel
theorem dX5_nextLapse_71 : decode cX5_nextLapse 71 = .ok (.aload_n 0, 1) := by decide +kernel
theorem dX5_nextLapse_72 : decode cX5_nextLapse 72 = .ok (.iload_n 2, 1) := by decide +kernel
theorem dX5_nextLapse_73 : decode cX5_nextLapse 73 = .ok (.iconst 1, 1) := by decide +kernel
theorem dX5_nextLapse_74 : decode cX5_nextLapse 74 = .ok (.invokevirtual 47, 3) := by decide +kernel
theorem dX5_nextLapse_77 : decode cX5_nextLapse 77 = .ok (.isub, 1) := by decide +kernel
theorem dX5_nextLapse_78 : decode cX5_nextLapse 78 = .ok (.goto 5, 3) := by decide +kernel
theorem dX5_nextLapse_81 : decode cX5_nextLapse 81 = .ok (.iload 4, 2) := by decide +kernel
theorem dX5_nextLapse_83 : decode cX5_nextLapse 83 = .ok (.istore 4, 2) := by decide +kernel
theorem dX5_nextLapse_85 : decode cX5_nextLapse 85 = .ok (.iload 4, 2) := by decide +kernel
theorem dX5_nextLapse_87 : decode cX5_nextLapse 87 = .ok (.ifCond .ge 7, 3) := by decide +kernel
theorem dX5_nextLapse_90 : decode cX5_nextLapse 90 = .ok (.iload_n 3, 1) := by decide +kernel
theorem dX5_nextLapse_91 : decode cX5_nextLapse 91 = .ok (.goto 4, 3) := by decide +kernel
theorem dX5_nextLapse_94 : decode cX5_nextLapse 94 = .ok (.iload_n 2, 1) := by decide +kernel
theorem dX5_nextLapse_95 : decode cX5_nextLapse 95 = .ok (.istore_n 2, 1) := by decide +kernel
theorem dX5_nextLapse_96 : decode cX5_nextLapse 96 = .ok (.iinc 3 1, 3) := by decide +kernel
theorem dX5_nextLapse_99 : decode cX5_nextLapse 99 = .ok (.goto (-82), 3) := by decide +kernel
theorem dX5_nextLapse_102 : decode cX5_nextLapse 102 = .ok (.iload_n 2, 1) := by decide +kernel
theorem dX5_nextLapse_103 : decode cX5_nextLapse 103 = .ok (.bipush (-6), 2) := by decide +kernel
theorem dX5_nextLapse_105 : decode cX5_nextLapse 105 = .ok (.if_icmp .eq 8, 3) := by decide +kernel
theorem dX5_nextLapse_108 : decode cX5_nextLapse 108 = .ok (.iload_n 1, 1) := by decide +kernel
theorem dX5_nextLapse_109 : decode cX5_nextLapse 109 = .ok (.iconst 1, 1) := by decide +kernel
theorem dX5_nextLapse_110 : decode cX5_nextLapse 110 = .ok (.if_icmp .ne 7, 3) := by decide +kernel
theorem dX5_nextLapse_113 : decode cX5_nextLapse 113 = .ok (.iload_n 2, 1) := by decide +kernel
theorem dX5_nextLapse_114 : decode cX5_nextLapse 114 = .ok (.goto 8, 3) := by decide +kernel
theorem dX5_nextLapse_117 : decode cX5_nextLapse 117 = .ok (.aload_n 0, 1) := by decide +kernel
theorem dX5_nextLapse_118 : decode cX5_nextLapse 118 = .ok (.iload_n 2, 1) := by decide +kernel
theorem dX5_nextLapse_119 : decode cX5_nextLapse 119 = .ok (.invokevirtual 206, 3) := by decide +kernel
theorem dX5_nextLapse_122 : decode cX5_nextLapse 122 = .ok (.ireturn, 1) := by decide +kernel
theorem dX5_put_0 : decode cX5_put 0 = .ok (.lload_n 1, 1) := by decide +kernel
theorem dX5_put_1 : decode cX5_put 1 = .ok (.lstore_n 3, 1) := by decide +kernel
theorem dX5_put_2 : decode cX5_put 2 = .ok (.iconst 0, 1) := by decide +kernel
theorem dX5_put_3 : decode cX5_put 3 = .ok (.istore 5, 2) := by decide +kernel
theorem dX5_put_5 : decode cX5_put 5 = .ok (.lload_n 3, 1) := by decide +kernel
theorem dX5_put_6 : decode cX5_put 6 = .ok (.lconst 0, 1) := by decide +kernel
theorem dX5_put_7 : decode cX5_put 7 = .ok (.lcmp, 1) := by decide +kernel
theorem dX5_put_8 : decode cX5_put 8 = .ok (.ifCond .eq 40, 3) := by decide +kernel
theorem dX5_put_11 : decode cX5_put 11 = .ok (.iload 5, 2) := by decide +kernel
theorem dX5_put_13 : decode cX5_put 13 = .ok (.bipush 8, 2) := by decide +kernel
theorem dX5_put_15 : decode cX5_put 15 = .ok (.if_icmp .ge 33, 3) := by decide +kernel
theorem dX5_put_18 : decode cX5_put 18 = .ok (.lload_n 3, 1) := by decide +kernel
theorem dX5_put_19 : decode cX5_put 19 = .ok (.ldc2_w 209, 3) := by decide +kernel
theorem dX5_put_22 : decode cX5_put 22 = .ok (.land, 1) := by decide +kernel
theorem dX5_put_23 : decode cX5_put 23 = .ok (.l2i, 1) := by decide +kernel
theorem dX5_put_24 : decode cX5_put 24 = .ok (.bipush 33, 2) := by decide +kernel
theorem dX5_put_26 : decode cX5_put 26 = .ok (.bipush 126, 2) := by decide +kernel
theorem dX5_put_28 : decode cX5_put 28 = .ok (.invokestatic 32, 3) := by decide +kernel
theorem dX5_put_31 : decode cX5_put 31 = .ok (.ifCond .ne 6, 3) := by decide +kernel
theorem dX5_put_34 : decode cX5_put 34 = .ok (.bipush (-2), 2) := by decide +kernel
theorem dX5_put_36 : decode cX5_put 36 = .ok (.ireturn, 1) := by decide +kernel
theorem dX5_put_37 : decode cX5_put 37 = .ok (.lload_n 3, 1) := by decide +kernel
theorem dX5_put_38 : decode cX5_put 38 = .ok (.bipush 8, 2) := by decide +kernel
theorem dX5_put_40 : decode cX5_put 40 = .ok (.lushr, 1) := by decide +kernel
theorem dX5_put_41 : decode cX5_put 41 = .ok (.lstore_n 3, 1) := by decide +kernel
theorem dX5_put_42 : decode cX5_put 42 = .ok (.iinc 5 1, 3) := by decide +kernel
theorem dX5_put_45 : decode cX5_put 45 = .ok (.goto (-40), 3) := by decide +kernel
theorem dX5_put_48 : decode cX5_put 48 = .ok (.iload 5, 2) := by decide +kernel
theorem dX5_put_50 : decode cX5_put 50 = .ok (.ifCond .ne 6, 3) := by decide +kernel
theorem dX5_put_53 : decode cX5_put 53 = .ok (.bipush (-2), 2) := by decide +kernel
theorem dX5_put_55 : decode cX5_put 55 = .ok (.ireturn, 1) := by decide +kernel
theorem dX5_put_56 : decode cX5_put 56 = .ok (.aload_n 0, 1) := by decide +kernel
theorem dX5_put_57 : decode cX5_put 57 = .ok (.getfield 197, 3) := by decide +kernel
theorem dX5_put_60 : decode cX5_put 60 = .ok (.iload 5, 2) := by decide +kernel
theorem dX5_put_62 : decode cX5_put 62 = .ok (.iadd, 1) := by decide +kernel
theorem dX5_put_63 : decode cX5_put 63 = .ok (.bipush 80, 2) := by decide +kernel
theorem dX5_put_65 : decode cX5_put 65 = .ok (.if_icmp .le 6, 3) := by decide +kernel
theorem dX5_put_68 : decode cX5_put 68 = .ok (.bipush (-4), 2) := by decide +kernel
theorem dX5_put_70 : decode cX5_put 70 = .ok (.ireturn, 1) := by decide +kernel
theorem dX5_put_71 : decode cX5_put 71 = .ok (.iload 5, 2) := by decide +kernel
theorem dX5_put_73 : decode cX5_put 73 = .ok (.iconst 1, 1) := by decide +kernel
theorem dX5_put_74 : decode cX5_put 74 = .ok (.isub, 1) := by decide +kernel
theorem dX5_put_75 : decode cX5_put 75 = .ok (.istore 6, 2) := by decide +kernel
theorem dX5_put_77 : decode cX5_put 77 = .ok (.iload 6, 2) := by decide +kernel
theorem dX5_put_79 : decode cX5_put 79 = .ok (.ifCond .lt 40, 3) := by decide +kernel
theorem dX5_put_82 : decode cX5_put 82 = .ok (.aload_n 0, 1) := by decide +kernel
theorem dX5_put_83 : decode cX5_put 83 = .ok (.getfield 26, 3) := by decide +kernel
theorem dX5_put_86 : decode cX5_put 86 = .ok (.aload_n 0, 1) := by decide +kernel
theorem dX5_put_87 : decode cX5_put 87 = .ok (.getfield 197, 3) := by decide +kernel
theorem dX5_put_90 : decode cX5_put 90 = .ok (.lload_n 1, 1) := by decide +kernel
theorem dX5_put_91 : decode cX5_put 91 = .ok (.bipush 8, 2) := by decide +kernel
theorem dX5_put_93 : decode cX5_put 93 = .ok (.iload 6, 2) := by decide +kernel
theorem dX5_put_95 : decode cX5_put 95 = .ok (.imul, 1) := by decide +kernel
theorem dX5_put_96 : decode cX5_put 96 = .ok (.lushr, 1) := by decide +kernel
theorem dX5_put_97 : decode cX5_put 97 = .ok (.ldc2_w 209, 3) := by decide +kernel
theorem dX5_put_100 : decode cX5_put 100 = .ok (.land, 1) := by decide +kernel
theorem dX5_put_101 : decode cX5_put 101 = .ok (.l2i, 1) := by decide +kernel
theorem dX5_put_102 : decode cX5_put 102 = .ok (.iastore, 1) := by decide +kernel
theorem dX5_put_103 : decode cX5_put 103 = .ok (.aload_n 0, 1) := by decide +kernel
theorem dX5_put_104 : decode cX5_put 104 = .ok (.dup, 1) := by decide +kernel
theorem dX5_put_105 : decode cX5_put 105 = .ok (.getfield 197, 3) := by decide +kernel
theorem dX5_put_108 : decode cX5_put 108 = .ok (.iconst 1, 1) := by decide +kernel
theorem dX5_put_109 : decode cX5_put 109 = .ok (.iadd, 1) := by decide +kernel
theorem dX5_put_110 : decode cX5_put 110 = .ok (.putfield 197, 3) := by decide +kernel
theorem dX5_put_113 : decode cX5_put 113 = .ok (.iinc 6 (-1), 3) := by decide +kernel
theorem dX5_put_116 : decode cX5_put 116 = .ok (.goto (-39), 3) := by decide +kernel
theorem dX5_put_119 : decode cX5_put 119 = .ok (.aload_n 0, 1) := by decide +kernel
theorem dX5_put_120 : decode cX5_put 120 = .ok (.getfield 197, 3) := by decide +kernel
theorem dX5_put_123 : decode cX5_put 123 = .ok (.ireturn, 1) := by decide +kernel
theorem dX5_wipe_0 : decode cX5_wipe 0 = .ok (.aload_n 0, 1) := by decide +kernel
theorem dX5_wipe_1 : decode cX5_wipe 1 = .ok (.getfield 197, 3) := by decide +kernel
theorem dX5_wipe_4 : decode cX5_wipe 4 = .ok (.istore_n 1, 1) := by decide +kernel
theorem dX5_wipe_5 : decode cX5_wipe 5 = .ok (.aload_n 0, 1) := by decide +kernel
theorem dX5_wipe_6 : decode cX5_wipe 6 = .ok (.iconst 0, 1) := by decide +kernel
theorem dX5_wipe_7 : decode cX5_wipe 7 = .ok (.putfield 197, 3) := by decide +kernel
theorem dX5_wipe_10 : decode cX5_wipe 10 = .ok (.iload_n 1, 1) := by decide +kernel
theorem dX5_wipe_11 : decode cX5_wipe 11 = .ok (.ireturn, 1) := by decide +kernel
theorem dX5_sees_0 : decode cX5_sees 0 = .ok (.aload_n 0, 1) := by decide +kernel
theorem dX5_sees_1 : decode cX5_sees 1 = .ok (.getfield 211, 3) := by decide +kernel
theorem dX5_sees_4 : decode cX5_sees 4 = .ok (.aload_n 0, 1) := by decide +kernel
theorem dX5_sees_5 : decode cX5_sees 5 = .ok (.getfield 197, 3) := by decide +kernel
theorem dX5_sees_8 : decode cX5_sees 8 = .ok (.if_icmp .ge 24, 3) := by decide +kernel
theorem dX5_sees_11 : decode cX5_sees 11 = .ok (.aload_n 0, 1) := by decide +kernel
theorem dX5_sees_12 : decode cX5_sees 12 = .ok (.getfield 26, 3) := by decide +kernel
theorem dX5_sees_15 : decode cX5_sees 15 = .ok (.aload_n 0, 1) := by decide +kernel
theorem dX5_sees_16 : decode cX5_sees 16 = .ok (.getfield 211, 3) := by decide +kernel
theorem dX5_sees_19 : decode cX5_sees 19 = .ok (.iaload, 1) := by decide +kernel
theorem dX5_sees_20 : decode cX5_sees 20 = .ok (.iload_n 1, 1) := by decide +kernel
theorem dX5_sees_21 : decode cX5_sees 21 = .ok (.iload_n 2, 1) := by decide +kernel
theorem dX5_sees_22 : decode cX5_sees 22 = .ok (.invokestatic 32, 3) := by decide +kernel
theorem dX5_sees_25 : decode cX5_sees 25 = .ok (.ifCond .eq 7, 3) := by decide +kernel
theorem dX5_sees_28 : decode cX5_sees 28 = .ok (.iconst 1, 1) := by decide +kernel
theorem dX5_sees_29 : decode cX5_sees 29 = .ok (.goto 4, 3) := by decide +kernel
theorem dX5_sees_32 : decode cX5_sees 32 = .ok (.iconst 0, 1) := by decide +kernel
theorem dX5_sees_33 : decode cX5_sees 33 = .ok (.ireturn, 1) := by decide +kernel
theorem dX5_takes_0 : decode cX5_takes 0 = .ok (.aload_n 0, 1) := by decide +kernel
theorem dX5_takes_1 : decode cX5_takes 1 = .ok (.iload_n 1, 1) := by decide +kernel
theorem dX5_takes_2 : decode cX5_takes 2 = .ok (.iload_n 1, 1) := by decide +kernel
theorem dX5_takes_3 : decode cX5_takes 3 = .ok (.invokevirtual 214, 3) := by decide +kernel
theorem dX5_takes_6 : decode cX5_takes 6 = .ok (.istore_n 2, 1) := by decide +kernel
theorem dX5_takes_7 : decode cX5_takes 7 = .ok (.aload_n 0, 1) := by decide +kernel
theorem dX5_takes_8 : decode cX5_takes 8 = .ok (.dup, 1) := by decide +kernel
theorem dX5_takes_9 : decode cX5_takes 9 = .ok (.getfield 211, 3) := by decide +kernel
theorem dX5_takes_12 : decode cX5_takes 12 = .ok (.iload_n 2, 1) := by decide +kernel
theorem dX5_takes_13 : decode cX5_takes 13 = .ok (.ifCond .eq 7, 3) := by decide +kernel
theorem dX5_takes_16 : decode cX5_takes 16 = .ok (.iconst 1, 1) := by decide +kernel
theorem dX5_takes_17 : decode cX5_takes 17 = .ok (.goto 4, 3) := by decide +kernel
theorem dX5_takes_20 : decode cX5_takes 20 = .ok (.iconst 0, 1) := by decide +kernel
theorem dX5_takes_21 : decode cX5_takes 21 = .ok (.iadd, 1) := by decide +kernel
theorem dX5_takes_22 : decode cX5_takes 22 = .ok (.putfield 211, 3) := by decide +kernel
theorem dX5_takes_25 : decode cX5_takes 25 = .ok (.iload_n 2, 1) := by decide +kernel
theorem dX5_takes_26 : decode cX5_takes 26 = .ok (.ireturn, 1) := by decide +kernel
theorem dX5_number_0 : decode cX5_number 0 = .ok (.aload_n 0, 1) := by decide +kernel
theorem dX5_number_1 : decode cX5_number 1 = .ok (.bipush 48, 2) := by decide +kernel
theorem dX5_number_3 : decode cX5_number 3 = .ok (.bipush 57, 2) := by decide +kernel
theorem dX5_number_5 : decode cX5_number 5 = .ok (.invokevirtual 214, 3) := by decide +kernel
theorem dX5_number_8 : decode cX5_number 8 = .ok (.ifCond .ne 6, 3) := by decide +kernel
theorem dX5_number_11 : decode cX5_number 11 = .ok (.bipush (-6), 2) := by decide +kernel
theorem dX5_number_13 : decode cX5_number 13 = .ok (.ireturn, 1) := by decide +kernel
theorem dX5_number_14 : decode cX5_number 14 = .ok (.aload_n 0, 1) := by decide +kernel
theorem dX5_number_15 : decode cX5_number 15 = .ok (.getfield 26, 3) := by decide +kernel
theorem dX5_number_18 : decode cX5_number 18 = .ok (.aload_n 0, 1) := by decide +kernel
theorem dX5_number_19 : decode cX5_number 19 = .ok (.getfield 211, 3) := by decide +kernel
theorem dX5_number_22 : decode cX5_number 22 = .ok (.iaload, 1) := by decide +kernel
theorem dX5_number_23 : decode cX5_number 23 = .ok (.bipush 48, 2) := by decide +kernel
theorem dX5_number_25 : decode cX5_number 25 = .ok (.isub, 1) := by decide +kernel
theorem dX5_number_26 : decode cX5_number 26 = .ok (.istore_n 2, 1) := by decide +kernel
theorem dX5_number_27 : decode cX5_number 27 = .ok (.aload_n 0, 1) := by decide +kernel
theorem dX5_number_28 : decode cX5_number 28 = .ok (.dup, 1) := by decide +kernel
theorem dX5_number_29 : decode cX5_number 29 = .ok (.getfield 211, 3) := by decide +kernel
theorem dX5_number_32 : decode cX5_number 32 = .ok (.iconst 1, 1) := by decide +kernel
theorem dX5_number_33 : decode cX5_number 33 = .ok (.iadd, 1) := by decide +kernel
theorem dX5_number_34 : decode cX5_number 34 = .ok (.putfield 211, 3) := by decide +kernel
theorem dX5_number_37 : decode cX5_number 37 = .ok (.iload_n 2, 1) := by decide +kernel
theorem dX5_number_38 : decode cX5_number 38 = .ok (.ifCond .le 66, 3) := by decide +kernel
theorem dX5_number_41 : decode cX5_number 41 = .ok (.aload_n 0, 1) := by decide +kernel
theorem dX5_number_42 : decode cX5_number 42 = .ok (.bipush 48, 2) := by decide +kernel
theorem dX5_number_44 : decode cX5_number 44 = .ok (.bipush 57, 2) := by decide +kernel
theorem dX5_number_46 : decode cX5_number 46 = .ok (.invokevirtual 214, 3) := by decide +kernel
theorem dX5_number_49 : decode cX5_number 49 = .ok (.ifCond .eq 55, 3) := by decide +kernel
theorem dX5_number_52 : decode cX5_number 52 = .ok (.bipush 10, 2) := by decide +kernel
theorem dX5_number_54 : decode cX5_number 54 = .ok (.iload_n 2, 1) := by decide +kernel
theorem dX5_number_55 : decode cX5_number 55 = .ok (.imul, 1) := by decide +kernel
theorem dX5_number_56 : decode cX5_number 56 = .ok (.aload_n 0, 1) := by decide +kernel
theorem dX5_number_57 : decode cX5_number 57 = .ok (.getfield 26, 3) := by decide +kernel
theorem dX5_number_60 : decode cX5_number 60 = .ok (.aload_n 0, 1) := by decide +kernel
theorem dX5_number_61 : decode cX5_number 61 = .ok (.getfield 211, 3) := by decide +kernel
theorem dX5_number_64 : decode cX5_number 64 = .ok (.iaload, 1) := by decide +kernel
theorem dX5_number_65 : decode cX5_number 65 = .ok (.iadd, 1) := by decide +kernel
theorem dX5_number_66 : decode cX5_number 66 = .ok (.bipush 48, 2) := by decide +kernel
theorem dX5_number_68 : decode cX5_number 68 = .ok (.isub, 1) := by decide +kernel
theorem dX5_number_69 : decode cX5_number 69 = .ok (.iload_n 1, 1) := by decide +kernel
theorem dX5_number_70 : decode cX5_number 70 = .ok (.if_icmp .gt 34, 3) := by decide +kernel
theorem dX5_number_73 : decode cX5_number 73 = .ok (.bipush 10, 2) := by decide +kernel
theorem dX5_number_75 : decode cX5_number 75 = .ok (.iload_n 2, 1) := by decide +kernel
theorem dX5_number_76 : decode cX5_number 76 = .ok (.imul, 1) := by decide +kernel
theorem dX5_number_77 : decode cX5_number 77 = .ok (.aload_n 0, 1) := by decide +kernel
theorem dX5_number_78 : decode cX5_number 78 = .ok (.getfield 26, 3) := by decide +kernel
theorem dX5_number_81 : decode cX5_number 81 = .ok (.aload_n 0, 1) := by decide +kernel
theorem dX5_number_82 : decode cX5_number 82 = .ok (.getfield 211, 3) := by decide +kernel
theorem dX5_number_85 : decode cX5_number 85 = .ok (.iaload, 1) := by decide +kernel
theorem dX5_number_86 : decode cX5_number 86 = .ok (.iadd, 1) := by decide +kernel
theorem dX5_number_87 : decode cX5_number 87 = .ok (.bipush 48, 2) := by decide +kernel
theorem dX5_number_89 : decode cX5_number 89 = .ok (.isub, 1) := by decide +kernel
theorem dX5_number_90 : decode cX5_number 90 = .ok (.istore_n 2, 1) := by decide +kernel
theorem dX5_number_91 : decode cX5_number 91 = .ok (.aload_n 0, 1) := by decide +kernel
theorem dX5_number_92 : decode cX5_number 92 = .ok (.dup, 1) := by decide +kernel
theorem dX5_number_93 : decode cX5_number 93 = .ok (.getfield 211, 3) := by decide +kernel
theorem dX5_number_96 : decode cX5_number 96 = .ok (.iconst 1, 1) := by decide +kernel
theorem dX5_number_97 : decode cX5_number 97 = .ok (.iadd, 1) := by decide +kernel
theorem dX5_number_98 : decode cX5_number 98 = .ok (.putfield 211, 3) := by decide +kernel
theorem dX5_number_101 : decode cX5_number 101 = .ok (.goto (-64), 3) := by decide +kernel
theorem dX5_number_104 : decode cX5_number 104 = .ok (.iload_n 2, 1) := by decide +kernel
theorem dX5_number_105 : decode cX5_number 105 = .ok (.ireturn, 1) := by decide +kernel
theorem dX5_isLetter_0 : decode cX5_isLetter 0 = .ok (.iload_n 0, 1) := by decide +kernel
theorem dX5_isLetter_1 : decode cX5_isLetter 1 = .ok (.bipush 108, 2) := by decide +kernel
theorem dX5_isLetter_3 : decode cX5_isLetter 3 = .ok (.if_icmp .eq 45, 3) := by decide +kernel
theorem dX5_isLetter_6 : decode cX5_isLetter 6 = .ok (.iload_n 0, 1) := by decide +kernel
theorem dX5_isLetter_7 : decode cX5_isLetter 7 = .ok (.bipush 110, 2) := by decide +kernel
theorem dX5_isLetter_9 : decode cX5_isLetter 9 = .ok (.if_icmp .eq 39, 3) := by decide +kernel
theorem dX5_isLetter_12 : decode cX5_isLetter 12 = .ok (.iload_n 0, 1) := by decide +kernel
theorem dX5_isLetter_13 : decode cX5_isLetter 13 = .ok (.bipush 99, 2) := by decide +kernel
theorem dX5_isLetter_15 : decode cX5_isLetter 15 = .ok (.if_icmp .eq 33, 3) := by decide +kernel
theorem dX5_isLetter_18 : decode cX5_isLetter 18 = .ok (.iload_n 0, 1) := by decide +kernel
theorem dX5_isLetter_19 : decode cX5_isLetter 19 = .ok (.bipush 112, 2) := by decide +kernel
theorem dX5_isLetter_21 : decode cX5_isLetter 21 = .ok (.if_icmp .eq 27, 3) := by decide +kernel
theorem dX5_isLetter_24 : decode cX5_isLetter 24 = .ok (.iload_n 0, 1) := by decide +kernel
theorem dX5_isLetter_25 : decode cX5_isLetter 25 = .ok (.bipush 100, 2) := by decide +kernel
theorem dX5_isLetter_27 : decode cX5_isLetter 27 = .ok (.if_icmp .eq 21, 3) := by decide +kernel
theorem dX5_isLetter_30 : decode cX5_isLetter 30 = .ok (.iload_n 0, 1) := by decide +kernel
theorem dX5_isLetter_31 : decode cX5_isLetter 31 = .ok (.bipush 119, 2) := by decide +kernel
theorem dX5_isLetter_33 : decode cX5_isLetter 33 = .ok (.if_icmp .eq 15, 3) := by decide +kernel
theorem dX5_isLetter_36 : decode cX5_isLetter 36 = .ok (.iload_n 0, 1) := by decide +kernel
theorem dX5_isLetter_37 : decode cX5_isLetter 37 = .ok (.bipush 115, 2) := by decide +kernel
theorem dX5_isLetter_39 : decode cX5_isLetter 39 = .ok (.if_icmp .eq 9, 3) := by decide +kernel
theorem dX5_isLetter_42 : decode cX5_isLetter 42 = .ok (.iload_n 0, 1) := by decide +kernel
theorem dX5_isLetter_43 : decode cX5_isLetter 43 = .ok (.bipush 116, 2) := by decide +kernel
theorem dX5_isLetter_45 : decode cX5_isLetter 45 = .ok (.if_icmp .ne 7, 3) := by decide +kernel
theorem dX5_isLetter_48 : decode cX5_isLetter 48 = .ok (.iconst 1, 1) := by decide +kernel
theorem dX5_isLetter_49 : decode cX5_isLetter 49 = .ok (.goto 4, 3) := by decide +kernel
theorem dX5_isLetter_52 : decode cX5_isLetter 52 = .ok (.iconst 0, 1) := by decide +kernel
theorem dX5_isLetter_53 : decode cX5_isLetter 53 = .ok (.ireturn, 1) := by decide +kernel
theorem dX5_readOrder_0 : decode cX5_readOrder 0 = .ok (.aload_n 0, 1) := by decide +kernel
theorem dX5_readOrder_1 : decode cX5_readOrder 1 = .ok (.getfield 211, 3) := by decide +kernel
theorem dX5_readOrder_4 : decode cX5_readOrder 4 = .ok (.aload_n 0, 1) := by decide +kernel
theorem dX5_readOrder_5 : decode cX5_readOrder 5 = .ok (.getfield 197, 3) := by decide +kernel
theorem dX5_readOrder_8 : decode cX5_readOrder 8 = .ok (.if_icmp .ge 15, 3) := by decide +kernel
theorem dX5_readOrder_11 : decode cX5_readOrder 11 = .ok (.aload_n 0, 1) := by decide +kernel
theorem dX5_readOrder_12 : decode cX5_readOrder 12 = .ok (.getfield 26, 3) := by decide +kernel
theorem dX5_readOrder_15 : decode cX5_readOrder 15 = .ok (.aload_n 0, 1) := by decide +kernel
theorem dX5_readOrder_16 : decode cX5_readOrder 16 = .ok (.getfield 211, 3) := by decide +kernel
theorem dX5_readOrder_19 : decode cX5_readOrder 19 = .ok (.iaload, 1) := by decide +kernel
theorem dX5_readOrder_20 : decode cX5_readOrder 20 = .ok (.goto 4, 3) := by decide +kernel
theorem dX5_readOrder_23 : decode cX5_readOrder 23 = .ok (.iconst 0, 1) := by decide +kernel
theorem dX5_readOrder_24 : decode cX5_readOrder 24 = .ok (.istore_n 1, 1) := by decide +kernel
theorem dX5_readOrder_25 : decode cX5_readOrder 25 = .ok (.iload_n 1, 1) := by decide +kernel
theorem dX5_readOrder_26 : decode cX5_readOrder 26 = .ok (.invokestatic 217, 3) := by decide +kernel
theorem dX5_readOrder_29 : decode cX5_readOrder 29 = .ok (.ifCond .ne 5, 3) := by decide +kernel
theorem dX5_readOrder_32 : decode cX5_readOrder 32 = .ok (.iconst 0, 1) := by decide +kernel
theorem dX5_readOrder_33 : decode cX5_readOrder 33 = .ok (.ireturn, 1) := by decide +kernel
theorem dX5_readOrder_34 : decode cX5_readOrder 34 = .ok (.aload_n 0, 1) := by decide +kernel
theorem dX5_readOrder_35 : decode cX5_readOrder 35 = .ok (.dup, 1) := by decide +kernel
theorem dX5_readOrder_36 : decode cX5_readOrder 36 = .ok (.getfield 211, 3) := by decide +kernel
theorem dX5_readOrder_39 : decode cX5_readOrder 39 = .ok (.iconst 1, 1) := by decide +kernel
theorem dX5_readOrder_40 : decode cX5_readOrder 40 = .ok (.iadd, 1) := by decide +kernel
theorem dX5_readOrder_41 : decode cX5_readOrder 41 = .ok (.putfield 211, 3) := by decide +kernel
theorem dX5_readOrder_44 : decode cX5_readOrder 44 = .ok (.aload_n 0, 1) := by decide +kernel
theorem dX5_readOrder_45 : decode cX5_readOrder 45 = .ok (.sipush 9999, 3) := by decide +kernel
theorem dX5_readOrder_48 : decode cX5_readOrder 48 = .ok (.invokevirtual 220, 3) := by decide +kernel
theorem dX5_readOrder_51 : decode cX5_readOrder 51 = .ok (.istore_n 2, 1) := by decide +kernel
theorem dX5_readOrder_52 : decode cX5_readOrder 52 = .ok (.iconst 0, 1) := by decide +kernel
theorem dX5_readOrder_53 : decode cX5_readOrder 53 = .ok (.istore_n 3, 1) := by decide +kernel
theorem dX5_readOrder_54 : decode cX5_readOrder 54 = .ok (.iconst 0, 1) := by decide +kernel
theorem dX5_readOrder_55 : decode cX5_readOrder 55 = .ok (.istore 4, 2) := by decide +kernel
theorem dX5_readOrder_57 : decode cX5_readOrder 57 = .ok (.iload_n 2, 1) := by decide +kernel
theorem dX5_readOrder_58 : decode cX5_readOrder 58 = .ok (.bipush (-6), 2) := by decide +kernel
theorem dX5_readOrder_60 : decode cX5_readOrder 60 = .ok (.if_icmp .eq 59, 3) := by decide +kernel
theorem dX5_readOrder_63 : decode cX5_readOrder 63 = .ok (.iload_n 1, 1) := by decide +kernel
theorem dX5_readOrder_64 : decode cX5_readOrder 64 = .ok (.bipush 99, 2) := by decide +kernel
theorem dX5_readOrder_66 : decode cX5_readOrder 66 = .ok (.if_icmp .ne 53, 3) := by decide +kernel
theorem dX5_readOrder_69 : decode cX5_readOrder 69 = .ok (.aload_n 0, 1) := by decide +kernel
theorem dX5_readOrder_70 : decode cX5_readOrder 70 = .ok (.bipush 64, 2) := by decide +kernel
theorem dX5_readOrder_72 : decode cX5_readOrder 72 = .ok (.invokevirtual 223, 3) := by decide +kernel
theorem dX5_readOrder_75 : decode cX5_readOrder 75 = .ok (.ifCond .eq 13, 3) := by decide +kernel
theorem dX5_readOrder_78 : decode cX5_readOrder 78 = .ok (.aload_n 0, 1) := by decide +kernel
theorem dX5_readOrder_79 : decode cX5_readOrder 79 = .ok (.sipush 9999, 3) := by decide +kernel
theorem dX5_readOrder_82 : decode cX5_readOrder 82 = .ok (.invokevirtual 220, 3) := by decide +kernel
theorem dX5_readOrder_85 : decode cX5_readOrder 85 = .ok (.goto 5, 3) := by decide +kernel
theorem dX5_readOrder_88 : decode cX5_readOrder 88 = .ok (.bipush (-6), 2) := by decide +kernel
theorem dX5_readOrder_90 : decode cX5_readOrder 90 = .ok (.istore_n 3, 1) := by decide +kernel
theorem dX5_readOrder_91 : decode cX5_readOrder 91 = .ok (.iload_n 3, 1) := by decide +kernel
theorem dX5_readOrder_92 : decode cX5_readOrder 92 = .ok (.bipush (-6), 2) := by decide +kernel
theorem dX5_readOrder_94 : decode cX5_readOrder 94 = .ok (.if_icmp .eq 21, 3) := by decide +kernel
theorem dX5_readOrder_97 : decode cX5_readOrder 97 = .ok (.aload_n 0, 1) := by decide +kernel
theorem dX5_readOrder_98 : decode cX5_readOrder 98 = .ok (.bipush 47, 2) := by decide +kernel
theorem dX5_readOrder_100 : decode cX5_readOrder 100 = .ok (.invokevirtual 223, 3) := by decide +kernel
theorem dX5_readOrder_103 : decode cX5_readOrder 103 = .ok (.ifCond .eq 12, 3) := by decide +kernel
theorem dX5_readOrder_106 : decode cX5_readOrder 106 = .ok (.aload_n 0, 1) := by decide +kernel
theorem dX5_readOrder_107 : decode cX5_readOrder 107 = .ok (.bipush 9, 2) := by decide +kernel
theorem dX5_readOrder_109 : decode cX5_readOrder 109 = .ok (.invokevirtual 220, 3) := by decide +kernel
theorem dX5_readOrder_112 : decode cX5_readOrder 112 = .ok (.goto 5, 3) := by decide +kernel
theorem dX5_readOrder_115 : decode cX5_readOrder 115 = .ok (.bipush (-6), 2) := by decide +kernel
theorem dX5_readOrder_117 : decode cX5_readOrder 117 = .ok (.istore 4, 2) := by decide +kernel
theorem dX5_readOrder_119 : decode cX5_readOrder 119 = .ok (.iload_n 2, 1) := by decide +kernel
theorem dX5_readOrder_120 : decode cX5_readOrder 120 = .ok (.bipush (-6), 2) := by decide +kernel
theorem dX5_readOrder_122 : decode cX5_readOrder 122 = .ok (.if_icmp .eq 31, 3) := by decide +kernel
theorem dX5_readOrder_125 : decode cX5_readOrder 125 = .ok (.iload_n 1, 1) := by decide +kernel
theorem dX5_readOrder_126 : decode cX5_readOrder 126 = .ok (.bipush 112, 2) := by decide +kernel
theorem dX5_readOrder_128 : decode cX5_readOrder 128 = .ok (.if_icmp .ne 25, 3) := by decide +kernel
theorem dX5_readOrder_131 : decode cX5_readOrder 131 = .ok (.aload_n 0, 1) := by decide +kernel
theorem dX5_readOrder_132 : decode cX5_readOrder 132 = .ok (.bipush 43, 2) := by decide +kernel
theorem dX5_readOrder_134 : decode cX5_readOrder 134 = .ok (.invokevirtual 223, 3) := by decide +kernel
theorem dX5_readOrder_137 : decode cX5_readOrder 137 = .ok (.ifCond .eq 13, 3) := by decide +kernel
theorem dX5_readOrder_140 : decode cX5_readOrder 140 = .ok (.aload_n 0, 1) := by decide +kernel
theorem dX5_readOrder_141 : decode cX5_readOrder 141 = .ok (.sipush 9999, 3) := by decide +kernel
theorem dX5_readOrder_144 : decode cX5_readOrder 144 = .ok (.invokevirtual 220, 3) := by decide +kernel
theorem dX5_readOrder_147 : decode cX5_readOrder 147 = .ok (.goto 5, 3) := by decide +kernel
theorem dX5_readOrder_150 : decode cX5_readOrder 150 = .ok (.bipush (-6), 2) := by decide +kernel
theorem dX5_readOrder_152 : decode cX5_readOrder 152 = .ok (.istore_n 3, 1) := by decide +kernel
theorem dX5_readOrder_153 : decode cX5_readOrder 153 = .ok (.aload_n 0, 1) := by decide +kernel
theorem dX5_readOrder_154 : decode cX5_readOrder 154 = .ok (.getfield 29, 3) := by decide +kernel
theorem dX5_readOrder_157 : decode cX5_readOrder 157 = .ok (.iconst 4, 1) := by decide +kernel
theorem dX5_readOrder_158 : decode cX5_readOrder 158 = .ok (.aload_n 0, 1) := by decide +kernel
theorem dX5_readOrder_159 : decode cX5_readOrder 159 = .ok (.getfield 226, 3) := by decide +kernel
theorem dX5_readOrder_162 : decode cX5_readOrder 162 = .ok (.imul, 1) := by decide +kernel
theorem dX5_readOrder_163 : decode cX5_readOrder 163 = .ok (.iload_n 1, 1) := by decide +kernel
theorem dX5_readOrder_164 : decode cX5_readOrder 164 = .ok (.iastore, 1) := by decide +kernel
theorem dX5_readOrder_165 : decode cX5_readOrder 165 = .ok (.aload_n 0, 1) := by decide +kernel
theorem dX5_readOrder_166 : decode cX5_readOrder 166 = .ok (.getfield 29, 3) := by decide +kernel
theorem dX5_readOrder_169 : decode cX5_readOrder 169 = .ok (.iconst 4, 1) := by decide +kernel
theorem dX5_readOrder_170 : decode cX5_readOrder 170 = .ok (.aload_n 0, 1) := by decide +kernel
theorem dX5_readOrder_171 : decode cX5_readOrder 171 = .ok (.getfield 226, 3) := by decide +kernel
theorem dX5_readOrder_174 : decode cX5_readOrder 174 = .ok (.imul, 1) := by decide +kernel
theorem dX5_readOrder_175 : decode cX5_readOrder 175 = .ok (.iconst 1, 1) := by decide +kernel
theorem dX5_readOrder_176 : decode cX5_readOrder 176 = .ok (.iadd, 1) := by decide +kernel
theorem dX5_readOrder_177 : decode cX5_readOrder 177 = .ok (.iload_n 2, 1) := by decide +kernel
theorem dX5_readOrder_178 : decode cX5_readOrder 178 = .ok (.iastore, 1) := by decide +kernel
theorem dX5_readOrder_179 : decode cX5_readOrder 179 = .ok (.aload_n 0, 1) := by decide +kernel
theorem dX5_readOrder_180 : decode cX5_readOrder 180 = .ok (.getfield 29, 3) := by decide +kernel
theorem dX5_readOrder_183 : decode cX5_readOrder 183 = .ok (.iconst 4, 1) := by decide +kernel
theorem dX5_readOrder_184 : decode cX5_readOrder 184 = .ok (.aload_n 0, 1) := by decide +kernel
theorem dX5_readOrder_185 : decode cX5_readOrder 185 = .ok (.getfield 226, 3) := by decide +kernel
theorem dX5_readOrder_188 : decode cX5_readOrder 188 = .ok (.imul, 1) := by decide +kernel
theorem dX5_readOrder_189 : decode cX5_readOrder 189 = .ok (.iconst 2, 1) := by decide +kernel
theorem dX5_readOrder_190 : decode cX5_readOrder 190 = .ok (.iadd, 1) := by decide +kernel
theorem dX5_readOrder_191 : decode cX5_readOrder 191 = .ok (.iload_n 3, 1) := by decide +kernel
theorem dX5_readOrder_192 : decode cX5_readOrder 192 = .ok (.iastore, 1) := by decide +kernel
theorem dX5_readOrder_193 : decode cX5_readOrder 193 = .ok (.aload_n 0, 1) := by decide +kernel
theorem dX5_readOrder_194 : decode cX5_readOrder 194 = .ok (.getfield 29, 3) := by decide +kernel
theorem dX5_readOrder_197 : decode cX5_readOrder 197 = .ok (.iconst 4, 1) := by decide +kernel
theorem dX5_readOrder_198 : decode cX5_readOrder 198 = .ok (.aload_n 0, 1) := by decide +kernel
theorem dX5_readOrder_199 : decode cX5_readOrder 199 = .ok (.getfield 226, 3) := by decide +kernel
theorem dX5_readOrder_202 : decode cX5_readOrder 202 = .ok (.imul, 1) := by decide +kernel
theorem dX5_readOrder_203 : decode cX5_readOrder 203 = .ok (.iconst 3, 1) := by decide +kernel
theorem dX5_readOrder_204 : decode cX5_readOrder 204 = .ok (.iadd, 1) := by decide +kernel
theorem dX5_readOrder_205 : decode cX5_readOrder 205 = .ok (.iload 4, 2) := by decide +kernel
theorem dX5_readOrder_207 : decode cX5_readOrder 207 = .ok (.iastore, 1) := by decide +kernel
theorem dX5_readOrder_208 : decode cX5_readOrder 208 = .ok (.aload_n 0, 1) := by decide +kernel
theorem dX5_readOrder_209 : decode cX5_readOrder 209 = .ok (.dup, 1) := by decide +kernel
theorem dX5_readOrder_210 : decode cX5_readOrder 210 = .ok (.getfield 226, 3) := by decide +kernel
theorem dX5_readOrder_213 : decode cX5_readOrder 213 = .ok (.iconst 1, 1) := by decide +kernel
theorem dX5_readOrder_214 : decode cX5_readOrder 214 = .ok (.iadd, 1) := by decide +kernel
theorem dX5_readOrder_215 : decode cX5_readOrder 215 = .ok (.putfield 226, 3) := by decide +kernel
theorem dX5_readOrder_218 : decode cX5_readOrder 218 = .ok (.iload_n 2, 1) := by decide +kernel
theorem dX5_readOrder_219 : decode cX5_readOrder 219 = .ok (.bipush (-6), 2) := by decide +kernel
theorem dX5_readOrder_221 : decode cX5_readOrder 221 = .ok (.if_icmp .eq 20, 3) := by decide +kernel
theorem dX5_readOrder_224 : decode cX5_readOrder 224 = .ok (.iload_n 3, 1) := by decide +kernel
theorem dX5_readOrder_225 : decode cX5_readOrder 225 = .ok (.bipush (-6), 2) := by decide +kernel
theorem dX5_readOrder_227 : decode cX5_readOrder 227 = .ok (.if_icmp .eq 14, 3) := by decide +kernel
theorem dX5_readOrder_230 : decode cX5_readOrder 230 = .ok (.iload 4, 2) := by decide +kernel
theorem dX5_readOrder_232 : decode cX5_readOrder 232 = .ok (.bipush (-6), 2) := by decide +kernel
theorem dX5_readOrder_234 : decode cX5_readOrder 234 = .ok (.if_icmp .eq 7, 3) := by decide +kernel
theorem dX5_readOrder_237 : decode cX5_readOrder 237 = .ok (.iconst 1, 1) := by decide +kernel
theorem dX5_readOrder_238 : decode cX5_readOrder 238 = .ok (.goto 4, 3) := by decide +kernel
theorem dX5_readOrder_241 : decode cX5_readOrder 241 = .ok (.iconst 0, 1) := by decide +kernel
theorem dX5_readOrder_242 : decode cX5_readOrder 242 = .ok (.ireturn, 1) := by decide +kernel
theorem dX5_readPad_0 : decode cX5_readPad 0 = .ok (.aload_n 0, 1) := by decide +kernel
theorem dX5_readPad_1 : decode cX5_readPad 1 = .ok (.iconst 0, 1) := by decide +kernel
theorem dX5_readPad_2 : decode cX5_readPad 2 = .ok (.putfield 211, 3) := by decide +kernel
theorem dX5_readPad_5 : decode cX5_readPad 5 = .ok (.aload_n 0, 1) := by decide +kernel
theorem dX5_readPad_6 : decode cX5_readPad 6 = .ok (.iconst 0, 1) := by decide +kernel
theorem dX5_readPad_7 : decode cX5_readPad 7 = .ok (.putfield 226, 3) := by decide +kernel
theorem dX5_readPad_10 : decode cX5_readPad 10 = .ok (.aload_n 0, 1) := by decide +kernel
theorem dX5_readPad_11 : decode cX5_readPad 11 = .ok (.invokevirtual 229, 3) := by decide +kernel
theorem dX5_readPad_14 : decode cX5_readPad 14 = .ok (.istore_n 1, 1) := by decide +kernel
theorem dX5_readPad_15 : decode cX5_readPad 15 = .ok (.iload_n 1, 1) := by decide +kernel
theorem dX5_readPad_16 : decode cX5_readPad 16 = .ok (.ifCond .eq 39, 3) := by decide +kernel
theorem dX5_readPad_19 : decode cX5_readPad 19 = .ok (.aload_n 0, 1) := by decide +kernel
theorem dX5_readPad_20 : decode cX5_readPad 20 = .ok (.getfield 211, 3) := by decide +kernel
theorem dX5_readPad_23 : decode cX5_readPad 23 = .ok (.aload_n 0, 1) := by decide +kernel
theorem dX5_readPad_24 : decode cX5_readPad 24 = .ok (.getfield 197, 3) := by decide +kernel
theorem dX5_readPad_27 : decode cX5_readPad 27 = .ok (.if_icmp .ge 28, 3) := by decide +kernel
theorem dX5_readPad_30 : decode cX5_readPad 30 = .ok (.aload_n 0, 1) := by decide +kernel
theorem dX5_readPad_31 : decode cX5_readPad 31 = .ok (.bipush 59, 2) := by decide +kernel
theorem dX5_readPad_33 : decode cX5_readPad 33 = .ok (.invokevirtual 223, 3) := by decide +kernel
theorem dX5_readPad_36 : decode cX5_readPad 36 = .ok (.ifCond .eq 14, 3) := by decide +kernel
theorem dX5_readPad_39 : decode cX5_readPad 39 = .ok (.aload_n 0, 1) := by decide +kernel
theorem dX5_readPad_40 : decode cX5_readPad 40 = .ok (.invokevirtual 229, 3) := by decide +kernel
theorem dX5_readPad_43 : decode cX5_readPad 43 = .ok (.ifCond .eq 7, 3) := by decide +kernel
theorem dX5_readPad_46 : decode cX5_readPad 46 = .ok (.iconst 1, 1) := by decide +kernel
theorem dX5_readPad_47 : decode cX5_readPad 47 = .ok (.goto 4, 3) := by decide +kernel
theorem dX5_readPad_50 : decode cX5_readPad 50 = .ok (.iconst 0, 1) := by decide +kernel
theorem dX5_readPad_51 : decode cX5_readPad 51 = .ok (.istore_n 1, 1) := by decide +kernel
theorem dX5_readPad_52 : decode cX5_readPad 52 = .ok (.goto (-37), 3) := by decide +kernel
theorem dX5_readPad_55 : decode cX5_readPad 55 = .ok (.iload_n 1, 1) := by decide +kernel
theorem dX5_readPad_56 : decode cX5_readPad 56 = .ok (.ireturn, 1) := by decide +kernel
theorem dX5_fault_0 : decode cX5_fault 0 = .ok (.aload_n 0, 1) := by decide +kernel
theorem dX5_fault_1 : decode cX5_fault 1 = .ok (.invokevirtual 233, 3) := by decide +kernel
theorem dX5_fault_4 : decode cX5_fault 4 = .ok (.ifCond .eq 8, 3) := by decide +kernel
theorem dX5_fault_7 : decode cX5_fault 7 = .ok (.bipush (-6), 2) := by decide +kernel
theorem dX5_fault_9 : decode cX5_fault 9 = .ok (.goto 7, 3) := by decide +kernel
theorem dX5_fault_12 : decode cX5_fault 12 = .ok (.aload_n 0, 1) := by decide +kernel
theorem dX5_fault_13 : decode cX5_fault 13 = .ok (.getfield 211, 3) := by decide +kernel
theorem dX5_fault_16 : decode cX5_fault 16 = .ok (.ireturn, 1) := by decide +kernel
theorem dX5_whyNot_0 : decode cX5_whyNot 0 = .ok (.aload_n 0, 1) := by decide +kernel
theorem dX5_whyNot_1 : decode cX5_whyNot 1 = .ok (.getfield 29, 3) := by decide +kernel
theorem dX5_whyNot_4 : decode cX5_whyNot 4 = .ok (.iconst 4, 1) := by decide +kernel
theorem dX5_whyNot_5 : decode cX5_whyNot 5 = .ok (.iload_n 1, 1) := by decide +kernel
theorem dX5_whyNot_6 : decode cX5_whyNot 6 = .ok (.imul, 1) := by decide +kernel
theorem dX5_whyNot_7 : decode cX5_whyNot 7 = .ok (.iconst 1, 1) := by decide +kernel
theorem dX5_whyNot_8 : decode cX5_whyNot 8 = .ok (.iadd, 1) := by decide +kernel
theorem dX5_whyNot_9 : decode cX5_whyNot 9 = .ok (.iaload, 1) := by decide +kernel
theorem dX5_whyNot_10 : decode cX5_whyNot 10 = .ok (.istore_n 2, 1) := by decide +kernel
theorem dX5_whyNot_11 : decode cX5_whyNot 11 = .ok (.aload_n 0, 1) := by decide +kernel
theorem dX5_whyNot_12 : decode cX5_whyNot 12 = .ok (.getfield 29, 3) := by decide +kernel
theorem dX5_whyNot_15 : decode cX5_whyNot 15 = .ok (.iconst 4, 1) := by decide +kernel
theorem dX5_whyNot_16 : decode cX5_whyNot 16 = .ok (.iload_n 1, 1) := by decide +kernel
theorem dX5_whyNot_17 : decode cX5_whyNot 17 = .ok (.imul, 1) := by decide +kernel
theorem dX5_whyNot_18 : decode cX5_whyNot 18 = .ok (.iaload, 1) := by decide +kernel
theorem dX5_whyNot_19 : decode cX5_whyNot 19 = .ok (.tableswitch 169 99 119 #[109, 151, 169, 169, 169, 169, 169, 169, 169, 97, 169, 103, 169, 135, 169, 169, 163, 169, 169, 169, 157], 97) := by decide +kernel
theorem dX5_whyNot_116 : decode cX5_whyNot 116 = .ok (.aload_n 0, 1) := by decide +kernel
theorem dX5_whyNot_117 : decode cX5_whyNot 117 = .ok (.iload_n 2, 1) := by decide +kernel
theorem dX5_whyNot_118 : decode cX5_whyNot 118 = .ok (.invokevirtual 72, 3) := by decide +kernel
theorem dX5_whyNot_121 : decode cX5_whyNot 121 = .ok (.ireturn, 1) := by decide +kernel
theorem dX5_whyNot_122 : decode cX5_whyNot 122 = .ok (.aload_n 0, 1) := by decide +kernel
theorem dX5_whyNot_123 : decode cX5_whyNot 123 = .ok (.iload_n 2, 1) := by decide +kernel
theorem dX5_whyNot_124 : decode cX5_whyNot 124 = .ok (.invokevirtual 85, 3) := by decide +kernel
theorem dX5_whyNot_127 : decode cX5_whyNot 127 = .ok (.ireturn, 1) := by decide +kernel
theorem dX5_whyNot_128 : decode cX5_whyNot 128 = .ok (.aload_n 0, 1) := by decide +kernel
theorem dX5_whyNot_129 : decode cX5_whyNot 129 = .ok (.iload_n 2, 1) := by decide +kernel
theorem dX5_whyNot_130 : decode cX5_whyNot 130 = .ok (.aload_n 0, 1) := by decide +kernel
theorem dX5_whyNot_131 : decode cX5_whyNot 131 = .ok (.getfield 29, 3) := by decide +kernel
theorem dX5_whyNot_134 : decode cX5_whyNot 134 = .ok (.iconst 4, 1) := by decide +kernel
theorem dX5_whyNot_135 : decode cX5_whyNot 135 = .ok (.iload_n 1, 1) := by decide +kernel
theorem dX5_whyNot_136 : decode cX5_whyNot 136 = .ok (.imul, 1) := by decide +kernel
theorem dX5_whyNot_137 : decode cX5_whyNot 137 = .ok (.iconst 2, 1) := by decide +kernel
theorem dX5_whyNot_138 : decode cX5_whyNot 138 = .ok (.iadd, 1) := by decide +kernel
theorem dX5_whyNot_139 : decode cX5_whyNot 139 = .ok (.iaload, 1) := by decide +kernel
theorem dX5_whyNot_140 : decode cX5_whyNot 140 = .ok (.aload_n 0, 1) := by decide +kernel
theorem dX5_whyNot_141 : decode cX5_whyNot 141 = .ok (.getfield 29, 3) := by decide +kernel
theorem dX5_whyNot_144 : decode cX5_whyNot 144 = .ok (.iconst 4, 1) := by decide +kernel
theorem dX5_whyNot_145 : decode cX5_whyNot 145 = .ok (.iload_n 1, 1) := by decide +kernel
theorem dX5_whyNot_146 : decode cX5_whyNot 146 = .ok (.imul, 1) := by decide +kernel
theorem dX5_whyNot_147 : decode cX5_whyNot 147 = .ok (.iconst 3, 1) := by decide +kernel
theorem dX5_whyNot_148 : decode cX5_whyNot 148 = .ok (.iadd, 1) := by decide +kernel
theorem dX5_whyNot_149 : decode cX5_whyNot 149 = .ok (.iaload, 1) := by decide +kernel
theorem dX5_whyNot_150 : decode cX5_whyNot 150 = .ok (.invokevirtual 106, 3) := by decide +kernel
theorem dX5_whyNot_153 : decode cX5_whyNot 153 = .ok (.ireturn, 1) := by decide +kernel
theorem dX5_whyNot_154 : decode cX5_whyNot 154 = .ok (.aload_n 0, 1) := by decide +kernel
theorem dX5_whyNot_155 : decode cX5_whyNot 155 = .ok (.iload_n 2, 1) := by decide +kernel
theorem dX5_whyNot_156 : decode cX5_whyNot 156 = .ok (.aload_n 0, 1) := by decide +kernel
theorem dX5_whyNot_157 : decode cX5_whyNot 157 = .ok (.getfield 29, 3) := by decide +kernel
theorem dX5_whyNot_160 : decode cX5_whyNot 160 = .ok (.iconst 4, 1) := by decide +kernel
theorem dX5_whyNot_161 : decode cX5_whyNot 161 = .ok (.iload_n 1, 1) := by decide +kernel
theorem dX5_whyNot_162 : decode cX5_whyNot 162 = .ok (.imul, 1) := by decide +kernel
theorem dX5_whyNot_163 : decode cX5_whyNot 163 = .ok (.iconst 2, 1) := by decide +kernel
theorem dX5_whyNot_164 : decode cX5_whyNot 164 = .ok (.iadd, 1) := by decide +kernel
theorem dX5_whyNot_165 : decode cX5_whyNot 165 = .ok (.iaload, 1) := by decide +kernel
theorem dX5_whyNot_166 : decode cX5_whyNot 166 = .ok (.invokevirtual 119, 3) := by decide +kernel
theorem dX5_whyNot_169 : decode cX5_whyNot 169 = .ok (.ireturn, 1) := by decide +kernel
theorem dX5_whyNot_170 : decode cX5_whyNot 170 = .ok (.aload_n 0, 1) := by decide +kernel
theorem dX5_whyNot_171 : decode cX5_whyNot 171 = .ok (.iload_n 2, 1) := by decide +kernel
theorem dX5_whyNot_172 : decode cX5_whyNot 172 = .ok (.invokevirtual 125, 3) := by decide +kernel
theorem dX5_whyNot_175 : decode cX5_whyNot 175 = .ok (.ireturn, 1) := by decide +kernel
theorem dX5_whyNot_176 : decode cX5_whyNot 176 = .ok (.aload_n 0, 1) := by decide +kernel
theorem dX5_whyNot_177 : decode cX5_whyNot 177 = .ok (.iload_n 2, 1) := by decide +kernel
theorem dX5_whyNot_178 : decode cX5_whyNot 178 = .ok (.invokevirtual 134, 3) := by decide +kernel
theorem dX5_whyNot_181 : decode cX5_whyNot 181 = .ok (.ireturn, 1) := by decide +kernel
theorem dX5_whyNot_182 : decode cX5_whyNot 182 = .ok (.aload_n 0, 1) := by decide +kernel
theorem dX5_whyNot_183 : decode cX5_whyNot 183 = .ok (.iload_n 2, 1) := by decide +kernel
theorem dX5_whyNot_184 : decode cX5_whyNot 184 = .ok (.invokevirtual 156, 3) := by decide +kernel
theorem dX5_whyNot_187 : decode cX5_whyNot 187 = .ok (.ireturn, 1) := by decide +kernel
theorem dX5_whyNot_188 : decode cX5_whyNot 188 = .ok (.aload_n 0, 1) := by decide +kernel
theorem dX5_whyNot_189 : decode cX5_whyNot 189 = .ok (.iload_n 2, 1) := by decide +kernel
theorem dX5_whyNot_190 : decode cX5_whyNot 190 = .ok (.invokevirtual 169, 3) := by decide +kernel
theorem dX5_whyNot_193 : decode cX5_whyNot 193 = .ok (.ireturn, 1) := by decide +kernel
theorem dX5_doOrder_0 : decode cX5_doOrder 0 = .ok (.aload_n 0, 1) := by decide +kernel
theorem dX5_doOrder_1 : decode cX5_doOrder 1 = .ok (.getfield 29, 3) := by decide +kernel
theorem dX5_doOrder_4 : decode cX5_doOrder 4 = .ok (.iconst 4, 1) := by decide +kernel
theorem dX5_doOrder_5 : decode cX5_doOrder 5 = .ok (.iload_n 1, 1) := by decide +kernel
theorem dX5_doOrder_6 : decode cX5_doOrder 6 = .ok (.imul, 1) := by decide +kernel
theorem dX5_doOrder_7 : decode cX5_doOrder 7 = .ok (.iconst 1, 1) := by decide +kernel
theorem dX5_doOrder_8 : decode cX5_doOrder 8 = .ok (.iadd, 1) := by decide +kernel
theorem dX5_doOrder_9 : decode cX5_doOrder 9 = .ok (.iaload, 1) := by decide +kernel
theorem dX5_doOrder_10 : decode cX5_doOrder 10 = .ok (.istore_n 2, 1) := by decide +kernel
theorem dX5_doOrder_11 : decode cX5_doOrder 11 = .ok (.aload_n 0, 1) := by decide +kernel
theorem dX5_doOrder_12 : decode cX5_doOrder 12 = .ok (.getfield 29, 3) := by decide +kernel
theorem dX5_doOrder_15 : decode cX5_doOrder 15 = .ok (.iconst 4, 1) := by decide +kernel
theorem dX5_doOrder_16 : decode cX5_doOrder 16 = .ok (.iload_n 1, 1) := by decide +kernel
theorem dX5_doOrder_17 : decode cX5_doOrder 17 = .ok (.imul, 1) := by decide +kernel
theorem dX5_doOrder_18 : decode cX5_doOrder 18 = .ok (.iaload, 1) := by decide +kernel
theorem dX5_doOrder_19 : decode cX5_doOrder 19 = .ok (.tableswitch 169 99 119 #[109, 151, 169, 169, 169, 169, 169, 169, 169, 97, 169, 103, 169, 135, 169, 169, 163, 169, 169, 169, 157], 97) := by decide +kernel
theorem dX5_doOrder_116 : decode cX5_doOrder 116 = .ok (.aload_n 0, 1) := by decide +kernel
theorem dX5_doOrder_117 : decode cX5_doOrder 117 = .ok (.iload_n 2, 1) := by decide +kernel
theorem dX5_doOrder_118 : decode cX5_doOrder 118 = .ok (.invokevirtual 75, 3) := by decide +kernel
theorem dX5_doOrder_121 : decode cX5_doOrder 121 = .ok (.ireturn, 1) := by decide +kernel
theorem dX5_doOrder_122 : decode cX5_doOrder 122 = .ok (.aload_n 0, 1) := by decide +kernel
theorem dX5_doOrder_123 : decode cX5_doOrder 123 = .ok (.iload_n 2, 1) := by decide +kernel
theorem dX5_doOrder_124 : decode cX5_doOrder 124 = .ok (.invokevirtual 88, 3) := by decide +kernel
theorem dX5_doOrder_127 : decode cX5_doOrder 127 = .ok (.ireturn, 1) := by decide +kernel
theorem dX5_doOrder_128 : decode cX5_doOrder 128 = .ok (.aload_n 0, 1) := by decide +kernel
theorem dX5_doOrder_129 : decode cX5_doOrder 129 = .ok (.iload_n 2, 1) := by decide +kernel
theorem dX5_doOrder_130 : decode cX5_doOrder 130 = .ok (.aload_n 0, 1) := by decide +kernel
theorem dX5_doOrder_131 : decode cX5_doOrder 131 = .ok (.getfield 29, 3) := by decide +kernel
theorem dX5_doOrder_134 : decode cX5_doOrder 134 = .ok (.iconst 4, 1) := by decide +kernel
theorem dX5_doOrder_135 : decode cX5_doOrder 135 = .ok (.iload_n 1, 1) := by decide +kernel
theorem dX5_doOrder_136 : decode cX5_doOrder 136 = .ok (.imul, 1) := by decide +kernel
theorem dX5_doOrder_137 : decode cX5_doOrder 137 = .ok (.iconst 2, 1) := by decide +kernel
theorem dX5_doOrder_138 : decode cX5_doOrder 138 = .ok (.iadd, 1) := by decide +kernel
theorem dX5_doOrder_139 : decode cX5_doOrder 139 = .ok (.iaload, 1) := by decide +kernel
theorem dX5_doOrder_140 : decode cX5_doOrder 140 = .ok (.aload_n 0, 1) := by decide +kernel
theorem dX5_doOrder_141 : decode cX5_doOrder 141 = .ok (.getfield 29, 3) := by decide +kernel
theorem dX5_doOrder_144 : decode cX5_doOrder 144 = .ok (.iconst 4, 1) := by decide +kernel
theorem dX5_doOrder_145 : decode cX5_doOrder 145 = .ok (.iload_n 1, 1) := by decide +kernel
theorem dX5_doOrder_146 : decode cX5_doOrder 146 = .ok (.imul, 1) := by decide +kernel
theorem dX5_doOrder_147 : decode cX5_doOrder 147 = .ok (.iconst 3, 1) := by decide +kernel
theorem dX5_doOrder_148 : decode cX5_doOrder 148 = .ok (.iadd, 1) := by decide +kernel
theorem dX5_doOrder_149 : decode cX5_doOrder 149 = .ok (.iaload, 1) := by decide +kernel
theorem dX5_doOrder_150 : decode cX5_doOrder 150 = .ok (.invokevirtual 110, 3) := by decide +kernel
theorem dX5_doOrder_153 : decode cX5_doOrder 153 = .ok (.ireturn, 1) := by decide +kernel
theorem dX5_doOrder_154 : decode cX5_doOrder 154 = .ok (.aload_n 0, 1) := by decide +kernel
theorem dX5_doOrder_155 : decode cX5_doOrder 155 = .ok (.iload_n 2, 1) := by decide +kernel
theorem dX5_doOrder_156 : decode cX5_doOrder 156 = .ok (.aload_n 0, 1) := by decide +kernel
theorem dX5_doOrder_157 : decode cX5_doOrder 157 = .ok (.getfield 29, 3) := by decide +kernel
theorem dX5_doOrder_160 : decode cX5_doOrder 160 = .ok (.iconst 4, 1) := by decide +kernel
theorem dX5_doOrder_161 : decode cX5_doOrder 161 = .ok (.iload_n 1, 1) := by decide +kernel
theorem dX5_doOrder_162 : decode cX5_doOrder 162 = .ok (.imul, 1) := by decide +kernel
theorem dX5_doOrder_163 : decode cX5_doOrder 163 = .ok (.iconst 2, 1) := by decide +kernel
theorem dX5_doOrder_164 : decode cX5_doOrder 164 = .ok (.iadd, 1) := by decide +kernel
theorem dX5_doOrder_165 : decode cX5_doOrder 165 = .ok (.iaload, 1) := by decide +kernel
theorem dX5_doOrder_166 : decode cX5_doOrder 166 = .ok (.invokevirtual 122, 3) := by decide +kernel
theorem dX5_doOrder_169 : decode cX5_doOrder 169 = .ok (.ireturn, 1) := by decide +kernel
theorem dX5_doOrder_170 : decode cX5_doOrder 170 = .ok (.aload_n 0, 1) := by decide +kernel
theorem dX5_doOrder_171 : decode cX5_doOrder 171 = .ok (.iload_n 2, 1) := by decide +kernel
theorem dX5_doOrder_172 : decode cX5_doOrder 172 = .ok (.invokevirtual 128, 3) := by decide +kernel
theorem dX5_doOrder_175 : decode cX5_doOrder 175 = .ok (.ireturn, 1) := by decide +kernel
theorem dX5_doOrder_176 : decode cX5_doOrder 176 = .ok (.aload_n 0, 1) := by decide +kernel
theorem dX5_doOrder_177 : decode cX5_doOrder 177 = .ok (.iload_n 2, 1) := by decide +kernel
theorem dX5_doOrder_178 : decode cX5_doOrder 178 = .ok (.invokevirtual 137, 3) := by decide +kernel
theorem dX5_doOrder_181 : decode cX5_doOrder 181 = .ok (.ireturn, 1) := by decide +kernel
theorem dX5_doOrder_182 : decode cX5_doOrder 182 = .ok (.aload_n 0, 1) := by decide +kernel
theorem dX5_doOrder_183 : decode cX5_doOrder 183 = .ok (.iload_n 2, 1) := by decide +kernel
theorem dX5_doOrder_184 : decode cX5_doOrder 184 = .ok (.invokevirtual 159, 3) := by decide +kernel
theorem dX5_doOrder_187 : decode cX5_doOrder 187 = .ok (.ireturn, 1) := by decide +kernel
theorem dX5_doOrder_188 : decode cX5_doOrder 188 = .ok (.aload_n 0, 1) := by decide +kernel
theorem dX5_doOrder_189 : decode cX5_doOrder 189 = .ok (.iload_n 2, 1) := by decide +kernel
theorem dX5_doOrder_190 : decode cX5_doOrder 190 = .ok (.invokevirtual 172, 3) := by decide +kernel
theorem dX5_doOrder_193 : decode cX5_doOrder 193 = .ok (.ireturn, 1) := by decide +kernel
theorem dX5_carryOut_0 : decode cX5_carryOut 0 = .ok (.aload_n 0, 1) := by decide +kernel
theorem dX5_carryOut_1 : decode cX5_carryOut 1 = .ok (.invokevirtual 233, 3) := by decide +kernel
theorem dX5_carryOut_4 : decode cX5_carryOut 4 = .ok (.ifCond .ne 6, 3) := by decide +kernel
theorem dX5_carryOut_7 : decode cX5_carryOut 7 = .ok (.bipush (-3), 2) := by decide +kernel
theorem dX5_carryOut_9 : decode cX5_carryOut 9 = .ok (.ireturn, 1) := by decide +kernel
theorem dX5_carryOut_10 : decode cX5_carryOut 10 = .ok (.aload_n 0, 1) := by decide +kernel
theorem dX5_carryOut_11 : decode cX5_carryOut 11 = .ok (.invokevirtual 44, 3) := by decide +kernel
theorem dX5_carryOut_14 : decode cX5_carryOut 14 = .ok (.iconst 0, 1) := by decide +kernel
theorem dX5_carryOut_15 : decode cX5_carryOut 15 = .ok (.istore_n 1, 1) := by decide +kernel
theorem dX5_carryOut_16 : decode cX5_carryOut 16 = .ok (.iload_n 1, 1) := by decide +kernel
theorem dX5_carryOut_17 : decode cX5_carryOut 17 = .ok (.aload_n 0, 1) := by decide +kernel
theorem dX5_carryOut_18 : decode cX5_carryOut 18 = .ok (.getfield 226, 3) := by decide +kernel
theorem dX5_carryOut_21 : decode cX5_carryOut 21 = .ok (.if_icmp .ge 23, 3) := by decide +kernel
theorem dX5_carryOut_24 : decode cX5_carryOut 24 = .ok (.aload_n 0, 1) := by decide +kernel
theorem dX5_carryOut_25 : decode cX5_carryOut 25 = .ok (.iload_n 1, 1) := by decide +kernel
theorem dX5_carryOut_26 : decode cX5_carryOut 26 = .ok (.invokevirtual 236, 3) := by decide +kernel
theorem dX5_carryOut_29 : decode cX5_carryOut 29 = .ok (.ifCond .ne 15, 3) := by decide +kernel
theorem dX5_carryOut_32 : decode cX5_carryOut 32 = .ok (.aload_n 0, 1) := by decide +kernel
theorem dX5_carryOut_33 : decode cX5_carryOut 33 = .ok (.iload_n 1, 1) := by decide +kernel
theorem dX5_carryOut_34 : decode cX5_carryOut 34 = .ok (.invokevirtual 239, 3) := by decide +kernel
theorem dX5_carryOut_37 : decode cX5_carryOut 37 = .ok (.pop, 1) := by decide +kernel
theorem dX5_carryOut_38 : decode cX5_carryOut 38 = .ok (.iinc 1 1, 3) := by decide +kernel
theorem dX5_carryOut_41 : decode cX5_carryOut 41 = .ok (.goto (-25), 3) := by decide +kernel
theorem dX5_carryOut_44 : decode cX5_carryOut 44 = .ok (.aload_n 0, 1) := by decide +kernel
theorem dX5_carryOut_45 : decode cX5_carryOut 45 = .ok (.iconst 0, 1) := by decide +kernel
theorem dX5_carryOut_46 : decode cX5_carryOut 46 = .ok (.putfield 197, 3) := by decide +kernel
theorem dX5_carryOut_49 : decode cX5_carryOut 49 = .ok (.iload_n 1, 1) := by decide +kernel
theorem dX5_carryOut_50 : decode cX5_carryOut 50 = .ok (.ireturn, 1) := by decide +kernel
