theorem dX0_init_0 : decode cX0_init 0 = .ok (.aload_n 0, 1) := by decide +kernel
theorem dX0_init_1 : decode cX0_init 1 = .ok (.invokespecial 3, 3) := by decide +kernel
theorem dX0_init_4 : decode cX0_init 4 = .ok (.aload_n 0, 1) := by decide +kernel
theorem dX0_init_5 : decode cX0_init 5 = .ok (.iconst 0, 1) := by decide +kernel
theorem dX0_init_6 : decode cX0_init 6 = .ok (.putfield 9, 3) := by decide +kernel
theorem dX0_init_9 : decode cX0_init 9 = .ok (.aload_n 0, 1) := by decide +kernel
theorem dX0_init_10 : decode cX0_init 10 = .ok (.bipush 30, 2) := by decide +kernel
theorem dX0_init_12 : decode cX0_init 12 = .ok (.newarray .int, 2) := by decide +kernel
theorem dX0_init_14 : decode cX0_init 14 = .ok (.putfield 15, 3) := by decide +kernel
theorem dX0_init_17 : decode cX0_init 17 = .ok (.aload_n 0, 1) := by decide +kernel
theorem dX0_init_18 : decode cX0_init 18 = .ok (.bipush 30, 2) := by decide +kernel
theorem dX0_init_20 : decode cX0_init 20 = .ok (.newarray .int, 2) := by decide +kernel
theorem dX0_init_22 : decode cX0_init 22 = .ok (.putfield 19, 3) := by decide +kernel
theorem dX0_init_25 : decode cX0_init 25 = .ok (.aload_n 0, 1) := by decide +kernel
theorem dX0_init_26 : decode cX0_init 26 = .ok (.bipush 30, 2) := by decide +kernel
theorem dX0_init_28 : decode cX0_init 28 = .ok (.newarray .int, 2) := by decide +kernel
theorem dX0_init_30 : decode cX0_init 30 = .ok (.putfield 22, 3) := by decide +kernel
theorem dX0_init_33 : decode cX0_init 33 = .ok (.aload_n 0, 1) := by decide +kernel
theorem dX0_init_34 : decode cX0_init 34 = .ok (.bipush 30, 2) := by decide +kernel
theorem dX0_init_36 : decode cX0_init 36 = .ok (.newarray .int, 2) := by decide +kernel
theorem dX0_init_38 : decode cX0_init 38 = .ok (.putfield 25, 3) := by decide +kernel
theorem dX0_init_41 : decode cX0_init 41 = .ok (.aload_n 0, 1) := by decide +kernel
theorem dX0_init_42 : decode cX0_init 42 = .ok (.bipush 30, 2) := by decide +kernel
theorem dX0_init_44 : decode cX0_init 44 = .ok (.newarray .int, 2) := by decide +kernel
theorem dX0_init_46 : decode cX0_init 46 = .ok (.putfield 28, 3) := by decide +kernel
theorem dX0_init_49 : decode cX0_init 49 = .ok (.aload_n 0, 1) := by decide +kernel
theorem dX0_init_50 : decode cX0_init 50 = .ok (.bipush 30, 2) := by decide +kernel
theorem dX0_init_52 : decode cX0_init 52 = .ok (.newarray .int, 2) := by decide +kernel
theorem dX0_init_54 : decode cX0_init 54 = .ok (.putfield 31, 3) := by decide +kernel
theorem dX0_init_57 : decode cX0_init 57 = .ok (.aload_n 0, 1) := by decide +kernel
theorem dX0_init_58 : decode cX0_init 58 = .ok (.bipush 30, 2) := by decide +kernel
theorem dX0_init_60 : decode cX0_init 60 = .ok (.newarray .int, 2) := by decide +kernel
theorem dX0_init_62 : decode cX0_init 62 = .ok (.putfield 34, 3) := by decide +kernel
theorem dX0_init_65 : decode cX0_init 65 = .ok (.return_, 1) := by decide +kernel
theorem dX0_become_0 : decode cX0_become 0 = .ok (.aload_n 0, 1) := by decide +kernel
theorem dX0_become_1 : decode cX0_become 1 = .ok (.aload_n 1, 1) := by decide +kernel
theorem dX0_become_2 : decode cX0_become 2 = .ok (.getfield 9, 3) := by decide +kernel
theorem dX0_become_5 : decode cX0_become 5 = .ok (.putfield 9, 3) := by decide +kernel
theorem dX0_become_8 : decode cX0_become 8 = .ok (.aload_n 1, 1) := by decide +kernel
theorem dX0_become_9 : decode cX0_become 9 = .ok (.getfield 15, 3) := by decide +kernel
theorem dX0_become_12 : decode cX0_become 12 = .ok (.aload_n 0, 1) := by decide +kernel
theorem dX0_become_13 : decode cX0_become 13 = .ok (.getfield 15, 3) := by decide +kernel
theorem dX0_become_16 : decode cX0_become 16 = .ok (.invokestatic 37, 3) := by decide +kernel
theorem dX0_become_19 : decode cX0_become 19 = .ok (.aload_n 1, 1) := by decide +kernel
theorem dX0_become_20 : decode cX0_become 20 = .ok (.getfield 19, 3) := by decide +kernel
theorem dX0_become_23 : decode cX0_become 23 = .ok (.aload_n 0, 1) := by decide +kernel
theorem dX0_become_24 : decode cX0_become 24 = .ok (.getfield 19, 3) := by decide +kernel
theorem dX0_become_27 : decode cX0_become 27 = .ok (.invokestatic 37, 3) := by decide +kernel
theorem dX0_become_30 : decode cX0_become 30 = .ok (.aload_n 1, 1) := by decide +kernel
theorem dX0_become_31 : decode cX0_become 31 = .ok (.getfield 22, 3) := by decide +kernel
theorem dX0_become_34 : decode cX0_become 34 = .ok (.aload_n 0, 1) := by decide +kernel
theorem dX0_become_35 : decode cX0_become 35 = .ok (.getfield 22, 3) := by decide +kernel
theorem dX0_become_38 : decode cX0_become 38 = .ok (.invokestatic 37, 3) := by decide +kernel
theorem dX0_become_41 : decode cX0_become 41 = .ok (.aload_n 1, 1) := by decide +kernel
theorem dX0_become_42 : decode cX0_become 42 = .ok (.getfield 25, 3) := by decide +kernel
theorem dX0_become_45 : decode cX0_become 45 = .ok (.aload_n 0, 1) := by decide +kernel
theorem dX0_become_46 : decode cX0_become 46 = .ok (.getfield 25, 3) := by decide +kernel
theorem dX0_become_49 : decode cX0_become 49 = .ok (.invokestatic 37, 3) := by decide +kernel
theorem dX0_become_52 : decode cX0_become 52 = .ok (.aload_n 1, 1) := by decide +kernel
theorem dX0_become_53 : decode cX0_become 53 = .ok (.getfield 28, 3) := by decide +kernel
theorem dX0_become_56 : decode cX0_become 56 = .ok (.aload_n 0, 1) := by decide +kernel
theorem dX0_become_57 : decode cX0_become 57 = .ok (.getfield 28, 3) := by decide +kernel
theorem dX0_become_60 : decode cX0_become 60 = .ok (.invokestatic 37, 3) := by decide +kernel
theorem dX0_become_63 : decode cX0_become 63 = .ok (.aload_n 1, 1) := by decide +kernel
theorem dX0_become_64 : decode cX0_become 64 = .ok (.getfield 31, 3) := by decide +kernel
theorem dX0_become_67 : decode cX0_become 67 = .ok (.aload_n 0, 1) := by decide +kernel
theorem dX0_become_68 : decode cX0_become 68 = .ok (.getfield 31, 3) := by decide +kernel
theorem dX0_become_71 : decode cX0_become 71 = .ok (.invokestatic 37, 3) := by decide +kernel
theorem dX0_become_74 : decode cX0_become 74 = .ok (.aload_n 1, 1) := by decide +kernel
theorem dX0_become_75 : decode cX0_become 75 = .ok (.getfield 34, 3) := by decide +kernel
theorem dX0_become_78 : decode cX0_become 78 = .ok (.aload_n 0, 1) := by decide +kernel
theorem dX0_become_79 : decode cX0_become 79 = .ok (.getfield 34, 3) := by decide +kernel
theorem dX0_become_82 : decode cX0_become 82 = .ok (.invokestatic 37, 3) := by decide +kernel
theorem dX0_become_85 : decode cX0_become 85 = .ok (.return_, 1) := by decide +kernel
theorem dX0_exists_0 : decode cX0_exists 0 = .ok (.iload_n 1, 1) := by decide +kernel
theorem dX0_exists_1 : decode cX0_exists 1 = .ok (.ifCond .lt 15, 3) := by decide +kernel
theorem dX0_exists_4 : decode cX0_exists 4 = .ok (.iload_n 1, 1) := by decide +kernel
theorem dX0_exists_5 : decode cX0_exists 5 = .ok (.aload_n 0, 1) := by decide +kernel
theorem dX0_exists_6 : decode cX0_exists 6 = .ok (.getfield 9, 3) := by decide +kernel
theorem dX0_exists_9 : decode cX0_exists 9 = .ok (.if_icmp .ge 7, 3) := by decide +kernel
theorem dX0_exists_12 : decode cX0_exists 12 = .ok (.iconst 1, 1) := by decide +kernel
theorem dX0_exists_13 : decode cX0_exists 13 = .ok (.goto 4, 3) := by decide +kernel
theorem dX0_exists_16 : decode cX0_exists 16 = .ok (.iconst 0, 1) := by decide +kernel
theorem dX0_exists_17 : decode cX0_exists 17 = .ok (.ireturn, 1) := by decide +kernel
theorem dX0_isOpen_0 : decode cX0_isOpen 0 = .ok (.aload_n 0, 1) := by decide +kernel
theorem dX0_isOpen_1 : decode cX0_isOpen 1 = .ok (.getfield 28, 3) := by decide +kernel
theorem dX0_isOpen_4 : decode cX0_isOpen 4 = .ok (.iload_n 1, 1) := by decide +kernel
theorem dX0_isOpen_5 : decode cX0_isOpen 5 = .ok (.iaload, 1) := by decide +kernel
theorem dX0_isOpen_6 : decode cX0_isOpen 6 = .ok (.ifCond .ne 7, 3) := by decide +kernel
theorem dX0_isOpen_9 : decode cX0_isOpen 9 = .ok (.iconst 1, 1) := by decide +kernel
theorem dX0_isOpen_10 : decode cX0_isOpen 10 = .ok (.goto 4, 3) := by decide +kernel
theorem dX0_isOpen_13 : decode cX0_isOpen 13 = .ok (.iconst 0, 1) := by decide +kernel
theorem dX0_isOpen_14 : decode cX0_isOpen 14 = .ok (.ireturn, 1) := by decide +kernel
theorem dX0_stands_0 : decode cX0_stands 0 = .ok (.aload_n 0, 1) := by decide +kernel
theorem dX0_stands_1 : decode cX0_stands 1 = .ok (.getfield 28, 3) := by decide +kernel
theorem dX0_stands_4 : decode cX0_stands 4 = .ok (.iload_n 1, 1) := by decide +kernel
theorem dX0_stands_5 : decode cX0_stands 5 = .ok (.iaload, 1) := by decide +kernel
theorem dX0_stands_6 : decode cX0_stands 6 = .ok (.ifCond .eq 13, 3) := by decide +kernel
theorem dX0_stands_9 : decode cX0_stands 9 = .ok (.aload_n 0, 1) := by decide +kernel
theorem dX0_stands_10 : decode cX0_stands 10 = .ok (.getfield 28, 3) := by decide +kernel
theorem dX0_stands_13 : decode cX0_stands 13 = .ok (.iload_n 1, 1) := by decide +kernel
theorem dX0_stands_14 : decode cX0_stands 14 = .ok (.iaload, 1) := by decide +kernel
theorem dX0_stands_15 : decode cX0_stands 15 = .ok (.iconst 1, 1) := by decide +kernel
theorem dX0_stands_16 : decode cX0_stands 16 = .ok (.if_icmp .ne 7, 3) := by decide +kernel
theorem dX0_stands_19 : decode cX0_stands 19 = .ok (.iconst 1, 1) := by decide +kernel
theorem dX0_stands_20 : decode cX0_stands 20 = .ok (.goto 4, 3) := by decide +kernel
theorem dX0_stands_23 : decode cX0_stands 23 = .ok (.iconst 0, 1) := by decide +kernel
theorem dX0_stands_24 : decode cX0_stands 24 = .ok (.ireturn, 1) := by decide +kernel
theorem dX0_all_0 : decode cX0_all 0 = .ok (.aload_n 0, 1) := by decide +kernel
theorem dX0_all_1 : decode cX0_all 1 = .ok (.getfield 9, 3) := by decide +kernel
theorem dX0_all_4 : decode cX0_all 4 = .ok (.invokestatic 41, 3) := by decide +kernel
theorem dX0_all_7 : decode cX0_all 7 = .ok (.ireturn, 1) := by decide +kernel
theorem dX0_inState_0 : decode cX0_inState 0 = .ok (.aload_n 0, 1) := by decide +kernel
theorem dX0_inState_1 : decode cX0_inState 1 = .ok (.getfield 28, 3) := by decide +kernel
theorem dX0_inState_4 : decode cX0_inState 4 = .ok (.aload_n 0, 1) := by decide +kernel
theorem dX0_inState_5 : decode cX0_inState 5 = .ok (.getfield 9, 3) := by decide +kernel
theorem dX0_inState_8 : decode cX0_inState 8 = .ok (.iload_n 1, 1) := by decide +kernel
theorem dX0_inState_9 : decode cX0_inState 9 = .ok (.invokestatic 45, 3) := by decide +kernel
theorem dX0_inState_12 : decode cX0_inState 12 = .ok (.ireturn, 1) := by decide +kernel
theorem dX0_standing_0 : decode cX0_standing 0 = .ok (.aload_n 0, 1) := by decide +kernel
theorem dX0_standing_1 : decode cX0_standing 1 = .ok (.iconst 0, 1) := by decide +kernel
theorem dX0_standing_2 : decode cX0_standing 2 = .ok (.invokevirtual 49, 3) := by decide +kernel
theorem dX0_standing_5 : decode cX0_standing 5 = .ok (.aload_n 0, 1) := by decide +kernel
theorem dX0_standing_6 : decode cX0_standing 6 = .ok (.iconst 1, 1) := by decide +kernel
theorem dX0_standing_7 : decode cX0_standing 7 = .ok (.invokevirtual 49, 3) := by decide +kernel
theorem dX0_standing_10 : decode cX0_standing 10 = .ok (.ior, 1) := by decide +kernel
theorem dX0_standing_11 : decode cX0_standing 11 = .ok (.ireturn, 1) := by decide +kernel
theorem dX0_ofHeir_0 : decode cX0_ofHeir 0 = .ok (.aload_n 0, 1) := by decide +kernel
theorem dX0_ofHeir_1 : decode cX0_ofHeir 1 = .ok (.getfield 15, 3) := by decide +kernel
theorem dX0_ofHeir_4 : decode cX0_ofHeir 4 = .ok (.aload_n 0, 1) := by decide +kernel
theorem dX0_ofHeir_5 : decode cX0_ofHeir 5 = .ok (.getfield 9, 3) := by decide +kernel
theorem dX0_ofHeir_8 : decode cX0_ofHeir 8 = .ok (.iload_n 1, 1) := by decide +kernel
theorem dX0_ofHeir_9 : decode cX0_ofHeir 9 = .ok (.invokestatic 45, 3) := by decide +kernel
theorem dX0_ofHeir_12 : decode cX0_ofHeir 12 = .ok (.ireturn, 1) := by decide +kernel
theorem dX0_toLot_0 : decode cX0_toLot 0 = .ok (.aload_n 0, 1) := by decide +kernel
theorem dX0_toLot_1 : decode cX0_toLot 1 = .ok (.getfield 19, 3) := by decide +kernel
theorem dX0_toLot_4 : decode cX0_toLot 4 = .ok (.aload_n 0, 1) := by decide +kernel
theorem dX0_toLot_5 : decode cX0_toLot 5 = .ok (.getfield 9, 3) := by decide +kernel
theorem dX0_toLot_8 : decode cX0_toLot 8 = .ok (.iload_n 1, 1) := by decide +kernel
theorem dX0_toLot_9 : decode cX0_toLot 9 = .ok (.invokestatic 45, 3) := by decide +kernel
theorem dX0_toLot_12 : decode cX0_toLot 12 = .ok (.ireturn, 1) := by decide +kernel
theorem dX0_openTo_0 : decode cX0_openTo 0 = .ok (.aload_n 0, 1) := by decide +kernel
theorem dX0_openTo_1 : decode cX0_openTo 1 = .ok (.iload_n 1, 1) := by decide +kernel
theorem dX0_openTo_2 : decode cX0_openTo 2 = .ok (.invokevirtual 52, 3) := by decide +kernel
theorem dX0_openTo_5 : decode cX0_openTo 5 = .ok (.aload_n 0, 1) := by decide +kernel
theorem dX0_openTo_6 : decode cX0_openTo 6 = .ok (.iconst 0, 1) := by decide +kernel
theorem dX0_openTo_7 : decode cX0_openTo 7 = .ok (.invokevirtual 49, 3) := by decide +kernel
theorem dX0_openTo_10 : decode cX0_openTo 10 = .ok (.iand, 1) := by decide +kernel
theorem dX0_openTo_11 : decode cX0_openTo 11 = .ok (.ireturn, 1) := by decide +kernel
theorem dX0_upheldTo_0 : decode cX0_upheldTo 0 = .ok (.aload_n 0, 1) := by decide +kernel
theorem dX0_upheldTo_1 : decode cX0_upheldTo 1 = .ok (.iload_n 1, 1) := by decide +kernel
theorem dX0_upheldTo_2 : decode cX0_upheldTo 2 = .ok (.invokevirtual 52, 3) := by decide +kernel
theorem dX0_upheldTo_5 : decode cX0_upheldTo 5 = .ok (.aload_n 0, 1) := by decide +kernel
theorem dX0_upheldTo_6 : decode cX0_upheldTo 6 = .ok (.iconst 1, 1) := by decide +kernel
theorem dX0_upheldTo_7 : decode cX0_upheldTo 7 = .ok (.invokevirtual 49, 3) := by decide +kernel
theorem dX0_upheldTo_10 : decode cX0_upheldTo 10 = .ok (.iand, 1) := by decide +kernel
theorem dX0_upheldTo_11 : decode cX0_upheldTo 11 = .ok (.ireturn, 1) := by decide +kernel
theorem dX0_standingTo_0 : decode cX0_standingTo 0 = .ok (.aload_n 0, 1) := by decide +kernel
theorem dX0_standingTo_1 : decode cX0_standingTo 1 = .ok (.iload_n 1, 1) := by decide +kernel
theorem dX0_standingTo_2 : decode cX0_standingTo 2 = .ok (.invokevirtual 52, 3) := by decide +kernel
theorem dX0_standingTo_5 : decode cX0_standingTo 5 = .ok (.aload_n 0, 1) := by decide +kernel
theorem dX0_standingTo_6 : decode cX0_standingTo 6 = .ok (.invokevirtual 55, 3) := by decide +kernel
theorem dX0_standingTo_9 : decode cX0_standingTo 9 = .ok (.iand, 1) := by decide +kernel
theorem dX0_standingTo_10 : decode cX0_standingTo 10 = .ok (.ireturn, 1) := by decide +kernel
theorem dX0_thatBrought_0 : decode cX0_thatBrought 0 = .ok (.aload_n 0, 1) := by decide +kernel
theorem dX0_thatBrought_1 : decode cX0_thatBrought 1 = .ok (.invokevirtual 59, 3) := by decide +kernel
theorem dX0_thatBrought_4 : decode cX0_thatBrought 4 = .ok (.aload_n 0, 1) := by decide +kernel
theorem dX0_thatBrought_5 : decode cX0_thatBrought 5 = .ok (.getfield 34, 3) := by decide +kernel
theorem dX0_thatBrought_8 : decode cX0_thatBrought 8 = .ok (.aload_n 0, 1) := by decide +kernel
theorem dX0_thatBrought_9 : decode cX0_thatBrought 9 = .ok (.getfield 9, 3) := by decide +kernel
theorem dX0_thatBrought_12 : decode cX0_thatBrought 12 = .ok (.iconst 0, 1) := by decide +kernel
theorem dX0_thatBrought_13 : decode cX0_thatBrought 13 = .ok (.invokestatic 45, 3) := by decide +kernel
theorem dX0_thatBrought_16 : decode cX0_thatBrought 16 = .ok (.iconst (-1), 1) := by decide +kernel
theorem dX0_thatBrought_17 : decode cX0_thatBrought 17 = .ok (.ixor, 1) := by decide +kernel
theorem dX0_thatBrought_18 : decode cX0_thatBrought 18 = .ok (.iand, 1) := by decide +kernel
theorem dX0_thatBrought_19 : decode cX0_thatBrought 19 = .ok (.ireturn, 1) := by decide +kernel
theorem dX0_nearestLine_0 : decode cX0_nearestLine 0 = .ok (.bipush (-6), 2) := by decide +kernel
theorem dX0_nearestLine_2 : decode cX0_nearestLine 2 = .ok (.istore_n 2, 1) := by decide +kernel
theorem dX0_nearestLine_3 : decode cX0_nearestLine 3 = .ok (.iconst 0, 1) := by decide +kernel
theorem dX0_nearestLine_4 : decode cX0_nearestLine 4 = .ok (.istore_n 3, 1) := by decide +kernel
theorem dX0_nearestLine_5 : decode cX0_nearestLine 5 = .ok (.iload_n 3, 1) := by decide +kernel
theorem dX0_nearestLine_6 : decode cX0_nearestLine 6 = .ok (.aload_n 0, 1) := by decide +kernel
theorem dX0_nearestLine_7 : decode cX0_nearestLine 7 = .ok (.getfield 9, 3) := by decide +kernel
theorem dX0_nearestLine_10 : decode cX0_nearestLine 10 = .ok (.if_icmp .ge 40, 3) := by decide +kernel
theorem dX0_nearestLine_13 : decode cX0_nearestLine 13 = .ok (.iload_n 1, 1) := by decide +kernel
theorem dX0_nearestLine_14 : decode cX0_nearestLine 14 = .ok (.iload_n 3, 1) := by decide +kernel
theorem dX0_nearestLine_15 : decode cX0_nearestLine 15 = .ok (.invokestatic 62, 3) := by decide +kernel
theorem dX0_nearestLine_18 : decode cX0_nearestLine 18 = .ok (.ifCond .eq 26, 3) := by decide +kernel
theorem dX0_nearestLine_21 : decode cX0_nearestLine 21 = .ok (.iload_n 2, 1) := by decide +kernel
theorem dX0_nearestLine_22 : decode cX0_nearestLine 22 = .ok (.bipush (-6), 2) := by decide +kernel
theorem dX0_nearestLine_24 : decode cX0_nearestLine 24 = .ok (.if_icmp .eq 13, 3) := by decide +kernel
theorem dX0_nearestLine_27 : decode cX0_nearestLine 27 = .ok (.aload_n 0, 1) := by decide +kernel
theorem dX0_nearestLine_28 : decode cX0_nearestLine 28 = .ok (.getfield 22, 3) := by decide +kernel
theorem dX0_nearestLine_31 : decode cX0_nearestLine 31 = .ok (.iload_n 3, 1) := by decide +kernel
theorem dX0_nearestLine_32 : decode cX0_nearestLine 32 = .ok (.iaload, 1) := by decide +kernel
theorem dX0_nearestLine_33 : decode cX0_nearestLine 33 = .ok (.iload_n 2, 1) := by decide +kernel
theorem dX0_nearestLine_34 : decode cX0_nearestLine 34 = .ok (.if_icmp .ge 10, 3) := by decide +kernel
theorem dX0_nearestLine_37 : decode cX0_nearestLine 37 = .ok (.aload_n 0, 1) := by decide +kernel
theorem dX0_nearestLine_38 : decode cX0_nearestLine 38 = .ok (.getfield 22, 3) := by decide +kernel
theorem dX0_nearestLine_41 : decode cX0_nearestLine 41 = .ok (.iload_n 3, 1) := by decide +kernel
theorem dX0_nearestLine_42 : decode cX0_nearestLine 42 = .ok (.iaload, 1) := by decide +kernel
theorem dX0_nearestLine_43 : decode cX0_nearestLine 43 = .ok (.istore_n 2, 1) := by decide +kernel
theorem dX0_nearestLine_44 : decode cX0_nearestLine 44 = .ok (.iinc 3 1, 3) := by decide +kernel
theorem dX0_nearestLine_47 : decode cX0_nearestLine 47 = .ok (.goto (-42), 3) := by decide +kernel
theorem dX0_nearestLine_50 : decode cX0_nearestLine 50 = .ok (.iload_n 2, 1) := by decide +kernel
theorem dX0_nearestLine_51 : decode cX0_nearestLine 51 = .ok (.ireturn, 1) := by decide +kernel
theorem dX0_nearest_0 : decode cX0_nearest 0 = .ok (.iload_n 1, 1) := by decide +kernel
theorem dX0_nearest_1 : decode cX0_nearest 1 = .ok (.aload_n 0, 1) := by decide +kernel
theorem dX0_nearest_2 : decode cX0_nearest 2 = .ok (.getfield 22, 3) := by decide +kernel
theorem dX0_nearest_5 : decode cX0_nearest 5 = .ok (.aload_n 0, 1) := by decide +kernel
theorem dX0_nearest_6 : decode cX0_nearest 6 = .ok (.getfield 9, 3) := by decide +kernel
theorem dX0_nearest_9 : decode cX0_nearest 9 = .ok (.aload_n 0, 1) := by decide +kernel
theorem dX0_nearest_10 : decode cX0_nearest 10 = .ok (.iload_n 1, 1) := by decide +kernel
theorem dX0_nearest_11 : decode cX0_nearest 11 = .ok (.invokevirtual 66, 3) := by decide +kernel
theorem dX0_nearest_14 : decode cX0_nearest 14 = .ok (.invokestatic 45, 3) := by decide +kernel
theorem dX0_nearest_17 : decode cX0_nearest 17 = .ok (.iand, 1) := by decide +kernel
theorem dX0_nearest_18 : decode cX0_nearest 18 = .ok (.ireturn, 1) := by decide +kernel
theorem dX0_waitOneDay_0 : decode cX0_waitOneDay 0 = .ok (.iconst 0, 1) := by decide +kernel
theorem dX0_waitOneDay_1 : decode cX0_waitOneDay 1 = .ok (.istore_n 2, 1) := by decide +kernel
theorem dX0_waitOneDay_2 : decode cX0_waitOneDay 2 = .ok (.iconst 0, 1) := by decide +kernel
theorem dX0_waitOneDay_3 : decode cX0_waitOneDay 3 = .ok (.istore_n 3, 1) := by decide +kernel
theorem dX0_waitOneDay_4 : decode cX0_waitOneDay 4 = .ok (.iload_n 3, 1) := by decide +kernel
theorem dX0_waitOneDay_5 : decode cX0_waitOneDay 5 = .ok (.aload_n 0, 1) := by decide +kernel
theorem dX0_waitOneDay_6 : decode cX0_waitOneDay 6 = .ok (.getfield 9, 3) := by decide +kernel
theorem dX0_waitOneDay_9 : decode cX0_waitOneDay 9 = .ok (.if_icmp .ge 42, 3) := by decide +kernel
theorem dX0_waitOneDay_12 : decode cX0_waitOneDay 12 = .ok (.aload_n 0, 1) := by decide +kernel
theorem dX0_waitOneDay_13 : decode cX0_waitOneDay 13 = .ok (.iload_n 3, 1) := by decide +kernel
theorem dX0_waitOneDay_14 : decode cX0_waitOneDay 14 = .ok (.invokevirtual 69, 3) := by decide +kernel
theorem dX0_waitOneDay_17 : decode cX0_waitOneDay 17 = .ok (.ifCond .eq 9, 3) := by decide +kernel
theorem dX0_waitOneDay_20 : decode cX0_waitOneDay 20 = .ok (.aload_n 0, 1) := by decide +kernel
theorem dX0_waitOneDay_21 : decode cX0_waitOneDay 21 = .ok (.iload_n 3, 1) := by decide +kernel
theorem dX0_waitOneDay_22 : decode cX0_waitOneDay 22 = .ok (.iload_n 1, 1) := by decide +kernel
theorem dX0_waitOneDay_23 : decode cX0_waitOneDay 23 = .ok (.invokevirtual 73, 3) := by decide +kernel
theorem dX0_waitOneDay_26 : decode cX0_waitOneDay 26 = .ok (.aload_n 0, 1) := by decide +kernel
theorem dX0_waitOneDay_27 : decode cX0_waitOneDay 27 = .ok (.iload_n 3, 1) := by decide +kernel
theorem dX0_waitOneDay_28 : decode cX0_waitOneDay 28 = .ok (.invokevirtual 77, 3) := by decide +kernel
theorem dX0_waitOneDay_31 : decode cX0_waitOneDay 31 = .ok (.ifCond .eq 14, 3) := by decide +kernel
theorem dX0_waitOneDay_34 : decode cX0_waitOneDay 34 = .ok (.iload_n 2, 1) := by decide +kernel
theorem dX0_waitOneDay_35 : decode cX0_waitOneDay 35 = .ok (.iconst 1, 1) := by decide +kernel
theorem dX0_waitOneDay_36 : decode cX0_waitOneDay 36 = .ok (.aload_n 0, 1) := by decide +kernel
theorem dX0_waitOneDay_37 : decode cX0_waitOneDay 37 = .ok (.getfield 19, 3) := by decide +kernel
theorem dX0_waitOneDay_40 : decode cX0_waitOneDay 40 = .ok (.iload_n 3, 1) := by decide +kernel
theorem dX0_waitOneDay_41 : decode cX0_waitOneDay 41 = .ok (.iaload, 1) := by decide +kernel
theorem dX0_waitOneDay_42 : decode cX0_waitOneDay 42 = .ok (.ishl, 1) := by decide +kernel
theorem dX0_waitOneDay_43 : decode cX0_waitOneDay 43 = .ok (.ior, 1) := by decide +kernel
theorem dX0_waitOneDay_44 : decode cX0_waitOneDay 44 = .ok (.istore_n 2, 1) := by decide +kernel
theorem dX0_waitOneDay_45 : decode cX0_waitOneDay 45 = .ok (.iinc 3 1, 3) := by decide +kernel
theorem dX0_waitOneDay_48 : decode cX0_waitOneDay 48 = .ok (.goto (-44), 3) := by decide +kernel
theorem dX0_waitOneDay_51 : decode cX0_waitOneDay 51 = .ok (.iload_n 2, 1) := by decide +kernel
theorem dX0_waitOneDay_52 : decode cX0_waitOneDay 52 = .ok (.ireturn, 1) := by decide +kernel
theorem dX0_waitLonger_0 : decode cX0_waitLonger 0 = .ok (.aload_n 0, 1) := by decide +kernel
theorem dX0_waitLonger_1 : decode cX0_waitLonger 1 = .ok (.getfield 31, 3) := by decide +kernel
theorem dX0_waitLonger_4 : decode cX0_waitLonger 4 = .ok (.iload_n 1, 1) := by decide +kernel
theorem dX0_waitLonger_5 : decode cX0_waitLonger 5 = .ok (.dup2, 1) := by decide +kernel
theorem dX0_waitLonger_6 : decode cX0_waitLonger 6 = .ok (.iaload, 1) := by decide +kernel
theorem dX0_waitLonger_7 : decode cX0_waitLonger 7 = .ok (.iconst 1, 1) := by decide +kernel
theorem dX0_waitLonger_8 : decode cX0_waitLonger 8 = .ok (.iadd, 1) := by decide +kernel
theorem dX0_waitLonger_9 : decode cX0_waitLonger 9 = .ok (.iastore, 1) := by decide +kernel
theorem dX0_waitLonger_10 : decode cX0_waitLonger 10 = .ok (.aload_n 0, 1) := by decide +kernel
theorem dX0_waitLonger_11 : decode cX0_waitLonger 11 = .ok (.getfield 31, 3) := by decide +kernel
theorem dX0_waitLonger_14 : decode cX0_waitLonger 14 = .ok (.iload_n 1, 1) := by decide +kernel
theorem dX0_waitLonger_15 : decode cX0_waitLonger 15 = .ok (.iaload, 1) := by decide +kernel
theorem dX0_waitLonger_16 : decode cX0_waitLonger 16 = .ok (.iload_n 2, 1) := by decide +kernel
theorem dX0_waitLonger_17 : decode cX0_waitLonger 17 = .ok (.if_icmp .lt 10, 3) := by decide +kernel
theorem dX0_waitLonger_20 : decode cX0_waitLonger 20 = .ok (.aload_n 0, 1) := by decide +kernel
theorem dX0_waitLonger_21 : decode cX0_waitLonger 21 = .ok (.getfield 28, 3) := by decide +kernel
theorem dX0_waitLonger_24 : decode cX0_waitLonger 24 = .ok (.iload_n 1, 1) := by decide +kernel
theorem dX0_waitLonger_25 : decode cX0_waitLonger 25 = .ok (.iconst 4, 1) := by decide +kernel
theorem dX0_waitLonger_26 : decode cX0_waitLonger 26 = .ok (.iastore, 1) := by decide +kernel
theorem dX0_waitLonger_27 : decode cX0_waitLonger 27 = .ok (.return_, 1) := by decide +kernel
theorem dX1_init_0 : decode cX1_init 0 = .ok (.aload_n 0, 1) := by decide +kernel
theorem dX1_init_1 : decode cX1_init 1 = .ok (.invokespecial 3, 3) := by decide +kernel
theorem dX1_init_4 : decode cX1_init 4 = .ok (.aload_n 0, 1) := by decide +kernel
theorem dX1_init_5 : decode cX1_init 5 = .ok (.iconst 0, 1) := by decide +kernel
theorem dX1_init_6 : decode cX1_init 6 = .ok (.putfield 9, 3) := by decide +kernel
theorem dX1_init_9 : decode cX1_init 9 = .ok (.aload_n 0, 1) := by decide +kernel
theorem dX1_init_10 : decode cX1_init 10 = .ok (.bipush 12, 2) := by decide +kernel
theorem dX1_init_12 : decode cX1_init 12 = .ok (.newarray .int, 2) := by decide +kernel
theorem dX1_init_14 : decode cX1_init 14 = .ok (.putfield 15, 3) := by decide +kernel
theorem dX1_init_17 : decode cX1_init 17 = .ok (.aload_n 0, 1) := by decide +kernel
theorem dX1_init_18 : decode cX1_init 18 = .ok (.bipush 12, 2) := by decide +kernel
theorem dX1_init_20 : decode cX1_init 20 = .ok (.newarray .int, 2) := by decide +kernel
theorem dX1_init_22 : decode cX1_init 22 = .ok (.putfield 19, 3) := by decide +kernel
theorem dX1_init_25 : decode cX1_init 25 = .ok (.aload_n 0, 1) := by decide +kernel
theorem dX1_init_26 : decode cX1_init 26 = .ok (.bipush 12, 2) := by decide +kernel
theorem dX1_init_28 : decode cX1_init 28 = .ok (.newarray .int, 2) := by decide +kernel
theorem dX1_init_30 : decode cX1_init 30 = .ok (.putfield 22, 3) := by decide +kernel
theorem dX1_init_33 : decode cX1_init 33 = .ok (.aload_n 0, 1) := by decide +kernel
theorem dX1_init_34 : decode cX1_init 34 = .ok (.bipush 12, 2) := by decide +kernel
theorem dX1_init_36 : decode cX1_init 36 = .ok (.newarray .int, 2) := by decide +kernel
theorem dX1_init_38 : decode cX1_init 38 = .ok (.putfield 25, 3) := by decide +kernel
theorem dX1_init_41 : decode cX1_init 41 = .ok (.return_, 1) := by decide +kernel
theorem dX1_become_0 : decode cX1_become 0 = .ok (.aload_n 0, 1) := by decide +kernel
theorem dX1_become_1 : decode cX1_become 1 = .ok (.aload_n 1, 1) := by decide +kernel
theorem dX1_become_2 : decode cX1_become 2 = .ok (.getfield 9, 3) := by decide +kernel
theorem dX1_become_5 : decode cX1_become 5 = .ok (.putfield 9, 3) := by decide +kernel
theorem dX1_become_8 : decode cX1_become 8 = .ok (.aload_n 1, 1) := by decide +kernel
theorem dX1_become_9 : decode cX1_become 9 = .ok (.getfield 15, 3) := by decide +kernel
theorem dX1_become_12 : decode cX1_become 12 = .ok (.aload_n 0, 1) := by decide +kernel
theorem dX1_become_13 : decode cX1_become 13 = .ok (.getfield 15, 3) := by decide +kernel
theorem dX1_become_16 : decode cX1_become 16 = .ok (.invokestatic 28, 3) := by decide +kernel
theorem dX1_become_19 : decode cX1_become 19 = .ok (.aload_n 1, 1) := by decide +kernel
theorem dX1_become_20 : decode cX1_become 20 = .ok (.getfield 19, 3) := by decide +kernel
theorem dX1_become_23 : decode cX1_become 23 = .ok (.aload_n 0, 1) := by decide +kernel
theorem dX1_become_24 : decode cX1_become 24 = .ok (.getfield 19, 3) := by decide +kernel
theorem dX1_become_27 : decode cX1_become 27 = .ok (.invokestatic 28, 3) := by decide +kernel
theorem dX1_become_30 : decode cX1_become 30 = .ok (.aload_n 1, 1) := by decide +kernel
theorem dX1_become_31 : decode cX1_become 31 = .ok (.getfield 22, 3) := by decide +kernel
theorem dX1_become_34 : decode cX1_become 34 = .ok (.aload_n 0, 1) := by decide +kernel
theorem dX1_become_35 : decode cX1_become 35 = .ok (.getfield 22, 3) := by decide +kernel
theorem dX1_become_38 : decode cX1_become 38 = .ok (.invokestatic 28, 3) := by decide +kernel
theorem dX1_become_41 : decode cX1_become 41 = .ok (.aload_n 1, 1) := by decide +kernel
theorem dX1_become_42 : decode cX1_become 42 = .ok (.getfield 25, 3) := by decide +kernel
theorem dX1_become_45 : decode cX1_become 45 = .ok (.aload_n 0, 1) := by decide +kernel
theorem dX1_become_46 : decode cX1_become 46 = .ok (.getfield 25, 3) := by decide +kernel
theorem dX1_become_49 : decode cX1_become 49 = .ok (.invokestatic 28, 3) := by decide +kernel
theorem dX1_become_52 : decode cX1_become 52 = .ok (.return_, 1) := by decide +kernel
theorem dX1_exists_0 : decode cX1_exists 0 = .ok (.iload_n 1, 1) := by decide +kernel
theorem dX1_exists_1 : decode cX1_exists 1 = .ok (.ifCond .lt 15, 3) := by decide +kernel
theorem dX1_exists_4 : decode cX1_exists 4 = .ok (.iload_n 1, 1) := by decide +kernel
theorem dX1_exists_5 : decode cX1_exists 5 = .ok (.aload_n 0, 1) := by decide +kernel
theorem dX1_exists_6 : decode cX1_exists 6 = .ok (.getfield 9, 3) := by decide +kernel
theorem dX1_exists_9 : decode cX1_exists 9 = .ok (.if_icmp .ge 7, 3) := by decide +kernel
theorem dX1_exists_12 : decode cX1_exists 12 = .ok (.iconst 1, 1) := by decide +kernel
theorem dX1_exists_13 : decode cX1_exists 13 = .ok (.goto 4, 3) := by decide +kernel
theorem dX1_exists_16 : decode cX1_exists 16 = .ok (.iconst 0, 1) := by decide +kernel
theorem dX1_exists_17 : decode cX1_exists 17 = .ok (.ireturn, 1) := by decide +kernel
theorem dX1_all_0 : decode cX1_all 0 = .ok (.aload_n 0, 1) := by decide +kernel
theorem dX1_all_1 : decode cX1_all 1 = .ok (.getfield 9, 3) := by decide +kernel
theorem dX1_all_4 : decode cX1_all 4 = .ok (.invokestatic 32, 3) := by decide +kernel
theorem dX1_all_7 : decode cX1_all 7 = .ok (.ireturn, 1) := by decide +kernel
theorem dX1_inState_0 : decode cX1_inState 0 = .ok (.aload_n 0, 1) := by decide +kernel
theorem dX1_inState_1 : decode cX1_inState 1 = .ok (.getfield 19, 3) := by decide +kernel
theorem dX1_inState_4 : decode cX1_inState 4 = .ok (.aload_n 0, 1) := by decide +kernel
theorem dX1_inState_5 : decode cX1_inState 5 = .ok (.getfield 9, 3) := by decide +kernel
theorem dX1_inState_8 : decode cX1_inState 8 = .ok (.iload_n 1, 1) := by decide +kernel
theorem dX1_inState_9 : decode cX1_inState 9 = .ok (.invokestatic 36, 3) := by decide +kernel
theorem dX1_inState_12 : decode cX1_inState 12 = .ok (.ireturn, 1) := by decide +kernel
theorem dX1_isOver_0 : decode cX1_isOver 0 = .ok (.aload_n 0, 1) := by decide +kernel
theorem dX1_isOver_1 : decode cX1_isOver 1 = .ok (.getfield 19, 3) := by decide +kernel
theorem dX1_isOver_4 : decode cX1_isOver 4 = .ok (.iload_n 1, 1) := by decide +kernel
theorem dX1_isOver_5 : decode cX1_isOver 5 = .ok (.iaload, 1) := by decide +kernel
theorem dX1_isOver_6 : decode cX1_isOver 6 = .ok (.iconst 2, 1) := by decide +kernel
theorem dX1_isOver_7 : decode cX1_isOver 7 = .ok (.if_icmp .eq 13, 3) := by decide +kernel
theorem dX1_isOver_10 : decode cX1_isOver 10 = .ok (.aload_n 0, 1) := by decide +kernel
theorem dX1_isOver_11 : decode cX1_isOver 11 = .ok (.getfield 19, 3) := by decide +kernel
theorem dX1_isOver_14 : decode cX1_isOver 14 = .ok (.iload_n 1, 1) := by decide +kernel
theorem dX1_isOver_15 : decode cX1_isOver 15 = .ok (.iaload, 1) := by decide +kernel
theorem dX1_isOver_16 : decode cX1_isOver 16 = .ok (.iconst 4, 1) := by decide +kernel
theorem dX1_isOver_17 : decode cX1_isOver 17 = .ok (.if_icmp .ne 7, 3) := by decide +kernel
theorem dX1_isOver_20 : decode cX1_isOver 20 = .ok (.iconst 1, 1) := by decide +kernel
theorem dX1_isOver_21 : decode cX1_isOver 21 = .ok (.goto 4, 3) := by decide +kernel
theorem dX1_isOver_24 : decode cX1_isOver 24 = .ok (.iconst 0, 1) := by decide +kernel
theorem dX1_isOver_25 : decode cX1_isOver 25 = .ok (.ireturn, 1) := by decide +kernel
theorem dX2_init_0 : decode cX2_init 0 = .ok (.aload_n 0, 1) := by decide +kernel
theorem dX2_init_1 : decode cX2_init 1 = .ok (.invokespecial 3, 3) := by decide +kernel
theorem dX2_init_4 : decode cX2_init 4 = .ok (.aload_n 0, 1) := by decide +kernel
theorem dX2_init_5 : decode cX2_init 5 = .ok (.iconst 5, 1) := by decide +kernel
theorem dX2_init_6 : decode cX2_init 6 = .ok (.newarray .int, 2) := by decide +kernel
theorem dX2_init_8 : decode cX2_init 8 = .ok (.putfield 9, 3) := by decide +kernel
theorem dX2_init_11 : decode cX2_init 11 = .ok (.aload_n 0, 1) := by decide +kernel
theorem dX2_init_12 : decode cX2_init 12 = .ok (.new 15, 3) := by decide +kernel
theorem dX2_init_15 : decode cX2_init 15 = .ok (.dup, 1) := by decide +kernel
theorem dX2_init_16 : decode cX2_init 16 = .ok (.invokespecial 17, 3) := by decide +kernel
theorem dX2_init_19 : decode cX2_init 19 = .ok (.putfield 18, 3) := by decide +kernel
theorem dX2_init_22 : decode cX2_init 22 = .ok (.aload_n 0, 1) := by decide +kernel
theorem dX2_init_23 : decode cX2_init 23 = .ok (.new 22, 3) := by decide +kernel
theorem dX2_init_26 : decode cX2_init 26 = .ok (.dup, 1) := by decide +kernel
theorem dX2_init_27 : decode cX2_init 27 = .ok (.invokespecial 24, 3) := by decide +kernel
theorem dX2_init_30 : decode cX2_init 30 = .ok (.putfield 25, 3) := by decide +kernel
theorem dX2_init_33 : decode cX2_init 33 = .ok (.aload_n 0, 1) := by decide +kernel
theorem dX2_init_34 : decode cX2_init 34 = .ok (.bipush 16, 2) := by decide +kernel
theorem dX2_init_36 : decode cX2_init 36 = .ok (.newarray .int, 2) := by decide +kernel
theorem dX2_init_38 : decode cX2_init 38 = .ok (.putfield 29, 3) := by decide +kernel
theorem dX2_init_41 : decode cX2_init 41 = .ok (.aload_n 0, 1) := by decide +kernel
theorem dX2_init_42 : decode cX2_init 42 = .ok (.iconst 0, 1) := by decide +kernel
theorem dX2_init_43 : decode cX2_init 43 = .ok (.putfield 32, 3) := by decide +kernel
theorem dX2_init_46 : decode cX2_init 46 = .ok (.aload_n 0, 1) := by decide +kernel
theorem dX2_init_47 : decode cX2_init 47 = .ok (.iconst 0, 1) := by decide +kernel
theorem dX2_init_48 : decode cX2_init 48 = .ok (.putfield 36, 3) := by decide +kernel
theorem dX2_init_51 : decode cX2_init 51 = .ok (.aload_n 0, 1) := by decide +kernel
theorem dX2_init_52 : decode cX2_init 52 = .ok (.iconst 0, 1) := by decide +kernel
theorem dX2_init_53 : decode cX2_init 53 = .ok (.putfield 39, 3) := by decide +kernel
theorem dX2_init_56 : decode cX2_init 56 = .ok (.getstatic 42, 3) := by decide +kernel
theorem dX2_init_59 : decode cX2_init 59 = .ok (.aload_n 0, 1) := by decide +kernel
theorem dX2_init_60 : decode cX2_init 60 = .ok (.getfield 9, 3) := by decide +kernel
theorem dX2_init_63 : decode cX2_init 63 = .ok (.invokestatic 45, 3) := by decide +kernel
theorem dX2_init_66 : decode cX2_init 66 = .ok (.return_, 1) := by decide +kernel
theorem dX2_become_0 : decode cX2_become 0 = .ok (.aload_n 1, 1) := by decide +kernel
theorem dX2_become_1 : decode cX2_become 1 = .ok (.getfield 9, 3) := by decide +kernel
theorem dX2_become_4 : decode cX2_become 4 = .ok (.aload_n 0, 1) := by decide +kernel
theorem dX2_become_5 : decode cX2_become 5 = .ok (.getfield 9, 3) := by decide +kernel
theorem dX2_become_8 : decode cX2_become 8 = .ok (.invokestatic 45, 3) := by decide +kernel
theorem dX2_become_11 : decode cX2_become 11 = .ok (.aload_n 0, 1) := by decide +kernel
theorem dX2_become_12 : decode cX2_become 12 = .ok (.getfield 18, 3) := by decide +kernel
theorem dX2_become_15 : decode cX2_become 15 = .ok (.aload_n 1, 1) := by decide +kernel
theorem dX2_become_16 : decode cX2_become 16 = .ok (.getfield 18, 3) := by decide +kernel
theorem dX2_become_19 : decode cX2_become 19 = .ok (.invokevirtual 49, 3) := by decide +kernel
theorem dX2_become_22 : decode cX2_become 22 = .ok (.aload_n 0, 1) := by decide +kernel
theorem dX2_become_23 : decode cX2_become 23 = .ok (.getfield 25, 3) := by decide +kernel
theorem dX2_become_26 : decode cX2_become 26 = .ok (.aload_n 1, 1) := by decide +kernel
theorem dX2_become_27 : decode cX2_become 27 = .ok (.getfield 25, 3) := by decide +kernel
theorem dX2_become_30 : decode cX2_become 30 = .ok (.invokevirtual 53, 3) := by decide +kernel
theorem dX2_become_33 : decode cX2_become 33 = .ok (.aload_n 1, 1) := by decide +kernel
theorem dX2_become_34 : decode cX2_become 34 = .ok (.getfield 29, 3) := by decide +kernel
theorem dX2_become_37 : decode cX2_become 37 = .ok (.aload_n 0, 1) := by decide +kernel
theorem dX2_become_38 : decode cX2_become 38 = .ok (.getfield 29, 3) := by decide +kernel
theorem dX2_become_41 : decode cX2_become 41 = .ok (.invokestatic 45, 3) := by decide +kernel
theorem dX2_become_44 : decode cX2_become 44 = .ok (.aload_n 0, 1) := by decide +kernel
theorem dX2_become_45 : decode cX2_become 45 = .ok (.aload_n 1, 1) := by decide +kernel
theorem dX2_become_46 : decode cX2_become 46 = .ok (.getfield 32, 3) := by decide +kernel
theorem dX2_become_49 : decode cX2_become 49 = .ok (.putfield 32, 3) := by decide +kernel
theorem dX2_become_52 : decode cX2_become 52 = .ok (.aload_n 0, 1) := by decide +kernel
theorem dX2_become_53 : decode cX2_become 53 = .ok (.aload_n 1, 1) := by decide +kernel
theorem dX2_become_54 : decode cX2_become 54 = .ok (.getfield 36, 3) := by decide +kernel
theorem dX2_become_57 : decode cX2_become 57 = .ok (.putfield 36, 3) := by decide +kernel
theorem dX2_become_60 : decode cX2_become 60 = .ok (.aload_n 0, 1) := by decide +kernel
theorem dX2_become_61 : decode cX2_become 61 = .ok (.aload_n 1, 1) := by decide +kernel
theorem dX2_become_62 : decode cX2_become 62 = .ok (.getfield 39, 3) := by decide +kernel
theorem dX2_become_65 : decode cX2_become 65 = .ok (.putfield 39, 3) := by decide +kernel
theorem dX2_become_68 : decode cX2_become 68 = .ok (.return_, 1) := by decide +kernel
theorem dX2_isHeir_0 : decode cX2_isHeir 0 = .ok (.iload_n 0, 1) := by decide +kernel
theorem dX2_isHeir_1 : decode cX2_isHeir 1 = .ok (.ifCond .lt 13, 3) := by decide +kernel
theorem dX2_isHeir_4 : decode cX2_isHeir 4 = .ok (.iload_n 0, 1) := by decide +kernel
theorem dX2_isHeir_5 : decode cX2_isHeir 5 = .ok (.bipush 16, 2) := by decide +kernel
theorem dX2_isHeir_7 : decode cX2_isHeir 7 = .ok (.if_icmp .ge 7, 3) := by decide +kernel
theorem dX2_isHeir_10 : decode cX2_isHeir 10 = .ok (.iconst 1, 1) := by decide +kernel
theorem dX2_isHeir_11 : decode cX2_isHeir 11 = .ok (.goto 4, 3) := by decide +kernel
theorem dX2_isHeir_14 : decode cX2_isHeir 14 = .ok (.iconst 0, 1) := by decide +kernel
theorem dX2_isHeir_15 : decode cX2_isHeir 15 = .ok (.ireturn, 1) := by decide +kernel
theorem dX2_changeSetting_0 : decode cX2_changeSetting 0 = .ok (.iload_n 1, 1) := by decide +kernel
theorem dX2_changeSetting_1 : decode cX2_changeSetting 1 = .ok (.ifCond .lt 8, 3) := by decide +kernel
theorem dX2_changeSetting_4 : decode cX2_changeSetting 4 = .ok (.iload_n 1, 1) := by decide +kernel
theorem dX2_changeSetting_5 : decode cX2_changeSetting 5 = .ok (.iconst 5, 1) := by decide +kernel
theorem dX2_changeSetting_6 : decode cX2_changeSetting 6 = .ok (.if_icmp .lt 6, 3) := by decide +kernel
theorem dX2_changeSetting_9 : decode cX2_changeSetting 9 = .ok (.bipush (-2), 2) := by decide +kernel
theorem dX2_changeSetting_11 : decode cX2_changeSetting 11 = .ok (.ireturn, 1) := by decide +kernel
theorem dX2_changeSetting_12 : decode cX2_changeSetting 12 = .ok (.iload_n 2, 1) := by decide +kernel
theorem dX2_changeSetting_13 : decode cX2_changeSetting 13 = .ok (.getstatic 56, 3) := by decide +kernel
theorem dX2_changeSetting_16 : decode cX2_changeSetting 16 = .ok (.iload_n 1, 1) := by decide +kernel
theorem dX2_changeSetting_17 : decode cX2_changeSetting 17 = .ok (.iaload, 1) := by decide +kernel
theorem dX2_changeSetting_18 : decode cX2_changeSetting 18 = .ok (.if_icmp .lt 12, 3) := by decide +kernel
theorem dX2_changeSetting_21 : decode cX2_changeSetting 21 = .ok (.iload_n 2, 1) := by decide +kernel
theorem dX2_changeSetting_22 : decode cX2_changeSetting 22 = .ok (.getstatic 59, 3) := by decide +kernel
theorem dX2_changeSetting_25 : decode cX2_changeSetting 25 = .ok (.iload_n 1, 1) := by decide +kernel
theorem dX2_changeSetting_26 : decode cX2_changeSetting 26 = .ok (.iaload, 1) := by decide +kernel
theorem dX2_changeSetting_27 : decode cX2_changeSetting 27 = .ok (.if_icmp .le 6, 3) := by decide +kernel
theorem dX2_changeSetting_30 : decode cX2_changeSetting 30 = .ok (.bipush (-2), 2) := by decide +kernel
theorem dX2_changeSetting_32 : decode cX2_changeSetting 32 = .ok (.ireturn, 1) := by decide +kernel
theorem dX2_changeSetting_33 : decode cX2_changeSetting 33 = .ok (.aload_n 0, 1) := by decide +kernel
theorem dX2_changeSetting_34 : decode cX2_changeSetting 34 = .ok (.getfield 9, 3) := by decide +kernel
theorem dX2_changeSetting_37 : decode cX2_changeSetting 37 = .ok (.iload_n 1, 1) := by decide +kernel
theorem dX2_changeSetting_38 : decode cX2_changeSetting 38 = .ok (.iaload, 1) := by decide +kernel
theorem dX2_changeSetting_39 : decode cX2_changeSetting 39 = .ok (.istore_n 3, 1) := by decide +kernel
theorem dX2_changeSetting_40 : decode cX2_changeSetting 40 = .ok (.aload_n 0, 1) := by decide +kernel
theorem dX2_changeSetting_41 : decode cX2_changeSetting 41 = .ok (.getfield 9, 3) := by decide +kernel
theorem dX2_changeSetting_44 : decode cX2_changeSetting 44 = .ok (.iload_n 1, 1) := by decide +kernel
theorem dX2_changeSetting_45 : decode cX2_changeSetting 45 = .ok (.iload_n 2, 1) := by decide +kernel
theorem dX2_changeSetting_46 : decode cX2_changeSetting 46 = .ok (.iastore, 1) := by decide +kernel
theorem dX2_changeSetting_47 : decode cX2_changeSetting 47 = .ok (.iload_n 3, 1) := by decide +kernel
theorem dX2_changeSetting_48 : decode cX2_changeSetting 48 = .ok (.ireturn, 1) := by decide +kernel
theorem dX2_addLot_0 : decode cX2_addLot 0 = .ok (.iload_n 1, 1) := by decide +kernel
theorem dX2_addLot_1 : decode cX2_addLot 1 = .ok (.iconst 1, 1) := by decide +kernel
theorem dX2_addLot_2 : decode cX2_addLot 2 = .ok (.if_icmp .lt 10, 3) := by decide +kernel
theorem dX2_addLot_5 : decode cX2_addLot 5 = .ok (.iload_n 1, 1) := by decide +kernel
theorem dX2_addLot_6 : decode cX2_addLot 6 = .ok (.sipush 9999, 3) := by decide +kernel
theorem dX2_addLot_9 : decode cX2_addLot 9 = .ok (.if_icmp .le 6, 3) := by decide +kernel
theorem dX2_addLot_12 : decode cX2_addLot 12 = .ok (.bipush (-2), 2) := by decide +kernel
theorem dX2_addLot_14 : decode cX2_addLot 14 = .ok (.ireturn, 1) := by decide +kernel
theorem dX2_addLot_15 : decode cX2_addLot 15 = .ok (.aload_n 0, 1) := by decide +kernel
theorem dX2_addLot_16 : decode cX2_addLot 16 = .ok (.getfield 18, 3) := by decide +kernel
theorem dX2_addLot_19 : decode cX2_addLot 19 = .ok (.getfield 62, 3) := by decide +kernel
theorem dX2_addLot_22 : decode cX2_addLot 22 = .ok (.bipush 12, 2) := by decide +kernel
theorem dX2_addLot_24 : decode cX2_addLot 24 = .ok (.if_icmp .lt 6, 3) := by decide +kernel
theorem dX2_addLot_27 : decode cX2_addLot 27 = .ok (.bipush (-4), 2) := by decide +kernel
theorem dX2_addLot_29 : decode cX2_addLot 29 = .ok (.ireturn, 1) := by decide +kernel
theorem dX2_addLot_30 : decode cX2_addLot 30 = .ok (.aload_n 0, 1) := by decide +kernel
theorem dX2_addLot_31 : decode cX2_addLot 31 = .ok (.getfield 18, 3) := by decide +kernel
theorem dX2_addLot_34 : decode cX2_addLot 34 = .ok (.getfield 62, 3) := by decide +kernel
theorem dX2_addLot_37 : decode cX2_addLot 37 = .ok (.istore_n 2, 1) := by decide +kernel
theorem dX2_addLot_38 : decode cX2_addLot 38 = .ok (.aload_n 0, 1) := by decide +kernel
theorem dX2_addLot_39 : decode cX2_addLot 39 = .ok (.getfield 18, 3) := by decide +kernel
theorem dX2_addLot_42 : decode cX2_addLot 42 = .ok (.getfield 65, 3) := by decide +kernel
theorem dX2_addLot_45 : decode cX2_addLot 45 = .ok (.iload_n 2, 1) := by decide +kernel
theorem dX2_addLot_46 : decode cX2_addLot 46 = .ok (.iload_n 1, 1) := by decide +kernel
theorem dX2_addLot_47 : decode cX2_addLot 47 = .ok (.iastore, 1) := by decide +kernel
theorem dX2_addLot_48 : decode cX2_addLot 48 = .ok (.aload_n 0, 1) := by decide +kernel
theorem dX2_addLot_49 : decode cX2_addLot 49 = .ok (.getfield 18, 3) := by decide +kernel
theorem dX2_addLot_52 : decode cX2_addLot 52 = .ok (.dup, 1) := by decide +kernel
theorem dX2_addLot_53 : decode cX2_addLot 53 = .ok (.getfield 62, 3) := by decide +kernel
theorem dX2_addLot_56 : decode cX2_addLot 56 = .ok (.iconst 1, 1) := by decide +kernel
theorem dX2_addLot_57 : decode cX2_addLot 57 = .ok (.iadd, 1) := by decide +kernel
theorem dX2_addLot_58 : decode cX2_addLot 58 = .ok (.putfield 62, 3) := by decide +kernel
theorem dX2_addLot_61 : decode cX2_addLot 61 = .ok (.iload_n 2, 1) := by decide +kernel
theorem dX2_addLot_62 : decode cX2_addLot 62 = .ok (.ireturn, 1) := by decide +kernel
theorem dX2_giveNotice_0 : decode cX2_giveNotice 0 = .ok (.aload_n 0, 1) := by decide +kernel
theorem dX2_giveNotice_1 : decode cX2_giveNotice 1 = .ok (.getfield 18, 3) := by decide +kernel
theorem dX2_giveNotice_4 : decode cX2_giveNotice 4 = .ok (.iload_n 1, 1) := by decide +kernel
theorem dX2_giveNotice_5 : decode cX2_giveNotice 5 = .ok (.invokevirtual 68, 3) := by decide +kernel
theorem dX2_giveNotice_8 : decode cX2_giveNotice 8 = .ok (.ifCond .ne 5, 3) := by decide +kernel
theorem dX2_giveNotice_11 : decode cX2_giveNotice 11 = .ok (.iconst (-1), 1) := by decide +kernel
theorem dX2_giveNotice_12 : decode cX2_giveNotice 12 = .ok (.ireturn, 1) := by decide +kernel
theorem dX2_giveNotice_13 : decode cX2_giveNotice 13 = .ok (.aload_n 0, 1) := by decide +kernel
theorem dX2_giveNotice_14 : decode cX2_giveNotice 14 = .ok (.getfield 18, 3) := by decide +kernel
theorem dX2_giveNotice_17 : decode cX2_giveNotice 17 = .ok (.getfield 72, 3) := by decide +kernel
theorem dX2_giveNotice_20 : decode cX2_giveNotice 20 = .ok (.iload_n 1, 1) := by decide +kernel
theorem dX2_giveNotice_21 : decode cX2_giveNotice 21 = .ok (.iaload, 1) := by decide +kernel
theorem dX2_giveNotice_22 : decode cX2_giveNotice 22 = .ok (.ifCond .eq 6, 3) := by decide +kernel
theorem dX2_giveNotice_25 : decode cX2_giveNotice 25 = .ok (.bipush (-5), 2) := by decide +kernel
theorem dX2_giveNotice_27 : decode cX2_giveNotice 27 = .ok (.ireturn, 1) := by decide +kernel
theorem dX2_giveNotice_28 : decode cX2_giveNotice 28 = .ok (.aload_n 0, 1) := by decide +kernel
theorem dX2_giveNotice_29 : decode cX2_giveNotice 29 = .ok (.getfield 18, 3) := by decide +kernel
theorem dX2_giveNotice_32 : decode cX2_giveNotice 32 = .ok (.getfield 72, 3) := by decide +kernel
theorem dX2_giveNotice_35 : decode cX2_giveNotice 35 = .ok (.iload_n 1, 1) := by decide +kernel
theorem dX2_giveNotice_36 : decode cX2_giveNotice 36 = .ok (.iconst 1, 1) := by decide +kernel
theorem dX2_giveNotice_37 : decode cX2_giveNotice 37 = .ok (.iastore, 1) := by decide +kernel
theorem dX2_giveNotice_38 : decode cX2_giveNotice 38 = .ok (.aload_n 0, 1) := by decide +kernel
theorem dX2_giveNotice_39 : decode cX2_giveNotice 39 = .ok (.getfield 18, 3) := by decide +kernel
theorem dX2_giveNotice_42 : decode cX2_giveNotice 42 = .ok (.iconst 1, 1) := by decide +kernel
theorem dX2_giveNotice_43 : decode cX2_giveNotice 43 = .ok (.invokevirtual 75, 3) := by decide +kernel
theorem dX2_giveNotice_46 : decode cX2_giveNotice 46 = .ok (.invokestatic 79, 3) := by decide +kernel
theorem dX2_giveNotice_49 : decode cX2_giveNotice 49 = .ok (.ireturn, 1) := by decide +kernel
theorem dX2_addClaim_0 : decode cX2_addClaim 0 = .ok (.iload_n 1, 1) := by decide +kernel
theorem dX2_addClaim_1 : decode cX2_addClaim 1 = .ok (.invokestatic 84, 3) := by decide +kernel
theorem dX2_addClaim_4 : decode cX2_addClaim 4 = .ok (.ifCond .eq 14, 3) := by decide +kernel
theorem dX2_addClaim_7 : decode cX2_addClaim 7 = .ok (.aload_n 0, 1) := by decide +kernel
theorem dX2_addClaim_8 : decode cX2_addClaim 8 = .ok (.getfield 18, 3) := by decide +kernel
theorem dX2_addClaim_11 : decode cX2_addClaim 11 = .ok (.iload_n 2, 1) := by decide +kernel
theorem dX2_addClaim_12 : decode cX2_addClaim 12 = .ok (.invokevirtual 68, 3) := by decide +kernel
theorem dX2_addClaim_15 : decode cX2_addClaim 15 = .ok (.ifCond .ne 5, 3) := by decide +kernel
theorem dX2_addClaim_18 : decode cX2_addClaim 18 = .ok (.iconst (-1), 1) := by decide +kernel
theorem dX2_addClaim_19 : decode cX2_addClaim 19 = .ok (.ireturn, 1) := by decide +kernel
theorem dX2_addClaim_20 : decode cX2_addClaim 20 = .ok (.iload_n 3, 1) := by decide +kernel
theorem dX2_addClaim_21 : decode cX2_addClaim 21 = .ok (.iconst 1, 1) := by decide +kernel
theorem dX2_addClaim_22 : decode cX2_addClaim 22 = .ok (.if_icmp .lt 8, 3) := by decide +kernel
theorem dX2_addClaim_25 : decode cX2_addClaim 25 = .ok (.iload_n 3, 1) := by decide +kernel
theorem dX2_addClaim_26 : decode cX2_addClaim 26 = .ok (.iconst 5, 1) := by decide +kernel
theorem dX2_addClaim_27 : decode cX2_addClaim 27 = .ok (.if_icmp .le 6, 3) := by decide +kernel
theorem dX2_addClaim_30 : decode cX2_addClaim 30 = .ok (.bipush (-2), 2) := by decide +kernel
theorem dX2_addClaim_32 : decode cX2_addClaim 32 = .ok (.ireturn, 1) := by decide +kernel
theorem dX2_addClaim_33 : decode cX2_addClaim 33 = .ok (.aload_n 0, 1) := by decide +kernel
theorem dX2_addClaim_34 : decode cX2_addClaim 34 = .ok (.iload_n 2, 1) := by decide +kernel
theorem dX2_addClaim_35 : decode cX2_addClaim 35 = .ok (.invokevirtual 87, 3) := by decide +kernel
theorem dX2_addClaim_38 : decode cX2_addClaim 38 = .ok (.ifCond .eq 23, 3) := by decide +kernel
theorem dX2_addClaim_41 : decode cX2_addClaim 41 = .ok (.aload_n 0, 1) := by decide +kernel
theorem dX2_addClaim_42 : decode cX2_addClaim 42 = .ok (.getfield 25, 3) := by decide +kernel
theorem dX2_addClaim_45 : decode cX2_addClaim 45 = .ok (.iload_n 1, 1) := by decide +kernel
theorem dX2_addClaim_46 : decode cX2_addClaim 46 = .ok (.invokevirtual 90, 3) := by decide +kernel
theorem dX2_addClaim_49 : decode cX2_addClaim 49 = .ok (.aload_n 0, 1) := by decide +kernel
theorem dX2_addClaim_50 : decode cX2_addClaim 50 = .ok (.getfield 25, 3) := by decide +kernel
theorem dX2_addClaim_53 : decode cX2_addClaim 53 = .ok (.iload_n 2, 1) := by decide +kernel
theorem dX2_addClaim_54 : decode cX2_addClaim 54 = .ok (.invokevirtual 93, 3) := by decide +kernel
theorem dX2_addClaim_57 : decode cX2_addClaim 57 = .ok (.iand, 1) := by decide +kernel
theorem dX2_addClaim_58 : decode cX2_addClaim 58 = .ok (.ifCond .eq 6, 3) := by decide +kernel
theorem dX2_addClaim_61 : decode cX2_addClaim 61 = .ok (.bipush (-5), 2) := by decide +kernel
theorem dX2_addClaim_63 : decode cX2_addClaim 63 = .ok (.ireturn, 1) := by decide +kernel
theorem dX2_addClaim_64 : decode cX2_addClaim 64 = .ok (.aload_n 0, 1) := by decide +kernel
theorem dX2_addClaim_65 : decode cX2_addClaim 65 = .ok (.getfield 25, 3) := by decide +kernel
theorem dX2_addClaim_68 : decode cX2_addClaim 68 = .ok (.getfield 96, 3) := by decide +kernel
theorem dX2_addClaim_71 : decode cX2_addClaim 71 = .ok (.bipush 30, 2) := by decide +kernel
theorem dX2_addClaim_73 : decode cX2_addClaim 73 = .ok (.if_icmp .lt 6, 3) := by decide +kernel
theorem dX2_addClaim_76 : decode cX2_addClaim 76 = .ok (.bipush (-4), 2) := by decide +kernel
theorem dX2_addClaim_78 : decode cX2_addClaim 78 = .ok (.ireturn, 1) := by decide +kernel
theorem dX2_addClaim_79 : decode cX2_addClaim 79 = .ok (.aload_n 0, 1) := by decide +kernel
theorem dX2_addClaim_80 : decode cX2_addClaim 80 = .ok (.getfield 25, 3) := by decide +kernel
theorem dX2_addClaim_83 : decode cX2_addClaim 83 = .ok (.getfield 96, 3) := by decide +kernel
theorem dX2_addClaim_86 : decode cX2_addClaim 86 = .ok (.istore 4, 2) := by decide +kernel
theorem dX2_addClaim_88 : decode cX2_addClaim 88 = .ok (.aload_n 0, 1) := by decide +kernel
theorem dX2_addClaim_89 : decode cX2_addClaim 89 = .ok (.getfield 25, 3) := by decide +kernel
theorem dX2_addClaim_92 : decode cX2_addClaim 92 = .ok (.getfield 97, 3) := by decide +kernel
theorem dX2_addClaim_95 : decode cX2_addClaim 95 = .ok (.iload 4, 2) := by decide +kernel
theorem dX2_addClaim_97 : decode cX2_addClaim 97 = .ok (.iload_n 1, 1) := by decide +kernel
theorem dX2_addClaim_98 : decode cX2_addClaim 98 = .ok (.iastore, 1) := by decide +kernel
theorem dX2_addClaim_99 : decode cX2_addClaim 99 = .ok (.aload_n 0, 1) := by decide +kernel
theorem dX2_addClaim_100 : decode cX2_addClaim 100 = .ok (.getfield 25, 3) := by decide +kernel
theorem dX2_addClaim_103 : decode cX2_addClaim 103 = .ok (.getfield 100, 3) := by decide +kernel
theorem dX2_addClaim_106 : decode cX2_addClaim 106 = .ok (.iload 4, 2) := by decide +kernel
theorem dX2_addClaim_108 : decode cX2_addClaim 108 = .ok (.iload_n 2, 1) := by decide +kernel
theorem dX2_addClaim_109 : decode cX2_addClaim 109 = .ok (.iastore, 1) := by decide +kernel
theorem dX2_addClaim_110 : decode cX2_addClaim 110 = .ok (.aload_n 0, 1) := by decide +kernel
theorem dX2_addClaim_111 : decode cX2_addClaim 111 = .ok (.getfield 25, 3) := by decide +kernel
theorem dX2_addClaim_114 : decode cX2_addClaim 114 = .ok (.getfield 103, 3) := by decide +kernel
theorem dX2_addClaim_117 : decode cX2_addClaim 117 = .ok (.iload 4, 2) := by decide +kernel
theorem dX2_addClaim_119 : decode cX2_addClaim 119 = .ok (.iload_n 3, 1) := by decide +kernel
theorem dX2_addClaim_120 : decode cX2_addClaim 120 = .ok (.iastore, 1) := by decide +kernel
theorem dX2_addClaim_121 : decode cX2_addClaim 121 = .ok (.aload_n 0, 1) := by decide +kernel
theorem dX2_addClaim_122 : decode cX2_addClaim 122 = .ok (.getfield 25, 3) := by decide +kernel
theorem dX2_addClaim_125 : decode cX2_addClaim 125 = .ok (.dup, 1) := by decide +kernel
theorem dX2_addClaim_126 : decode cX2_addClaim 126 = .ok (.getfield 96, 3) := by decide +kernel
theorem dX2_addClaim_129 : decode cX2_addClaim 129 = .ok (.iconst 1, 1) := by decide +kernel
theorem dX2_addClaim_130 : decode cX2_addClaim 130 = .ok (.iadd, 1) := by decide +kernel
theorem dX2_addClaim_131 : decode cX2_addClaim 131 = .ok (.putfield 96, 3) := by decide +kernel
theorem dX2_addClaim_134 : decode cX2_addClaim 134 = .ok (.iload 4, 2) := by decide +kernel
theorem dX2_addClaim_136 : decode cX2_addClaim 136 = .ok (.ireturn, 1) := by decide +kernel
theorem dX2_canBeClaimed_0 : decode cX2_canBeClaimed 0 = .ok (.aload_n 0, 1) := by decide +kernel
theorem dX2_canBeClaimed_1 : decode cX2_canBeClaimed 1 = .ok (.getfield 18, 3) := by decide +kernel
theorem dX2_canBeClaimed_4 : decode cX2_canBeClaimed 4 = .ok (.getfield 72, 3) := by decide +kernel
theorem dX2_canBeClaimed_7 : decode cX2_canBeClaimed 7 = .ok (.iload_n 1, 1) := by decide +kernel
theorem dX2_canBeClaimed_8 : decode cX2_canBeClaimed 8 = .ok (.iaload, 1) := by decide +kernel
theorem dX2_canBeClaimed_9 : decode cX2_canBeClaimed 9 = .ok (.iconst 3, 1) := by decide +kernel
theorem dX2_canBeClaimed_10 : decode cX2_canBeClaimed 10 = .ok (.if_icmp .ne 27, 3) := by decide +kernel
theorem dX2_canBeClaimed_13 : decode cX2_canBeClaimed 13 = .ok (.aload_n 0, 1) := by decide +kernel
theorem dX2_canBeClaimed_14 : decode cX2_canBeClaimed 14 = .ok (.getfield 18, 3) := by decide +kernel
theorem dX2_canBeClaimed_17 : decode cX2_canBeClaimed 17 = .ok (.getfield 106, 3) := by decide +kernel
theorem dX2_canBeClaimed_20 : decode cX2_canBeClaimed 20 = .ok (.iload_n 1, 1) := by decide +kernel
theorem dX2_canBeClaimed_21 : decode cX2_canBeClaimed 21 = .ok (.iaload, 1) := by decide +kernel
theorem dX2_canBeClaimed_22 : decode cX2_canBeClaimed 22 = .ok (.aload_n 0, 1) := by decide +kernel
theorem dX2_canBeClaimed_23 : decode cX2_canBeClaimed 23 = .ok (.getfield 9, 3) := by decide +kernel
theorem dX2_canBeClaimed_26 : decode cX2_canBeClaimed 26 = .ok (.iconst 3, 1) := by decide +kernel
theorem dX2_canBeClaimed_27 : decode cX2_canBeClaimed 27 = .ok (.iaload, 1) := by decide +kernel
theorem dX2_canBeClaimed_28 : decode cX2_canBeClaimed 28 = .ok (.if_icmp .gt 7, 3) := by decide +kernel
theorem dX2_canBeClaimed_31 : decode cX2_canBeClaimed 31 = .ok (.iconst 1, 1) := by decide +kernel
theorem dX2_canBeClaimed_32 : decode cX2_canBeClaimed 32 = .ok (.goto 4, 3) := by decide +kernel
theorem dX2_canBeClaimed_35 : decode cX2_canBeClaimed 35 = .ok (.iconst 0, 1) := by decide +kernel
theorem dX2_canBeClaimed_36 : decode cX2_canBeClaimed 36 = .ok (.ireturn, 1) := by decide +kernel
theorem dX2_canBeClaimed_37 : decode cX2_canBeClaimed 37 = .ok (.aload_n 0, 1) := by decide +kernel
theorem dX2_canBeClaimed_38 : decode cX2_canBeClaimed 38 = .ok (.getfield 18, 3) := by decide +kernel
theorem dX2_canBeClaimed_41 : decode cX2_canBeClaimed 41 = .ok (.iload_n 1, 1) := by decide +kernel
theorem dX2_canBeClaimed_42 : decode cX2_canBeClaimed 42 = .ok (.invokevirtual 109, 3) := by decide +kernel
theorem dX2_canBeClaimed_45 : decode cX2_canBeClaimed 45 = .ok (.ifCond .ne 7, 3) := by decide +kernel
theorem dX2_canBeClaimed_48 : decode cX2_canBeClaimed 48 = .ok (.iconst 1, 1) := by decide +kernel
theorem dX2_canBeClaimed_49 : decode cX2_canBeClaimed 49 = .ok (.goto 4, 3) := by decide +kernel
theorem dX2_canBeClaimed_52 : decode cX2_canBeClaimed 52 = .ok (.iconst 0, 1) := by decide +kernel
theorem dX2_canBeClaimed_53 : decode cX2_canBeClaimed 53 = .ok (.ireturn, 1) := by decide +kernel
theorem dX2_addProof_0 : decode cX2_addProof 0 = .ok (.aload_n 0, 1) := by decide +kernel
theorem dX2_addProof_1 : decode cX2_addProof 1 = .ok (.getfield 25, 3) := by decide +kernel
theorem dX2_addProof_4 : decode cX2_addProof 4 = .ok (.iload_n 1, 1) := by decide +kernel
theorem dX2_addProof_5 : decode cX2_addProof 5 = .ok (.invokevirtual 112, 3) := by decide +kernel
theorem dX2_addProof_8 : decode cX2_addProof 8 = .ok (.ifCond .ne 5, 3) := by decide +kernel
theorem dX2_addProof_11 : decode cX2_addProof 11 = .ok (.iconst (-1), 1) := by decide +kernel
theorem dX2_addProof_12 : decode cX2_addProof 12 = .ok (.ireturn, 1) := by decide +kernel
theorem dX2_addProof_13 : decode cX2_addProof 13 = .ok (.iload_n 2, 1) := by decide +kernel
theorem dX2_addProof_14 : decode cX2_addProof 14 = .ok (.iconst 1, 1) := by decide +kernel
theorem dX2_addProof_15 : decode cX2_addProof 15 = .ok (.if_icmp .lt 9, 3) := by decide +kernel
theorem dX2_addProof_18 : decode cX2_addProof 18 = .ok (.iload_n 2, 1) := by decide +kernel
theorem dX2_addProof_19 : decode cX2_addProof 19 = .ok (.bipush 100, 2) := by decide +kernel
theorem dX2_addProof_21 : decode cX2_addProof 21 = .ok (.if_icmp .le 6, 3) := by decide +kernel
theorem dX2_addProof_24 : decode cX2_addProof 24 = .ok (.bipush (-2), 2) := by decide +kernel
theorem dX2_addProof_26 : decode cX2_addProof 26 = .ok (.ireturn, 1) := by decide +kernel
theorem dX2_addProof_27 : decode cX2_addProof 27 = .ok (.aload_n 0, 1) := by decide +kernel
theorem dX2_addProof_28 : decode cX2_addProof 28 = .ok (.getfield 25, 3) := by decide +kernel
theorem dX2_addProof_31 : decode cX2_addProof 31 = .ok (.iload_n 1, 1) := by decide +kernel
theorem dX2_addProof_32 : decode cX2_addProof 32 = .ok (.invokevirtual 113, 3) := by decide +kernel
theorem dX2_addProof_35 : decode cX2_addProof 35 = .ok (.ifCond .ne 6, 3) := by decide +kernel
theorem dX2_addProof_38 : decode cX2_addProof 38 = .ok (.bipush (-5), 2) := by decide +kernel
theorem dX2_addProof_40 : decode cX2_addProof 40 = .ok (.ireturn, 1) := by decide +kernel
theorem dX2_addProof_41 : decode cX2_addProof 41 = .ok (.aload_n 0, 1) := by decide +kernel
theorem dX2_addProof_42 : decode cX2_addProof 42 = .ok (.getfield 25, 3) := by decide +kernel
theorem dX2_addProof_45 : decode cX2_addProof 45 = .ok (.getfield 116, 3) := by decide +kernel
theorem dX2_addProof_48 : decode cX2_addProof 48 = .ok (.iload_n 1, 1) := by decide +kernel
theorem dX2_addProof_49 : decode cX2_addProof 49 = .ok (.bipush 100, 2) := by decide +kernel
theorem dX2_addProof_51 : decode cX2_addProof 51 = .ok (.aload_n 0, 1) := by decide +kernel
theorem dX2_addProof_52 : decode cX2_addProof 52 = .ok (.getfield 25, 3) := by decide +kernel
theorem dX2_addProof_55 : decode cX2_addProof 55 = .ok (.getfield 116, 3) := by decide +kernel
theorem dX2_addProof_58 : decode cX2_addProof 58 = .ok (.iload_n 1, 1) := by decide +kernel
theorem dX2_addProof_59 : decode cX2_addProof 59 = .ok (.iaload, 1) := by decide +kernel
theorem dX2_addProof_60 : decode cX2_addProof 60 = .ok (.iload_n 2, 1) := by decide +kernel
theorem dX2_addProof_61 : decode cX2_addProof 61 = .ok (.iadd, 1) := by decide +kernel
theorem dX2_addProof_62 : decode cX2_addProof 62 = .ok (.invokestatic 119, 3) := by decide +kernel
theorem dX2_addProof_65 : decode cX2_addProof 65 = .ok (.iastore, 1) := by decide +kernel
theorem dX2_addProof_66 : decode cX2_addProof 66 = .ok (.aload_n 0, 1) := by decide +kernel
theorem dX2_addProof_67 : decode cX2_addProof 67 = .ok (.getfield 25, 3) := by decide +kernel
theorem dX2_addProof_70 : decode cX2_addProof 70 = .ok (.getfield 125, 3) := by decide +kernel
theorem dX2_addProof_73 : decode cX2_addProof 73 = .ok (.iload_n 1, 1) := by decide +kernel
theorem dX2_addProof_74 : decode cX2_addProof 74 = .ok (.iconst 0, 1) := by decide +kernel
theorem dX2_addProof_75 : decode cX2_addProof 75 = .ok (.iastore, 1) := by decide +kernel
theorem dX2_addProof_76 : decode cX2_addProof 76 = .ok (.aload_n 0, 1) := by decide +kernel
theorem dX2_addProof_77 : decode cX2_addProof 77 = .ok (.getfield 25, 3) := by decide +kernel
theorem dX2_addProof_80 : decode cX2_addProof 80 = .ok (.getfield 116, 3) := by decide +kernel
theorem dX2_addProof_83 : decode cX2_addProof 83 = .ok (.iload_n 1, 1) := by decide +kernel
theorem dX2_addProof_84 : decode cX2_addProof 84 = .ok (.iaload, 1) := by decide +kernel
theorem dX2_addProof_85 : decode cX2_addProof 85 = .ok (.ireturn, 1) := by decide +kernel
theorem dX2_judge_0 : decode cX2_judge 0 = .ok (.aload_n 0, 1) := by decide +kernel
theorem dX2_judge_1 : decode cX2_judge 1 = .ok (.getfield 25, 3) := by decide +kernel
theorem dX2_judge_4 : decode cX2_judge 4 = .ok (.iload_n 1, 1) := by decide +kernel
theorem dX2_judge_5 : decode cX2_judge 5 = .ok (.invokevirtual 112, 3) := by decide +kernel
theorem dX2_judge_8 : decode cX2_judge 8 = .ok (.ifCond .ne 5, 3) := by decide +kernel
theorem dX2_judge_11 : decode cX2_judge 11 = .ok (.iconst (-1), 1) := by decide +kernel
theorem dX2_judge_12 : decode cX2_judge 12 = .ok (.ireturn, 1) := by decide +kernel
theorem dX2_judge_13 : decode cX2_judge 13 = .ok (.aload_n 0, 1) := by decide +kernel
theorem dX2_judge_14 : decode cX2_judge 14 = .ok (.getfield 25, 3) := by decide +kernel
theorem dX2_judge_17 : decode cX2_judge 17 = .ok (.iload_n 1, 1) := by decide +kernel
theorem dX2_judge_18 : decode cX2_judge 18 = .ok (.invokevirtual 113, 3) := by decide +kernel
theorem dX2_judge_21 : decode cX2_judge 21 = .ok (.ifCond .ne 6, 3) := by decide +kernel
theorem dX2_judge_24 : decode cX2_judge 24 = .ok (.bipush (-5), 2) := by decide +kernel
theorem dX2_judge_26 : decode cX2_judge 26 = .ok (.ireturn, 1) := by decide +kernel
theorem dX2_judge_27 : decode cX2_judge 27 = .ok (.aload_n 0, 1) := by decide +kernel
theorem dX2_judge_28 : decode cX2_judge 28 = .ok (.getfield 25, 3) := by decide +kernel
theorem dX2_judge_31 : decode cX2_judge 31 = .ok (.getfield 128, 3) := by decide +kernel
theorem dX2_judge_34 : decode cX2_judge 34 = .ok (.iload_n 1, 1) := by decide +kernel
theorem dX2_judge_35 : decode cX2_judge 35 = .ok (.aload_n 0, 1) := by decide +kernel
theorem dX2_judge_36 : decode cX2_judge 36 = .ok (.getfield 25, 3) := by decide +kernel
theorem dX2_judge_39 : decode cX2_judge 39 = .ok (.getfield 116, 3) := by decide +kernel
theorem dX2_judge_42 : decode cX2_judge 42 = .ok (.iload_n 1, 1) := by decide +kernel
theorem dX2_judge_43 : decode cX2_judge 43 = .ok (.iaload, 1) := by decide +kernel
theorem dX2_judge_44 : decode cX2_judge 44 = .ok (.aload_n 0, 1) := by decide +kernel
theorem dX2_judge_45 : decode cX2_judge 45 = .ok (.getfield 9, 3) := by decide +kernel
theorem dX2_judge_48 : decode cX2_judge 48 = .ok (.iconst 1, 1) := by decide +kernel
theorem dX2_judge_49 : decode cX2_judge 49 = .ok (.iaload, 1) := by decide +kernel
theorem dX2_judge_50 : decode cX2_judge 50 = .ok (.if_icmp .lt 7, 3) := by decide +kernel
theorem dX2_judge_53 : decode cX2_judge 53 = .ok (.iconst 1, 1) := by decide +kernel
theorem dX2_judge_54 : decode cX2_judge 54 = .ok (.goto 4, 3) := by decide +kernel
theorem dX2_judge_57 : decode cX2_judge 57 = .ok (.iconst 2, 1) := by decide +kernel
theorem dX2_judge_58 : decode cX2_judge 58 = .ok (.iastore, 1) := by decide +kernel
theorem dX2_judge_59 : decode cX2_judge 59 = .ok (.aload_n 0, 1) := by decide +kernel
theorem dX2_judge_60 : decode cX2_judge 60 = .ok (.getfield 25, 3) := by decide +kernel
theorem dX2_judge_63 : decode cX2_judge 63 = .ok (.getfield 128, 3) := by decide +kernel
theorem dX2_judge_66 : decode cX2_judge 66 = .ok (.iload_n 1, 1) := by decide +kernel
theorem dX2_judge_67 : decode cX2_judge 67 = .ok (.iaload, 1) := by decide +kernel
theorem dX2_judge_68 : decode cX2_judge 68 = .ok (.ireturn, 1) := by decide +kernel
theorem dX2_takeBack_0 : decode cX2_takeBack 0 = .ok (.aload_n 0, 1) := by decide +kernel
theorem dX2_takeBack_1 : decode cX2_takeBack 1 = .ok (.getfield 25, 3) := by decide +kernel
theorem dX2_takeBack_4 : decode cX2_takeBack 4 = .ok (.iload_n 1, 1) := by decide +kernel
theorem dX2_takeBack_5 : decode cX2_takeBack 5 = .ok (.invokevirtual 112, 3) := by decide +kernel
theorem dX2_takeBack_8 : decode cX2_takeBack 8 = .ok (.ifCond .ne 5, 3) := by decide +kernel
theorem dX2_takeBack_11 : decode cX2_takeBack 11 = .ok (.iconst (-1), 1) := by decide +kernel
theorem dX2_takeBack_12 : decode cX2_takeBack 12 = .ok (.ireturn, 1) := by decide +kernel
theorem dX2_takeBack_13 : decode cX2_takeBack 13 = .ok (.aload_n 0, 1) := by decide +kernel
theorem dX2_takeBack_14 : decode cX2_takeBack 14 = .ok (.getfield 25, 3) := by decide +kernel
theorem dX2_takeBack_17 : decode cX2_takeBack 17 = .ok (.iload_n 1, 1) := by decide +kernel
theorem dX2_takeBack_18 : decode cX2_takeBack 18 = .ok (.invokevirtual 129, 3) := by decide +kernel
theorem dX2_takeBack_21 : decode cX2_takeBack 21 = .ok (.ifCond .ne 6, 3) := by decide +kernel
theorem dX2_takeBack_24 : decode cX2_takeBack 24 = .ok (.bipush (-5), 2) := by decide +kernel
theorem dX2_takeBack_26 : decode cX2_takeBack 26 = .ok (.ireturn, 1) := by decide +kernel
theorem dX2_takeBack_27 : decode cX2_takeBack 27 = .ok (.aload_n 0, 1) := by decide +kernel
theorem dX2_takeBack_28 : decode cX2_takeBack 28 = .ok (.getfield 25, 3) := by decide +kernel
theorem dX2_takeBack_31 : decode cX2_takeBack 31 = .ok (.getfield 128, 3) := by decide +kernel
theorem dX2_takeBack_34 : decode cX2_takeBack 34 = .ok (.iload_n 1, 1) := by decide +kernel
theorem dX2_takeBack_35 : decode cX2_takeBack 35 = .ok (.iconst 3, 1) := by decide +kernel
theorem dX2_takeBack_36 : decode cX2_takeBack 36 = .ok (.iastore, 1) := by decide +kernel
theorem dX2_takeBack_37 : decode cX2_takeBack 37 = .ok (.aload_n 0, 1) := by decide +kernel
theorem dX2_takeBack_38 : decode cX2_takeBack 38 = .ok (.getfield 25, 3) := by decide +kernel
theorem dX2_takeBack_41 : decode cX2_takeBack 41 = .ok (.aload_n 0, 1) := by decide +kernel
theorem dX2_takeBack_42 : decode cX2_takeBack 42 = .ok (.getfield 25, 3) := by decide +kernel
theorem dX2_takeBack_45 : decode cX2_takeBack 45 = .ok (.getfield 100, 3) := by decide +kernel
theorem dX2_takeBack_48 : decode cX2_takeBack 48 = .ok (.iload_n 1, 1) := by decide +kernel
theorem dX2_takeBack_49 : decode cX2_takeBack 49 = .ok (.iaload, 1) := by decide +kernel
theorem dX2_takeBack_50 : decode cX2_takeBack 50 = .ok (.invokevirtual 93, 3) := by decide +kernel
theorem dX2_takeBack_53 : decode cX2_takeBack 53 = .ok (.invokestatic 79, 3) := by decide +kernel
theorem dX2_takeBack_56 : decode cX2_takeBack 56 = .ok (.ireturn, 1) := by decide +kernel
theorem dX2_shareOut_0 : decode cX2_shareOut 0 = .ok (.aload_n 0, 1) := by decide +kernel
theorem dX2_shareOut_1 : decode cX2_shareOut 1 = .ok (.getfield 18, 3) := by decide +kernel
theorem dX2_shareOut_4 : decode cX2_shareOut 4 = .ok (.iload_n 1, 1) := by decide +kernel
theorem dX2_shareOut_5 : decode cX2_shareOut 5 = .ok (.invokevirtual 68, 3) := by decide +kernel
theorem dX2_shareOut_8 : decode cX2_shareOut 8 = .ok (.ifCond .ne 5, 3) := by decide +kernel
theorem dX2_shareOut_11 : decode cX2_shareOut 11 = .ok (.iconst (-1), 1) := by decide +kernel
theorem dX2_shareOut_12 : decode cX2_shareOut 12 = .ok (.ireturn, 1) := by decide +kernel
theorem dX2_shareOut_13 : decode cX2_shareOut 13 = .ok (.aload_n 0, 1) := by decide +kernel
theorem dX2_shareOut_14 : decode cX2_shareOut 14 = .ok (.getfield 25, 3) := by decide +kernel
theorem dX2_shareOut_17 : decode cX2_shareOut 17 = .ok (.iload_n 1, 1) := by decide +kernel
theorem dX2_shareOut_18 : decode cX2_shareOut 18 = .ok (.invokevirtual 132, 3) := by decide +kernel
theorem dX2_shareOut_21 : decode cX2_shareOut 21 = .ok (.istore_n 2, 1) := by decide +kernel
theorem dX2_shareOut_22 : decode cX2_shareOut 22 = .ok (.aload_n 0, 1) := by decide +kernel
theorem dX2_shareOut_23 : decode cX2_shareOut 23 = .ok (.getfield 18, 3) := by decide +kernel
theorem dX2_shareOut_26 : decode cX2_shareOut 26 = .ok (.iload_n 1, 1) := by decide +kernel
theorem dX2_shareOut_27 : decode cX2_shareOut 27 = .ok (.invokevirtual 109, 3) := by decide +kernel
theorem dX2_shareOut_30 : decode cX2_shareOut 30 = .ok (.ifCond .ne 18, 3) := by decide +kernel
theorem dX2_shareOut_33 : decode cX2_shareOut 33 = .ok (.aload_n 0, 1) := by decide +kernel
theorem dX2_shareOut_34 : decode cX2_shareOut 34 = .ok (.getfield 25, 3) := by decide +kernel
theorem dX2_shareOut_37 : decode cX2_shareOut 37 = .ok (.iload_n 1, 1) := by decide +kernel
theorem dX2_shareOut_38 : decode cX2_shareOut 38 = .ok (.invokevirtual 135, 3) := by decide +kernel
theorem dX2_shareOut_41 : decode cX2_shareOut 41 = .ok (.ifCond .ne 7, 3) := by decide +kernel
theorem dX2_shareOut_44 : decode cX2_shareOut 44 = .ok (.iload_n 2, 1) := by decide +kernel
theorem dX2_shareOut_45 : decode cX2_shareOut 45 = .ok (.ifCond .ne 6, 3) := by decide +kernel
theorem dX2_shareOut_48 : decode cX2_shareOut 48 = .ok (.bipush (-5), 2) := by decide +kernel
theorem dX2_shareOut_50 : decode cX2_shareOut 50 = .ok (.ireturn, 1) := by decide +kernel
theorem dX2_shareOut_51 : decode cX2_shareOut 51 = .ok (.aload_n 0, 1) := by decide +kernel
theorem dX2_shareOut_52 : decode cX2_shareOut 52 = .ok (.iload_n 1, 1) := by decide +kernel
theorem dX2_shareOut_53 : decode cX2_shareOut 53 = .ok (.invokevirtual 138, 3) := by decide +kernel
theorem dX2_shareOut_56 : decode cX2_shareOut 56 = .ok (.istore_n 3, 1) := by decide +kernel
theorem dX2_shareOut_57 : decode cX2_shareOut 57 = .ok (.aload_n 0, 1) := by decide +kernel
theorem dX2_shareOut_58 : decode cX2_shareOut 58 = .ok (.getfield 25, 3) := by decide +kernel
theorem dX2_shareOut_61 : decode cX2_shareOut 61 = .ok (.iload_n 2, 1) := by decide +kernel
theorem dX2_shareOut_62 : decode cX2_shareOut 62 = .ok (.invokevirtual 141, 3) := by decide +kernel
theorem dX2_shareOut_65 : decode cX2_shareOut 65 = .ok (.istore 4, 2) := by decide +kernel
theorem dX2_shareOut_67 : decode cX2_shareOut 67 = .ok (.iconst 0, 1) := by decide +kernel
theorem dX2_shareOut_68 : decode cX2_shareOut 68 = .ok (.istore 5, 2) := by decide +kernel
theorem dX2_shareOut_70 : decode cX2_shareOut 70 = .ok (.iload 5, 2) := by decide +kernel
theorem dX2_shareOut_72 : decode cX2_shareOut 72 = .ok (.aload_n 0, 1) := by decide +kernel
theorem dX2_shareOut_73 : decode cX2_shareOut 73 = .ok (.getfield 25, 3) := by decide +kernel
theorem dX2_shareOut_76 : decode cX2_shareOut 76 = .ok (.getfield 96, 3) := by decide +kernel
theorem dX2_shareOut_79 : decode cX2_shareOut 79 = .ok (.if_icmp .ge 34, 3) := by decide +kernel
theorem dX2_shareOut_82 : decode cX2_shareOut 82 = .ok (.iload_n 2, 1) := by decide +kernel
theorem dX2_shareOut_83 : decode cX2_shareOut 83 = .ok (.iload 5, 2) := by decide +kernel
theorem dX2_shareOut_85 : decode cX2_shareOut 85 = .ok (.invokestatic 144, 3) := by decide +kernel
theorem dX2_shareOut_88 : decode cX2_shareOut 88 = .ok (.ifCond .eq 19, 3) := by decide +kernel
theorem dX2_shareOut_91 : decode cX2_shareOut 91 = .ok (.aload_n 0, 1) := by decide +kernel
theorem dX2_shareOut_92 : decode cX2_shareOut 92 = .ok (.iload 5, 2) := by decide +kernel
theorem dX2_shareOut_94 : decode cX2_shareOut 94 = .ok (.iload_n 3, 1) := by decide +kernel
theorem dX2_shareOut_95 : decode cX2_shareOut 95 = .ok (.iload 4, 2) := by decide +kernel
theorem dX2_shareOut_97 : decode cX2_shareOut 97 = .ok (.iconst 1, 1) := by decide +kernel
theorem dX2_shareOut_98 : decode cX2_shareOut 98 = .ok (.iload 5, 2) := by decide +kernel
theorem dX2_shareOut_100 : decode cX2_shareOut 100 = .ok (.ishl, 1) := by decide +kernel
theorem dX2_shareOut_101 : decode cX2_shareOut 101 = .ok (.invokestatic 148, 3) := by decide +kernel
theorem dX2_shareOut_104 : decode cX2_shareOut 104 = .ok (.invokevirtual 152, 3) := by decide +kernel
theorem dX2_shareOut_107 : decode cX2_shareOut 107 = .ok (.iinc 5 1, 3) := by decide +kernel
theorem dX2_shareOut_110 : decode cX2_shareOut 110 = .ok (.goto (-40), 3) := by decide +kernel
theorem dX2_shareOut_113 : decode cX2_shareOut 113 = .ok (.aload_n 0, 1) := by decide +kernel
theorem dX2_shareOut_114 : decode cX2_shareOut 114 = .ok (.iload_n 1, 1) := by decide +kernel
theorem dX2_shareOut_115 : decode cX2_shareOut 115 = .ok (.iload_n 3, 1) := by decide +kernel
theorem dX2_shareOut_116 : decode cX2_shareOut 116 = .ok (.invokevirtual 156, 3) := by decide +kernel
theorem dX2_shareOut_119 : decode cX2_shareOut 119 = .ok (.iload 4, 2) := by decide +kernel
theorem dX2_shareOut_121 : decode cX2_shareOut 121 = .ok (.invokestatic 79, 3) := by decide +kernel
theorem dX2_shareOut_124 : decode cX2_shareOut 124 = .ok (.ireturn, 1) := by decide +kernel
theorem dX2_coinsToShare_0 : decode cX2_coinsToShare 0 = .ok (.aload_n 0, 1) := by decide +kernel
theorem dX2_coinsToShare_1 : decode cX2_coinsToShare 1 = .ok (.getfield 18, 3) := by decide +kernel
theorem dX2_coinsToShare_4 : decode cX2_coinsToShare 4 = .ok (.getfield 65, 3) := by decide +kernel
theorem dX2_coinsToShare_7 : decode cX2_coinsToShare 7 = .ok (.iload_n 1, 1) := by decide +kernel
theorem dX2_coinsToShare_8 : decode cX2_coinsToShare 8 = .ok (.iaload, 1) := by decide +kernel
theorem dX2_coinsToShare_9 : decode cX2_coinsToShare 9 = .ok (.istore_n 2, 1) := by decide +kernel
theorem dX2_coinsToShare_10 : decode cX2_coinsToShare 10 = .ok (.aload_n 0, 1) := by decide +kernel
theorem dX2_coinsToShare_11 : decode cX2_coinsToShare 11 = .ok (.getfield 18, 3) := by decide +kernel
theorem dX2_coinsToShare_14 : decode cX2_coinsToShare 14 = .ok (.getfield 72, 3) := by decide +kernel
theorem dX2_coinsToShare_17 : decode cX2_coinsToShare 17 = .ok (.iload_n 1, 1) := by decide +kernel
theorem dX2_coinsToShare_18 : decode cX2_coinsToShare 18 = .ok (.iaload, 1) := by decide +kernel
theorem dX2_coinsToShare_19 : decode cX2_coinsToShare 19 = .ok (.iconst 3, 1) := by decide +kernel
theorem dX2_coinsToShare_20 : decode cX2_coinsToShare 20 = .ok (.if_icmp .ne 19, 3) := by decide +kernel
theorem dX2_coinsToShare_23 : decode cX2_coinsToShare 23 = .ok (.iload_n 2, 1) := by decide +kernel
theorem dX2_coinsToShare_24 : decode cX2_coinsToShare 24 = .ok (.iload_n 2, 1) := by decide +kernel
theorem dX2_coinsToShare_25 : decode cX2_coinsToShare 25 = .ok (.aload_n 0, 1) := by decide +kernel
theorem dX2_coinsToShare_26 : decode cX2_coinsToShare 26 = .ok (.getfield 9, 3) := by decide +kernel
theorem dX2_coinsToShare_29 : decode cX2_coinsToShare 29 = .ok (.iconst 4, 1) := by decide +kernel
theorem dX2_coinsToShare_30 : decode cX2_coinsToShare 30 = .ok (.iaload, 1) := by decide +kernel
theorem dX2_coinsToShare_31 : decode cX2_coinsToShare 31 = .ok (.imul, 1) := by decide +kernel
theorem dX2_coinsToShare_32 : decode cX2_coinsToShare 32 = .ok (.bipush 100, 2) := by decide +kernel
theorem dX2_coinsToShare_34 : decode cX2_coinsToShare 34 = .ok (.idiv, 1) := by decide +kernel
theorem dX2_coinsToShare_35 : decode cX2_coinsToShare 35 = .ok (.isub, 1) := by decide +kernel
theorem dX2_coinsToShare_36 : decode cX2_coinsToShare 36 = .ok (.goto 4, 3) := by decide +kernel
theorem dX2_coinsToShare_39 : decode cX2_coinsToShare 39 = .ok (.iload_n 2, 1) := by decide +kernel
theorem dX2_coinsToShare_40 : decode cX2_coinsToShare 40 = .ok (.ireturn, 1) := by decide +kernel
theorem dX2_part_0 : decode cX2_part 0 = .ok (.iload_n 1, 1) := by decide +kernel
theorem dX2_part_1 : decode cX2_part 1 = .ok (.invokestatic 79, 3) := by decide +kernel
theorem dX2_part_4 : decode cX2_part 4 = .ok (.istore_n 3, 1) := by decide +kernel
theorem dX2_part_5 : decode cX2_part 5 = .ok (.iload_n 3, 1) := by decide +kernel
theorem dX2_part_6 : decode cX2_part 6 = .ok (.ifCond .eq 9, 3) := by decide +kernel
theorem dX2_part_9 : decode cX2_part 9 = .ok (.iload_n 1, 1) := by decide +kernel
theorem dX2_part_10 : decode cX2_part 10 = .ok (.iload_n 2, 1) := by decide +kernel
theorem dX2_part_11 : decode cX2_part 11 = .ok (.iand, 1) := by decide +kernel
theorem dX2_part_12 : decode cX2_part 12 = .ok (.ifCond .ne 5, 3) := by decide +kernel
theorem dX2_part_15 : decode cX2_part 15 = .ok (.iconst 0, 1) := by decide +kernel
theorem dX2_part_16 : decode cX2_part 16 = .ok (.ireturn, 1) := by decide +kernel
theorem dX2_part_17 : decode cX2_part 17 = .ok (.iload_n 1, 1) := by decide +kernel
theorem dX2_part_18 : decode cX2_part 18 = .ok (.iload_n 2, 1) := by decide +kernel
theorem dX2_part_19 : decode cX2_part 19 = .ok (.iconst 1, 1) := by decide +kernel
theorem dX2_part_20 : decode cX2_part 20 = .ok (.isub, 1) := by decide +kernel
theorem dX2_part_21 : decode cX2_part 21 = .ok (.iand, 1) := by decide +kernel
theorem dX2_part_22 : decode cX2_part 22 = .ok (.invokestatic 79, 3) := by decide +kernel
theorem dX2_part_25 : decode cX2_part 25 = .ok (.istore 4, 2) := by decide +kernel
theorem dX2_part_27 : decode cX2_part 27 = .ok (.iload_n 0, 1) := by decide +kernel
theorem dX2_part_28 : decode cX2_part 28 = .ok (.iload_n 3, 1) := by decide +kernel
theorem dX2_part_29 : decode cX2_part 29 = .ok (.idiv, 1) := by decide +kernel
theorem dX2_part_30 : decode cX2_part 30 = .ok (.iload 4, 2) := by decide +kernel
theorem dX2_part_32 : decode cX2_part 32 = .ok (.iload_n 0, 1) := by decide +kernel
theorem dX2_part_33 : decode cX2_part 33 = .ok (.iload_n 3, 1) := by decide +kernel
theorem dX2_part_34 : decode cX2_part 34 = .ok (.irem, 1) := by decide +kernel
theorem dX2_part_35 : decode cX2_part 35 = .ok (.if_icmp .ge 7, 3) := by decide +kernel
theorem dX2_part_38 : decode cX2_part 38 = .ok (.iconst 1, 1) := by decide +kernel
theorem dX2_part_39 : decode cX2_part 39 = .ok (.goto 4, 3) := by decide +kernel
theorem dX2_part_42 : decode cX2_part 42 = .ok (.iconst 0, 1) := by decide +kernel
theorem dX2_part_43 : decode cX2_part 43 = .ok (.iadd, 1) := by decide +kernel
theorem dX2_part_44 : decode cX2_part 44 = .ok (.ireturn, 1) := by decide +kernel
theorem dX2_settleClaim_0 : decode cX2_settleClaim 0 = .ok (.aload_n 0, 1) := by decide +kernel
theorem dX2_settleClaim_1 : decode cX2_settleClaim 1 = .ok (.getfield 25, 3) := by decide +kernel
theorem dX2_settleClaim_4 : decode cX2_settleClaim 4 = .ok (.getfield 97, 3) := by decide +kernel
theorem dX2_settleClaim_7 : decode cX2_settleClaim 7 = .ok (.iload_n 1, 1) := by decide +kernel
theorem dX2_settleClaim_8 : decode cX2_settleClaim 8 = .ok (.iaload, 1) := by decide +kernel
theorem dX2_settleClaim_9 : decode cX2_settleClaim 9 = .ok (.istore_n 3, 1) := by decide +kernel
theorem dX2_settleClaim_10 : decode cX2_settleClaim 10 = .ok (.iload_n 2, 1) := by decide +kernel
theorem dX2_settleClaim_11 : decode cX2_settleClaim 11 = .ok (.ifCond .le 40, 3) := by decide +kernel
theorem dX2_settleClaim_14 : decode cX2_settleClaim 14 = .ok (.aload_n 0, 1) := by decide +kernel
theorem dX2_settleClaim_15 : decode cX2_settleClaim 15 = .ok (.iload_n 3, 1) := by decide +kernel
theorem dX2_settleClaim_16 : decode cX2_settleClaim 16 = .ok (.invokevirtual 159, 3) := by decide +kernel
theorem dX2_settleClaim_19 : decode cX2_settleClaim 19 = .ok (.ifCond .ne 32, 3) := by decide +kernel
theorem dX2_settleClaim_22 : decode cX2_settleClaim 22 = .ok (.aload_n 0, 1) := by decide +kernel
theorem dX2_settleClaim_23 : decode cX2_settleClaim 23 = .ok (.getfield 32, 3) := by decide +kernel
theorem dX2_settleClaim_26 : decode cX2_settleClaim 26 = .ok (.bipush 16, 2) := by decide +kernel
theorem dX2_settleClaim_28 : decode cX2_settleClaim 28 = .ok (.if_icmp .ge 23, 3) := by decide +kernel
theorem dX2_settleClaim_31 : decode cX2_settleClaim 31 = .ok (.aload_n 0, 1) := by decide +kernel
theorem dX2_settleClaim_32 : decode cX2_settleClaim 32 = .ok (.getfield 29, 3) := by decide +kernel
theorem dX2_settleClaim_35 : decode cX2_settleClaim 35 = .ok (.aload_n 0, 1) := by decide +kernel
theorem dX2_settleClaim_36 : decode cX2_settleClaim 36 = .ok (.getfield 32, 3) := by decide +kernel
theorem dX2_settleClaim_39 : decode cX2_settleClaim 39 = .ok (.iload_n 3, 1) := by decide +kernel
theorem dX2_settleClaim_40 : decode cX2_settleClaim 40 = .ok (.iastore, 1) := by decide +kernel
theorem dX2_settleClaim_41 : decode cX2_settleClaim 41 = .ok (.aload_n 0, 1) := by decide +kernel
theorem dX2_settleClaim_42 : decode cX2_settleClaim 42 = .ok (.dup, 1) := by decide +kernel
theorem dX2_settleClaim_43 : decode cX2_settleClaim 43 = .ok (.getfield 32, 3) := by decide +kernel
theorem dX2_settleClaim_46 : decode cX2_settleClaim 46 = .ok (.iconst 1, 1) := by decide +kernel
theorem dX2_settleClaim_47 : decode cX2_settleClaim 47 = .ok (.iadd, 1) := by decide +kernel
theorem dX2_settleClaim_48 : decode cX2_settleClaim 48 = .ok (.putfield 32, 3) := by decide +kernel
theorem dX2_settleClaim_51 : decode cX2_settleClaim 51 = .ok (.aload_n 0, 1) := by decide +kernel
theorem dX2_settleClaim_52 : decode cX2_settleClaim 52 = .ok (.getfield 25, 3) := by decide +kernel
theorem dX2_settleClaim_55 : decode cX2_settleClaim 55 = .ok (.getfield 162, 3) := by decide +kernel
theorem dX2_settleClaim_58 : decode cX2_settleClaim 58 = .ok (.iload_n 1, 1) := by decide +kernel
theorem dX2_settleClaim_59 : decode cX2_settleClaim 59 = .ok (.iload_n 2, 1) := by decide +kernel
theorem dX2_settleClaim_60 : decode cX2_settleClaim 60 = .ok (.iastore, 1) := by decide +kernel
theorem dX2_settleClaim_61 : decode cX2_settleClaim 61 = .ok (.aload_n 0, 1) := by decide +kernel
theorem dX2_settleClaim_62 : decode cX2_settleClaim 62 = .ok (.getfield 25, 3) := by decide +kernel
theorem dX2_settleClaim_65 : decode cX2_settleClaim 65 = .ok (.getfield 128, 3) := by decide +kernel
theorem dX2_settleClaim_68 : decode cX2_settleClaim 68 = .ok (.iload_n 1, 1) := by decide +kernel
theorem dX2_settleClaim_69 : decode cX2_settleClaim 69 = .ok (.iconst 5, 1) := by decide +kernel
theorem dX2_settleClaim_70 : decode cX2_settleClaim 70 = .ok (.iastore, 1) := by decide +kernel
theorem dX2_settleClaim_71 : decode cX2_settleClaim 71 = .ok (.return_, 1) := by decide +kernel
theorem dX2_leaveOffice_0 : decode cX2_leaveOffice 0 = .ok (.aload_n 0, 1) := by decide +kernel
theorem dX2_leaveOffice_1 : decode cX2_leaveOffice 1 = .ok (.getfield 18, 3) := by decide +kernel
theorem dX2_leaveOffice_4 : decode cX2_leaveOffice 4 = .ok (.getfield 72, 3) := by decide +kernel
theorem dX2_leaveOffice_7 : decode cX2_leaveOffice 7 = .ok (.iload_n 1, 1) := by decide +kernel
theorem dX2_leaveOffice_8 : decode cX2_leaveOffice 8 = .ok (.iaload, 1) := by decide +kernel
theorem dX2_leaveOffice_9 : decode cX2_leaveOffice 9 = .ok (.iconst 3, 1) := by decide +kernel
theorem dX2_leaveOffice_10 : decode cX2_leaveOffice 10 = .ok (.if_icmp .ne 26, 3) := by decide +kernel
theorem dX2_leaveOffice_13 : decode cX2_leaveOffice 13 = .ok (.aload_n 0, 1) := by decide +kernel
theorem dX2_leaveOffice_14 : decode cX2_leaveOffice 14 = .ok (.dup, 1) := by decide +kernel
theorem dX2_leaveOffice_15 : decode cX2_leaveOffice 15 = .ok (.getfield 36, 3) := by decide +kernel
theorem dX2_leaveOffice_18 : decode cX2_leaveOffice 18 = .ok (.iload_n 2, 1) := by decide +kernel
theorem dX2_leaveOffice_19 : decode cX2_leaveOffice 19 = .ok (.isub, 1) := by decide +kernel
theorem dX2_leaveOffice_20 : decode cX2_leaveOffice 20 = .ok (.putfield 36, 3) := by decide +kernel
theorem dX2_leaveOffice_23 : decode cX2_leaveOffice 23 = .ok (.aload_n 0, 1) := by decide +kernel
theorem dX2_leaveOffice_24 : decode cX2_leaveOffice 24 = .ok (.getfield 18, 3) := by decide +kernel
theorem dX2_leaveOffice_27 : decode cX2_leaveOffice 27 = .ok (.getfield 72, 3) := by decide +kernel
theorem dX2_leaveOffice_30 : decode cX2_leaveOffice 30 = .ok (.iload_n 1, 1) := by decide +kernel
theorem dX2_leaveOffice_31 : decode cX2_leaveOffice 31 = .ok (.iconst 4, 1) := by decide +kernel
theorem dX2_leaveOffice_32 : decode cX2_leaveOffice 32 = .ok (.iastore, 1) := by decide +kernel
theorem dX2_leaveOffice_33 : decode cX2_leaveOffice 33 = .ok (.goto 13, 3) := by decide +kernel
theorem dX2_leaveOffice_36 : decode cX2_leaveOffice 36 = .ok (.aload_n 0, 1) := by decide +kernel
theorem dX2_leaveOffice_37 : decode cX2_leaveOffice 37 = .ok (.getfield 18, 3) := by decide +kernel
theorem dX2_leaveOffice_40 : decode cX2_leaveOffice 40 = .ok (.getfield 72, 3) := by decide +kernel
theorem dX2_leaveOffice_43 : decode cX2_leaveOffice 43 = .ok (.iload_n 1, 1) := by decide +kernel
theorem dX2_leaveOffice_44 : decode cX2_leaveOffice 44 = .ok (.iconst 2, 1) := by decide +kernel
theorem dX2_leaveOffice_45 : decode cX2_leaveOffice 45 = .ok (.iastore, 1) := by decide +kernel
theorem dX2_leaveOffice_46 : decode cX2_leaveOffice 46 = .ok (.return_, 1) := by decide +kernel
theorem dX2_passDays_0 : decode cX2_passDays 0 = .ok (.iload_n 1, 1) := by decide +kernel
theorem dX2_passDays_1 : decode cX2_passDays 1 = .ok (.iconst 1, 1) := by decide +kernel
theorem dX2_passDays_2 : decode cX2_passDays 2 = .ok (.if_icmp .lt 10, 3) := by decide +kernel
theorem dX2_passDays_5 : decode cX2_passDays 5 = .ok (.iload_n 1, 1) := by decide +kernel
theorem dX2_passDays_6 : decode cX2_passDays 6 = .ok (.sipush 400, 3) := by decide +kernel
theorem dX2_passDays_9 : decode cX2_passDays 9 = .ok (.if_icmp .le 6, 3) := by decide +kernel
theorem dX2_passDays_12 : decode cX2_passDays 12 = .ok (.bipush (-2), 2) := by decide +kernel
theorem dX2_passDays_14 : decode cX2_passDays 14 = .ok (.ireturn, 1) := by decide +kernel
theorem dX2_passDays_15 : decode cX2_passDays 15 = .ok (.aload_n 0, 1) := by decide +kernel
theorem dX2_passDays_16 : decode cX2_passDays 16 = .ok (.getfield 39, 3) := by decide +kernel
theorem dX2_passDays_19 : decode cX2_passDays 19 = .ok (.iload_n 1, 1) := by decide +kernel
theorem dX2_passDays_20 : decode cX2_passDays 20 = .ok (.iadd, 1) := by decide +kernel
theorem dX2_passDays_21 : decode cX2_passDays 21 = .ok (.sipush 9999, 3) := by decide +kernel
theorem dX2_passDays_24 : decode cX2_passDays 24 = .ok (.if_icmp .le 6, 3) := by decide +kernel
theorem dX2_passDays_27 : decode cX2_passDays 27 = .ok (.bipush (-5), 2) := by decide +kernel
theorem dX2_passDays_29 : decode cX2_passDays 29 = .ok (.ireturn, 1) := by decide +kernel
theorem dX2_passDays_30 : decode cX2_passDays 30 = .ok (.iconst 0, 1) := by decide +kernel
theorem dX2_passDays_31 : decode cX2_passDays 31 = .ok (.istore_n 2, 1) := by decide +kernel
theorem dX2_passDays_32 : decode cX2_passDays 32 = .ok (.iconst 0, 1) := by decide +kernel
theorem dX2_passDays_33 : decode cX2_passDays 33 = .ok (.istore_n 3, 1) := by decide +kernel
theorem dX2_passDays_34 : decode cX2_passDays 34 = .ok (.iload_n 3, 1) := by decide +kernel
theorem dX2_passDays_35 : decode cX2_passDays 35 = .ok (.iload_n 1, 1) := by decide +kernel
theorem dX2_passDays_36 : decode cX2_passDays 36 = .ok (.if_icmp .ge 16, 3) := by decide +kernel
theorem dX2_passDays_39 : decode cX2_passDays 39 = .ok (.iload_n 2, 1) := by decide +kernel
theorem dX2_passDays_40 : decode cX2_passDays 40 = .ok (.aload_n 0, 1) := by decide +kernel
theorem dX2_passDays_41 : decode cX2_passDays 41 = .ok (.invokevirtual 165, 3) := by decide +kernel
theorem dX2_passDays_44 : decode cX2_passDays 44 = .ok (.iadd, 1) := by decide +kernel
theorem dX2_passDays_45 : decode cX2_passDays 45 = .ok (.istore_n 2, 1) := by decide +kernel
theorem dX2_passDays_46 : decode cX2_passDays 46 = .ok (.iinc 3 1, 3) := by decide +kernel
theorem dX2_passDays_49 : decode cX2_passDays 49 = .ok (.goto (-15), 3) := by decide +kernel
theorem dX2_passDays_52 : decode cX2_passDays 52 = .ok (.iload_n 2, 1) := by decide +kernel
theorem dX2_passDays_53 : decode cX2_passDays 53 = .ok (.ireturn, 1) := by decide +kernel
theorem dX2_passDay_0 : decode cX2_passDay 0 = .ok (.aload_n 0, 1) := by decide +kernel
theorem dX2_passDay_1 : decode cX2_passDay 1 = .ok (.getfield 25, 3) := by decide +kernel
theorem dX2_passDay_4 : decode cX2_passDay 4 = .ok (.aload_n 0, 1) := by decide +kernel
theorem dX2_passDay_5 : decode cX2_passDay 5 = .ok (.getfield 9, 3) := by decide +kernel
theorem dX2_passDay_8 : decode cX2_passDay 8 = .ok (.iconst 2, 1) := by decide +kernel
theorem dX2_passDay_9 : decode cX2_passDay 9 = .ok (.iaload, 1) := by decide +kernel
theorem dX2_passDay_10 : decode cX2_passDay 10 = .ok (.invokevirtual 169, 3) := by decide +kernel
theorem dX2_passDay_13 : decode cX2_passDay 13 = .ok (.istore_n 1, 1) := by decide +kernel
theorem dX2_passDay_14 : decode cX2_passDay 14 = .ok (.iconst 0, 1) := by decide +kernel
theorem dX2_passDay_15 : decode cX2_passDay 15 = .ok (.istore_n 2, 1) := by decide +kernel
theorem dX2_passDay_16 : decode cX2_passDay 16 = .ok (.iconst 0, 1) := by decide +kernel
theorem dX2_passDay_17 : decode cX2_passDay 17 = .ok (.istore_n 3, 1) := by decide +kernel
theorem dX2_passDay_18 : decode cX2_passDay 18 = .ok (.iload_n 3, 1) := by decide +kernel
theorem dX2_passDay_19 : decode cX2_passDay 19 = .ok (.aload_n 0, 1) := by decide +kernel
theorem dX2_passDay_20 : decode cX2_passDay 20 = .ok (.getfield 18, 3) := by decide +kernel
theorem dX2_passDay_23 : decode cX2_passDay 23 = .ok (.getfield 62, 3) := by decide +kernel
theorem dX2_passDay_26 : decode cX2_passDay 26 = .ok (.if_icmp .ge 67, 3) := by decide +kernel
theorem dX2_passDay_29 : decode cX2_passDay 29 = .ok (.aload_n 0, 1) := by decide +kernel
theorem dX2_passDay_30 : decode cX2_passDay 30 = .ok (.getfield 18, 3) := by decide +kernel
theorem dX2_passDay_33 : decode cX2_passDay 33 = .ok (.getfield 72, 3) := by decide +kernel
theorem dX2_passDay_36 : decode cX2_passDay 36 = .ok (.iload_n 3, 1) := by decide +kernel
theorem dX2_passDay_37 : decode cX2_passDay 37 = .ok (.iaload, 1) := by decide +kernel
theorem dX2_passDay_38 : decode cX2_passDay 38 = .ok (.iconst 3, 1) := by decide +kernel
theorem dX2_passDay_39 : decode cX2_passDay 39 = .ok (.if_icmp .ne 19, 3) := by decide +kernel
theorem dX2_passDay_42 : decode cX2_passDay 42 = .ok (.aload_n 0, 1) := by decide +kernel
theorem dX2_passDay_43 : decode cX2_passDay 43 = .ok (.getfield 18, 3) := by decide +kernel
theorem dX2_passDay_46 : decode cX2_passDay 46 = .ok (.getfield 106, 3) := by decide +kernel
theorem dX2_passDay_49 : decode cX2_passDay 49 = .ok (.iload_n 3, 1) := by decide +kernel
theorem dX2_passDay_50 : decode cX2_passDay 50 = .ok (.dup2, 1) := by decide +kernel
theorem dX2_passDay_51 : decode cX2_passDay 51 = .ok (.iaload, 1) := by decide +kernel
theorem dX2_passDay_52 : decode cX2_passDay 52 = .ok (.iconst 1, 1) := by decide +kernel
theorem dX2_passDay_53 : decode cX2_passDay 53 = .ok (.iadd, 1) := by decide +kernel
theorem dX2_passDay_54 : decode cX2_passDay 54 = .ok (.iastore, 1) := by decide +kernel
theorem dX2_passDay_55 : decode cX2_passDay 55 = .ok (.goto 32, 3) := by decide +kernel
theorem dX2_passDay_58 : decode cX2_passDay 58 = .ok (.aload_n 0, 1) := by decide +kernel
theorem dX2_passDay_59 : decode cX2_passDay 59 = .ok (.getfield 18, 3) := by decide +kernel
theorem dX2_passDay_62 : decode cX2_passDay 62 = .ok (.getfield 72, 3) := by decide +kernel
theorem dX2_passDay_65 : decode cX2_passDay 65 = .ok (.iload_n 3, 1) := by decide +kernel
theorem dX2_passDay_66 : decode cX2_passDay 66 = .ok (.iaload, 1) := by decide +kernel
theorem dX2_passDay_67 : decode cX2_passDay 67 = .ok (.iconst 1, 1) := by decide +kernel
theorem dX2_passDay_68 : decode cX2_passDay 68 = .ok (.if_icmp .ne 19, 3) := by decide +kernel
theorem dX2_passDay_71 : decode cX2_passDay 71 = .ok (.iload_n 1, 1) := by decide +kernel
theorem dX2_passDay_72 : decode cX2_passDay 72 = .ok (.iload_n 3, 1) := by decide +kernel
theorem dX2_passDay_73 : decode cX2_passDay 73 = .ok (.invokestatic 144, 3) := by decide +kernel
theorem dX2_passDay_76 : decode cX2_passDay 76 = .ok (.ifCond .ne 11, 3) := by decide +kernel
theorem dX2_passDay_79 : decode cX2_passDay 79 = .ok (.iload_n 2, 1) := by decide +kernel
theorem dX2_passDay_80 : decode cX2_passDay 80 = .ok (.aload_n 0, 1) := by decide +kernel
theorem dX2_passDay_81 : decode cX2_passDay 81 = .ok (.iload_n 3, 1) := by decide +kernel
theorem dX2_passDay_82 : decode cX2_passDay 82 = .ok (.invokevirtual 172, 3) := by decide +kernel
theorem dX2_passDay_85 : decode cX2_passDay 85 = .ok (.iadd, 1) := by decide +kernel
theorem dX2_passDay_86 : decode cX2_passDay 86 = .ok (.istore_n 2, 1) := by decide +kernel
theorem dX2_passDay_87 : decode cX2_passDay 87 = .ok (.iinc 3 1, 3) := by decide +kernel
theorem dX2_passDay_90 : decode cX2_passDay 90 = .ok (.goto (-72), 3) := by decide +kernel
theorem dX2_passDay_93 : decode cX2_passDay 93 = .ok (.aload_n 0, 1) := by decide +kernel
theorem dX2_passDay_94 : decode cX2_passDay 94 = .ok (.dup, 1) := by decide +kernel
theorem dX2_passDay_95 : decode cX2_passDay 95 = .ok (.getfield 39, 3) := by decide +kernel
theorem dX2_passDay_98 : decode cX2_passDay 98 = .ok (.iconst 1, 1) := by decide +kernel
theorem dX2_passDay_99 : decode cX2_passDay 99 = .ok (.iadd, 1) := by decide +kernel
theorem dX2_passDay_100 : decode cX2_passDay 100 = .ok (.putfield 39, 3) := by decide +kernel
theorem dX2_passDay_103 : decode cX2_passDay 103 = .ok (.iload_n 2, 1) := by decide +kernel
theorem dX2_passDay_104 : decode cX2_passDay 104 = .ok (.ireturn, 1) := by decide +kernel
theorem dX2_countDay_0 : decode cX2_countDay 0 = .ok (.aload_n 0, 1) := by decide +kernel
theorem dX2_countDay_1 : decode cX2_countDay 1 = .ok (.getfield 18, 3) := by decide +kernel
theorem dX2_countDay_4 : decode cX2_countDay 4 = .ok (.getfield 175, 3) := by decide +kernel
theorem dX2_countDay_7 : decode cX2_countDay 7 = .ok (.iload_n 1, 1) := by decide +kernel
theorem dX2_countDay_8 : decode cX2_countDay 8 = .ok (.dup2, 1) := by decide +kernel
theorem dX2_countDay_9 : decode cX2_countDay 9 = .ok (.iaload, 1) := by decide +kernel
theorem dX2_countDay_10 : decode cX2_countDay 10 = .ok (.iconst 1, 1) := by decide +kernel
theorem dX2_countDay_11 : decode cX2_countDay 11 = .ok (.iadd, 1) := by decide +kernel
theorem dX2_countDay_12 : decode cX2_countDay 12 = .ok (.iastore, 1) := by decide +kernel
theorem dX2_countDay_13 : decode cX2_countDay 13 = .ok (.aload_n 0, 1) := by decide +kernel
theorem dX2_countDay_14 : decode cX2_countDay 14 = .ok (.getfield 18, 3) := by decide +kernel
theorem dX2_countDay_17 : decode cX2_countDay 17 = .ok (.getfield 175, 3) := by decide +kernel
theorem dX2_countDay_20 : decode cX2_countDay 20 = .ok (.iload_n 1, 1) := by decide +kernel
theorem dX2_countDay_21 : decode cX2_countDay 21 = .ok (.iaload, 1) := by decide +kernel
theorem dX2_countDay_22 : decode cX2_countDay 22 = .ok (.aload_n 0, 1) := by decide +kernel
theorem dX2_countDay_23 : decode cX2_countDay 23 = .ok (.getfield 9, 3) := by decide +kernel
theorem dX2_countDay_26 : decode cX2_countDay 26 = .ok (.iconst 0, 1) := by decide +kernel
theorem dX2_countDay_27 : decode cX2_countDay 27 = .ok (.iaload, 1) := by decide +kernel
theorem dX2_countDay_28 : decode cX2_countDay 28 = .ok (.if_icmp .ge 5, 3) := by decide +kernel
theorem dX2_countDay_31 : decode cX2_countDay 31 = .ok (.iconst 0, 1) := by decide +kernel
theorem dX2_countDay_32 : decode cX2_countDay 32 = .ok (.ireturn, 1) := by decide +kernel
theorem dX2_countDay_33 : decode cX2_countDay 33 = .ok (.aload_n 0, 1) := by decide +kernel
theorem dX2_countDay_34 : decode cX2_countDay 34 = .ok (.getfield 18, 3) := by decide +kernel
theorem dX2_countDay_37 : decode cX2_countDay 37 = .ok (.getfield 72, 3) := by decide +kernel
theorem dX2_countDay_40 : decode cX2_countDay 40 = .ok (.iload_n 1, 1) := by decide +kernel
theorem dX2_countDay_41 : decode cX2_countDay 41 = .ok (.iconst 3, 1) := by decide +kernel
theorem dX2_countDay_42 : decode cX2_countDay 42 = .ok (.iastore, 1) := by decide +kernel
theorem dX2_countDay_43 : decode cX2_countDay 43 = .ok (.aload_n 0, 1) := by decide +kernel
theorem dX2_countDay_44 : decode cX2_countDay 44 = .ok (.dup, 1) := by decide +kernel
theorem dX2_countDay_45 : decode cX2_countDay 45 = .ok (.getfield 36, 3) := by decide +kernel
theorem dX2_countDay_48 : decode cX2_countDay 48 = .ok (.aload_n 0, 1) := by decide +kernel
theorem dX2_countDay_49 : decode cX2_countDay 49 = .ok (.getfield 18, 3) := by decide +kernel
theorem dX2_countDay_52 : decode cX2_countDay 52 = .ok (.getfield 65, 3) := by decide +kernel
theorem dX2_countDay_55 : decode cX2_countDay 55 = .ok (.iload_n 1, 1) := by decide +kernel
theorem dX2_countDay_56 : decode cX2_countDay 56 = .ok (.iaload, 1) := by decide +kernel
theorem dX2_countDay_57 : decode cX2_countDay 57 = .ok (.iadd, 1) := by decide +kernel
theorem dX2_countDay_58 : decode cX2_countDay 58 = .ok (.putfield 36, 3) := by decide +kernel
theorem dX2_countDay_61 : decode cX2_countDay 61 = .ok (.iconst 1, 1) := by decide +kernel
theorem dX2_countDay_62 : decode cX2_countDay 62 = .ok (.ireturn, 1) := by decide +kernel
theorem dX2_aboutLot_0 : decode cX2_aboutLot 0 = .ok (.aload_n 0, 1) := by decide +kernel
theorem dX2_aboutLot_1 : decode cX2_aboutLot 1 = .ok (.getfield 18, 3) := by decide +kernel
theorem dX2_aboutLot_4 : decode cX2_aboutLot 4 = .ok (.iload_n 1, 1) := by decide +kernel
theorem dX2_aboutLot_5 : decode cX2_aboutLot 5 = .ok (.invokevirtual 68, 3) := by decide +kernel
theorem dX2_aboutLot_8 : decode cX2_aboutLot 8 = .ok (.ifCond .ne 5, 3) := by decide +kernel
theorem dX2_aboutLot_11 : decode cX2_aboutLot 11 = .ok (.iconst (-1), 1) := by decide +kernel
theorem dX2_aboutLot_12 : decode cX2_aboutLot 12 = .ok (.ireturn, 1) := by decide +kernel
theorem dX2_aboutLot_13 : decode cX2_aboutLot 13 = .ok (.iload_n 2, 1) := by decide +kernel
theorem dX2_aboutLot_14 : decode cX2_aboutLot 14 = .ok (.tableswitch 116 0 6 #[42, 52, 62, 72, 82, 91, 100], 42) := by decide +kernel
theorem dX2_aboutLot_56 : decode cX2_aboutLot 56 = .ok (.aload_n 0, 1) := by decide +kernel
theorem dX2_aboutLot_57 : decode cX2_aboutLot 57 = .ok (.getfield 18, 3) := by decide +kernel
theorem dX2_aboutLot_60 : decode cX2_aboutLot 60 = .ok (.getfield 65, 3) := by decide +kernel
theorem dX2_aboutLot_63 : decode cX2_aboutLot 63 = .ok (.iload_n 1, 1) := by decide +kernel
theorem dX2_aboutLot_64 : decode cX2_aboutLot 64 = .ok (.iaload, 1) := by decide +kernel
theorem dX2_aboutLot_65 : decode cX2_aboutLot 65 = .ok (.ireturn, 1) := by decide +kernel
theorem dX2_aboutLot_66 : decode cX2_aboutLot 66 = .ok (.aload_n 0, 1) := by decide +kernel
theorem dX2_aboutLot_67 : decode cX2_aboutLot 67 = .ok (.getfield 18, 3) := by decide +kernel
theorem dX2_aboutLot_70 : decode cX2_aboutLot 70 = .ok (.getfield 72, 3) := by decide +kernel
theorem dX2_aboutLot_73 : decode cX2_aboutLot 73 = .ok (.iload_n 1, 1) := by decide +kernel
theorem dX2_aboutLot_74 : decode cX2_aboutLot 74 = .ok (.iaload, 1) := by decide +kernel
theorem dX2_aboutLot_75 : decode cX2_aboutLot 75 = .ok (.ireturn, 1) := by decide +kernel
theorem dX2_aboutLot_76 : decode cX2_aboutLot 76 = .ok (.aload_n 0, 1) := by decide +kernel
theorem dX2_aboutLot_77 : decode cX2_aboutLot 77 = .ok (.getfield 18, 3) := by decide +kernel
theorem dX2_aboutLot_80 : decode cX2_aboutLot 80 = .ok (.getfield 175, 3) := by decide +kernel
theorem dX2_aboutLot_83 : decode cX2_aboutLot 83 = .ok (.iload_n 1, 1) := by decide +kernel
theorem dX2_aboutLot_84 : decode cX2_aboutLot 84 = .ok (.iaload, 1) := by decide +kernel
theorem dX2_aboutLot_85 : decode cX2_aboutLot 85 = .ok (.ireturn, 1) := by decide +kernel
theorem dX2_aboutLot_86 : decode cX2_aboutLot 86 = .ok (.aload_n 0, 1) := by decide +kernel
theorem dX2_aboutLot_87 : decode cX2_aboutLot 87 = .ok (.getfield 18, 3) := by decide +kernel
theorem dX2_aboutLot_90 : decode cX2_aboutLot 90 = .ok (.getfield 106, 3) := by decide +kernel
theorem dX2_aboutLot_93 : decode cX2_aboutLot 93 = .ok (.iload_n 1, 1) := by decide +kernel
theorem dX2_aboutLot_94 : decode cX2_aboutLot 94 = .ok (.iaload, 1) := by decide +kernel
theorem dX2_aboutLot_95 : decode cX2_aboutLot 95 = .ok (.ireturn, 1) := by decide +kernel
theorem dX2_aboutLot_96 : decode cX2_aboutLot 96 = .ok (.aload_n 0, 1) := by decide +kernel
theorem dX2_aboutLot_97 : decode cX2_aboutLot 97 = .ok (.getfield 25, 3) := by decide +kernel
theorem dX2_aboutLot_100 : decode cX2_aboutLot 100 = .ok (.iload_n 1, 1) := by decide +kernel
theorem dX2_aboutLot_101 : decode cX2_aboutLot 101 = .ok (.invokevirtual 93, 3) := by decide +kernel
theorem dX2_aboutLot_104 : decode cX2_aboutLot 104 = .ok (.ireturn, 1) := by decide +kernel
theorem dX2_aboutLot_105 : decode cX2_aboutLot 105 = .ok (.aload_n 0, 1) := by decide +kernel
theorem dX2_aboutLot_106 : decode cX2_aboutLot 106 = .ok (.getfield 25, 3) := by decide +kernel
theorem dX2_aboutLot_109 : decode cX2_aboutLot 109 = .ok (.iload_n 1, 1) := by decide +kernel
theorem dX2_aboutLot_110 : decode cX2_aboutLot 110 = .ok (.invokevirtual 178, 3) := by decide +kernel
theorem dX2_aboutLot_113 : decode cX2_aboutLot 113 = .ok (.ireturn, 1) := by decide +kernel
theorem dX2_aboutLot_114 : decode cX2_aboutLot 114 = .ok (.aload_n 0, 1) := by decide +kernel
theorem dX2_aboutLot_115 : decode cX2_aboutLot 115 = .ok (.getfield 25, 3) := by decide +kernel
theorem dX2_aboutLot_118 : decode cX2_aboutLot 118 = .ok (.aload_n 0, 1) := by decide +kernel
theorem dX2_aboutLot_119 : decode cX2_aboutLot 119 = .ok (.getfield 25, 3) := by decide +kernel
theorem dX2_aboutLot_122 : decode cX2_aboutLot 122 = .ok (.iload_n 1, 1) := by decide +kernel
theorem dX2_aboutLot_123 : decode cX2_aboutLot 123 = .ok (.invokevirtual 132, 3) := by decide +kernel
theorem dX2_aboutLot_126 : decode cX2_aboutLot 126 = .ok (.invokevirtual 181, 3) := by decide +kernel
theorem dX2_aboutLot_129 : decode cX2_aboutLot 129 = .ok (.ireturn, 1) := by decide +kernel
theorem dX2_aboutLot_130 : decode cX2_aboutLot 130 = .ok (.bipush (-2), 2) := by decide +kernel
theorem dX2_aboutLot_132 : decode cX2_aboutLot 132 = .ok (.ireturn, 1) := by decide +kernel
theorem dX2_aboutClaim_0 : decode cX2_aboutClaim 0 = .ok (.aload_n 0, 1) := by decide +kernel
theorem dX2_aboutClaim_1 : decode cX2_aboutClaim 1 = .ok (.getfield 25, 3) := by decide +kernel
theorem dX2_aboutClaim_4 : decode cX2_aboutClaim 4 = .ok (.iload_n 1, 1) := by decide +kernel
theorem dX2_aboutClaim_5 : decode cX2_aboutClaim 5 = .ok (.invokevirtual 112, 3) := by decide +kernel
theorem dX2_aboutClaim_8 : decode cX2_aboutClaim 8 = .ok (.ifCond .ne 5, 3) := by decide +kernel
theorem dX2_aboutClaim_11 : decode cX2_aboutClaim 11 = .ok (.iconst (-1), 1) := by decide +kernel
theorem dX2_aboutClaim_12 : decode cX2_aboutClaim 12 = .ok (.ireturn, 1) := by decide +kernel
theorem dX2_aboutClaim_13 : decode cX2_aboutClaim 13 = .ok (.iload_n 2, 1) := by decide +kernel
theorem dX2_aboutClaim_14 : decode cX2_aboutClaim 14 = .ok (.tableswitch 112 0 6 #[42, 52, 62, 72, 82, 92, 102], 42) := by decide +kernel
theorem dX2_aboutClaim_56 : decode cX2_aboutClaim 56 = .ok (.aload_n 0, 1) := by decide +kernel
theorem dX2_aboutClaim_57 : decode cX2_aboutClaim 57 = .ok (.getfield 25, 3) := by decide +kernel
theorem dX2_aboutClaim_60 : decode cX2_aboutClaim 60 = .ok (.getfield 97, 3) := by decide +kernel
theorem dX2_aboutClaim_63 : decode cX2_aboutClaim 63 = .ok (.iload_n 1, 1) := by decide +kernel
theorem dX2_aboutClaim_64 : decode cX2_aboutClaim 64 = .ok (.iaload, 1) := by decide +kernel
theorem dX2_aboutClaim_65 : decode cX2_aboutClaim 65 = .ok (.ireturn, 1) := by decide +kernel
theorem dX2_aboutClaim_66 : decode cX2_aboutClaim 66 = .ok (.aload_n 0, 1) := by decide +kernel
theorem dX2_aboutClaim_67 : decode cX2_aboutClaim 67 = .ok (.getfield 25, 3) := by decide +kernel
theorem dX2_aboutClaim_70 : decode cX2_aboutClaim 70 = .ok (.getfield 100, 3) := by decide +kernel
theorem dX2_aboutClaim_73 : decode cX2_aboutClaim 73 = .ok (.iload_n 1, 1) := by decide +kernel
theorem dX2_aboutClaim_74 : decode cX2_aboutClaim 74 = .ok (.iaload, 1) := by decide +kernel
theorem dX2_aboutClaim_75 : decode cX2_aboutClaim 75 = .ok (.ireturn, 1) := by decide +kernel
theorem dX2_aboutClaim_76 : decode cX2_aboutClaim 76 = .ok (.aload_n 0, 1) := by decide +kernel
theorem dX2_aboutClaim_77 : decode cX2_aboutClaim 77 = .ok (.getfield 25, 3) := by decide +kernel
theorem dX2_aboutClaim_80 : decode cX2_aboutClaim 80 = .ok (.getfield 103, 3) := by decide +kernel
theorem dX2_aboutClaim_83 : decode cX2_aboutClaim 83 = .ok (.iload_n 1, 1) := by decide +kernel
theorem dX2_aboutClaim_84 : decode cX2_aboutClaim 84 = .ok (.iaload, 1) := by decide +kernel
theorem dX2_aboutClaim_85 : decode cX2_aboutClaim 85 = .ok (.ireturn, 1) := by decide +kernel
theorem dX2_aboutClaim_86 : decode cX2_aboutClaim 86 = .ok (.aload_n 0, 1) := by decide +kernel
theorem dX2_aboutClaim_87 : decode cX2_aboutClaim 87 = .ok (.getfield 25, 3) := by decide +kernel
theorem dX2_aboutClaim_90 : decode cX2_aboutClaim 90 = .ok (.getfield 116, 3) := by decide +kernel
theorem dX2_aboutClaim_93 : decode cX2_aboutClaim 93 = .ok (.iload_n 1, 1) := by decide +kernel
theorem dX2_aboutClaim_94 : decode cX2_aboutClaim 94 = .ok (.iaload, 1) := by decide +kernel
theorem dX2_aboutClaim_95 : decode cX2_aboutClaim 95 = .ok (.ireturn, 1) := by decide +kernel
theorem dX2_aboutClaim_96 : decode cX2_aboutClaim 96 = .ok (.aload_n 0, 1) := by decide +kernel
theorem dX2_aboutClaim_97 : decode cX2_aboutClaim 97 = .ok (.getfield 25, 3) := by decide +kernel
theorem dX2_aboutClaim_100 : decode cX2_aboutClaim 100 = .ok (.getfield 128, 3) := by decide +kernel
theorem dX2_aboutClaim_103 : decode cX2_aboutClaim 103 = .ok (.iload_n 1, 1) := by decide +kernel
theorem dX2_aboutClaim_104 : decode cX2_aboutClaim 104 = .ok (.iaload, 1) := by decide +kernel
theorem dX2_aboutClaim_105 : decode cX2_aboutClaim 105 = .ok (.ireturn, 1) := by decide +kernel
theorem dX2_aboutClaim_106 : decode cX2_aboutClaim 106 = .ok (.aload_n 0, 1) := by decide +kernel
theorem dX2_aboutClaim_107 : decode cX2_aboutClaim 107 = .ok (.getfield 25, 3) := by decide +kernel
theorem dX2_aboutClaim_110 : decode cX2_aboutClaim 110 = .ok (.getfield 125, 3) := by decide +kernel
theorem dX2_aboutClaim_113 : decode cX2_aboutClaim 113 = .ok (.iload_n 1, 1) := by decide +kernel
theorem dX2_aboutClaim_114 : decode cX2_aboutClaim 114 = .ok (.iaload, 1) := by decide +kernel
theorem dX2_aboutClaim_115 : decode cX2_aboutClaim 115 = .ok (.ireturn, 1) := by decide +kernel
theorem dX2_aboutClaim_116 : decode cX2_aboutClaim 116 = .ok (.aload_n 0, 1) := by decide +kernel
theorem dX2_aboutClaim_117 : decode cX2_aboutClaim 117 = .ok (.getfield 25, 3) := by decide +kernel
theorem dX2_aboutClaim_120 : decode cX2_aboutClaim 120 = .ok (.getfield 162, 3) := by decide +kernel
theorem dX2_aboutClaim_123 : decode cX2_aboutClaim 123 = .ok (.iload_n 1, 1) := by decide +kernel
theorem dX2_aboutClaim_124 : decode cX2_aboutClaim 124 = .ok (.iaload, 1) := by decide +kernel
theorem dX2_aboutClaim_125 : decode cX2_aboutClaim 125 = .ok (.ireturn, 1) := by decide +kernel
theorem dX2_aboutClaim_126 : decode cX2_aboutClaim 126 = .ok (.bipush (-2), 2) := by decide +kernel
theorem dX2_aboutClaim_128 : decode cX2_aboutClaim 128 = .ok (.ireturn, 1) := by decide +kernel
theorem dX2_aboutHeir_0 : decode cX2_aboutHeir 0 = .ok (.iload_n 1, 1) := by decide +kernel
theorem dX2_aboutHeir_1 : decode cX2_aboutHeir 1 = .ok (.invokestatic 84, 3) := by decide +kernel
theorem dX2_aboutHeir_4 : decode cX2_aboutHeir 4 = .ok (.ifCond .ne 5, 3) := by decide +kernel
theorem dX2_aboutHeir_7 : decode cX2_aboutHeir 7 = .ok (.iconst (-1), 1) := by decide +kernel
theorem dX2_aboutHeir_8 : decode cX2_aboutHeir 8 = .ok (.ireturn, 1) := by decide +kernel
theorem dX2_aboutHeir_9 : decode cX2_aboutHeir 9 = .ok (.iload_n 2, 1) := by decide +kernel
theorem dX2_aboutHeir_10 : decode cX2_aboutHeir 10 = .ok (.tableswitch 89 0 3 #[30, 36, 45, 62], 30) := by decide +kernel
theorem dX2_aboutHeir_40 : decode cX2_aboutHeir 40 = .ok (.aload_n 0, 1) := by decide +kernel
theorem dX2_aboutHeir_41 : decode cX2_aboutHeir 41 = .ok (.iload_n 1, 1) := by decide +kernel
theorem dX2_aboutHeir_42 : decode cX2_aboutHeir 42 = .ok (.invokevirtual 159, 3) := by decide +kernel
theorem dX2_aboutHeir_45 : decode cX2_aboutHeir 45 = .ok (.ireturn, 1) := by decide +kernel
theorem dX2_aboutHeir_46 : decode cX2_aboutHeir 46 = .ok (.aload_n 0, 1) := by decide +kernel
theorem dX2_aboutHeir_47 : decode cX2_aboutHeir 47 = .ok (.getfield 25, 3) := by decide +kernel
theorem dX2_aboutHeir_50 : decode cX2_aboutHeir 50 = .ok (.iload_n 1, 1) := by decide +kernel
theorem dX2_aboutHeir_51 : decode cX2_aboutHeir 51 = .ok (.invokevirtual 90, 3) := by decide +kernel
theorem dX2_aboutHeir_54 : decode cX2_aboutHeir 54 = .ok (.ireturn, 1) := by decide +kernel
theorem dX2_aboutHeir_55 : decode cX2_aboutHeir 55 = .ok (.aload_n 0, 1) := by decide +kernel
theorem dX2_aboutHeir_56 : decode cX2_aboutHeir 56 = .ok (.getfield 25, 3) := by decide +kernel
theorem dX2_aboutHeir_59 : decode cX2_aboutHeir 59 = .ok (.iload_n 1, 1) := by decide +kernel
theorem dX2_aboutHeir_60 : decode cX2_aboutHeir 60 = .ok (.invokevirtual 90, 3) := by decide +kernel
theorem dX2_aboutHeir_63 : decode cX2_aboutHeir 63 = .ok (.aload_n 0, 1) := by decide +kernel
theorem dX2_aboutHeir_64 : decode cX2_aboutHeir 64 = .ok (.getfield 25, 3) := by decide +kernel
theorem dX2_aboutHeir_67 : decode cX2_aboutHeir 67 = .ok (.invokevirtual 184, 3) := by decide +kernel
theorem dX2_aboutHeir_70 : decode cX2_aboutHeir 70 = .ok (.iand, 1) := by decide +kernel
theorem dX2_aboutHeir_71 : decode cX2_aboutHeir 71 = .ok (.ireturn, 1) := by decide +kernel
theorem dX2_aboutHeir_72 : decode cX2_aboutHeir 72 = .ok (.aload_n 0, 1) := by decide +kernel
theorem dX2_aboutHeir_73 : decode cX2_aboutHeir 73 = .ok (.getfield 25, 3) := by decide +kernel
theorem dX2_aboutHeir_76 : decode cX2_aboutHeir 76 = .ok (.getfield 100, 3) := by decide +kernel
theorem dX2_aboutHeir_79 : decode cX2_aboutHeir 79 = .ok (.aload_n 0, 1) := by decide +kernel
theorem dX2_aboutHeir_80 : decode cX2_aboutHeir 80 = .ok (.getfield 25, 3) := by decide +kernel
theorem dX2_aboutHeir_83 : decode cX2_aboutHeir 83 = .ok (.iload_n 1, 1) := by decide +kernel
theorem dX2_aboutHeir_84 : decode cX2_aboutHeir 84 = .ok (.invokevirtual 90, 3) := by decide +kernel
theorem dX2_aboutHeir_87 : decode cX2_aboutHeir 87 = .ok (.aload_n 0, 1) := by decide +kernel
theorem dX2_aboutHeir_88 : decode cX2_aboutHeir 88 = .ok (.getfield 25, 3) := by decide +kernel
theorem dX2_aboutHeir_91 : decode cX2_aboutHeir 91 = .ok (.invokevirtual 187, 3) := by decide +kernel
theorem dX2_aboutHeir_94 : decode cX2_aboutHeir 94 = .ok (.iand, 1) := by decide +kernel
theorem dX2_aboutHeir_95 : decode cX2_aboutHeir 95 = .ok (.invokestatic 190, 3) := by decide +kernel
theorem dX2_aboutHeir_98 : decode cX2_aboutHeir 98 = .ok (.ireturn, 1) := by decide +kernel
theorem dX2_aboutHeir_99 : decode cX2_aboutHeir 99 = .ok (.bipush (-2), 2) := by decide +kernel
theorem dX2_aboutHeir_101 : decode cX2_aboutHeir 101 = .ok (.ireturn, 1) := by decide +kernel
theorem dX2_purse_0 : decode cX2_purse 0 = .ok (.aload_n 0, 1) := by decide +kernel
theorem dX2_purse_1 : decode cX2_purse 1 = .ok (.getfield 25, 3) := by decide +kernel
theorem dX2_purse_4 : decode cX2_purse 4 = .ok (.getfield 162, 3) := by decide +kernel
theorem dX2_purse_7 : decode cX2_purse 7 = .ok (.aload_n 0, 1) := by decide +kernel
theorem dX2_purse_8 : decode cX2_purse 8 = .ok (.getfield 25, 3) := by decide +kernel
theorem dX2_purse_11 : decode cX2_purse 11 = .ok (.iload_n 1, 1) := by decide +kernel
theorem dX2_purse_12 : decode cX2_purse 12 = .ok (.invokevirtual 90, 3) := by decide +kernel
theorem dX2_purse_15 : decode cX2_purse 15 = .ok (.invokestatic 194, 3) := by decide +kernel
theorem dX2_purse_18 : decode cX2_purse 18 = .ok (.ireturn, 1) := by decide +kernel
theorem dX2_heirPaid_0 : decode cX2_heirPaid 0 = .ok (.iload_n 1, 1) := by decide +kernel
theorem dX2_heirPaid_1 : decode cX2_heirPaid 1 = .ok (.ifCond .lt 20, 3) := by decide +kernel
theorem dX2_heirPaid_4 : decode cX2_heirPaid 4 = .ok (.iload_n 1, 1) := by decide +kernel
theorem dX2_heirPaid_5 : decode cX2_heirPaid 5 = .ok (.aload_n 0, 1) := by decide +kernel
theorem dX2_heirPaid_6 : decode cX2_heirPaid 6 = .ok (.getfield 32, 3) := by decide +kernel
theorem dX2_heirPaid_9 : decode cX2_heirPaid 9 = .ok (.if_icmp .ge 12, 3) := by decide +kernel
theorem dX2_heirPaid_12 : decode cX2_heirPaid 12 = .ok (.aload_n 0, 1) := by decide +kernel
theorem dX2_heirPaid_13 : decode cX2_heirPaid 13 = .ok (.getfield 29, 3) := by decide +kernel
theorem dX2_heirPaid_16 : decode cX2_heirPaid 16 = .ok (.iload_n 1, 1) := by decide +kernel
theorem dX2_heirPaid_17 : decode cX2_heirPaid 17 = .ok (.iaload, 1) := by decide +kernel
theorem dX2_heirPaid_18 : decode cX2_heirPaid 18 = .ok (.goto 4, 3) := by decide +kernel
theorem dX2_heirPaid_21 : decode cX2_heirPaid 21 = .ok (.iconst (-1), 1) := by decide +kernel
theorem dX2_heirPaid_22 : decode cX2_heirPaid 22 = .ok (.ireturn, 1) := by decide +kernel
theorem dX2_number_0 : decode cX2_number 0 = .ok (.iload_n 1, 1) := by decide +kernel
theorem dX2_number_1 : decode cX2_number 1 = .ok (.iconst 3, 1) := by decide +kernel
theorem dX2_number_2 : decode cX2_number 2 = .ok (.if_icmp .lt 20, 3) := by decide +kernel
theorem dX2_number_5 : decode cX2_number 5 = .ok (.iload_n 1, 1) := by decide +kernel
theorem dX2_number_6 : decode cX2_number 6 = .ok (.bipush 7, 2) := by decide +kernel
theorem dX2_number_8 : decode cX2_number 8 = .ok (.if_icmp .gt 14, 3) := by decide +kernel
theorem dX2_number_11 : decode cX2_number 11 = .ok (.aload_n 0, 1) := by decide +kernel
theorem dX2_number_12 : decode cX2_number 12 = .ok (.getfield 18, 3) := by decide +kernel
theorem dX2_number_15 : decode cX2_number 15 = .ok (.iload_n 1, 1) := by decide +kernel
theorem dX2_number_16 : decode cX2_number 16 = .ok (.iconst 3, 1) := by decide +kernel
theorem dX2_number_17 : decode cX2_number 17 = .ok (.isub, 1) := by decide +kernel
theorem dX2_number_18 : decode cX2_number 18 = .ok (.invokevirtual 75, 3) := by decide +kernel
theorem dX2_number_21 : decode cX2_number 21 = .ok (.ireturn, 1) := by decide +kernel
theorem dX2_number_22 : decode cX2_number 22 = .ok (.iload_n 1, 1) := by decide +kernel
theorem dX2_number_23 : decode cX2_number 23 = .ok (.bipush 14, 2) := by decide +kernel
theorem dX2_number_25 : decode cX2_number 25 = .ok (.if_icmp .lt 19, 3) := by decide +kernel
theorem dX2_number_28 : decode cX2_number 28 = .ok (.iload_n 1, 1) := by decide +kernel
theorem dX2_number_29 : decode cX2_number 29 = .ok (.bipush 19, 2) := by decide +kernel
theorem dX2_number_31 : decode cX2_number 31 = .ok (.if_icmp .ge 13, 3) := by decide +kernel
theorem dX2_number_34 : decode cX2_number 34 = .ok (.aload_n 0, 1) := by decide +kernel
theorem dX2_number_35 : decode cX2_number 35 = .ok (.getfield 9, 3) := by decide +kernel
theorem dX2_number_38 : decode cX2_number 38 = .ok (.iload_n 1, 1) := by decide +kernel
theorem dX2_number_39 : decode cX2_number 39 = .ok (.bipush 14, 2) := by decide +kernel
theorem dX2_number_41 : decode cX2_number 41 = .ok (.isub, 1) := by decide +kernel
theorem dX2_number_42 : decode cX2_number 42 = .ok (.iaload, 1) := by decide +kernel
theorem dX2_number_43 : decode cX2_number 43 = .ok (.ireturn, 1) := by decide +kernel
theorem dX2_number_44 : decode cX2_number 44 = .ok (.iload_n 1, 1) := by decide +kernel
theorem dX2_number_45 : decode cX2_number 45 = .ok (.tableswitch 190 0 13 #[71, 76, 84, 190, 190, 190, 190, 190, 92, 110, 138, 143, 161, 169], 71) := by decide +kernel
theorem dX2_number_116 : decode cX2_number 116 = .ok (.aload_n 0, 1) := by decide +kernel
theorem dX2_number_117 : decode cX2_number 117 = .ok (.getfield 39, 3) := by decide +kernel
theorem dX2_number_120 : decode cX2_number 120 = .ok (.ireturn, 1) := by decide +kernel
theorem dX2_number_121 : decode cX2_number 121 = .ok (.aload_n 0, 1) := by decide +kernel
theorem dX2_number_122 : decode cX2_number 122 = .ok (.getfield 18, 3) := by decide +kernel
theorem dX2_number_125 : decode cX2_number 125 = .ok (.getfield 62, 3) := by decide +kernel
theorem dX2_number_128 : decode cX2_number 128 = .ok (.ireturn, 1) := by decide +kernel
theorem dX2_number_129 : decode cX2_number 129 = .ok (.aload_n 0, 1) := by decide +kernel
theorem dX2_number_130 : decode cX2_number 130 = .ok (.getfield 25, 3) := by decide +kernel
theorem dX2_number_133 : decode cX2_number 133 = .ok (.getfield 96, 3) := by decide +kernel
theorem dX2_number_136 : decode cX2_number 136 = .ok (.ireturn, 1) := by decide +kernel
theorem dX2_number_137 : decode cX2_number 137 = .ok (.aload_n 0, 1) := by decide +kernel
theorem dX2_number_138 : decode cX2_number 138 = .ok (.getfield 18, 3) := by decide +kernel
theorem dX2_number_141 : decode cX2_number 141 = .ok (.getfield 65, 3) := by decide +kernel
theorem dX2_number_144 : decode cX2_number 144 = .ok (.aload_n 0, 1) := by decide +kernel
theorem dX2_number_145 : decode cX2_number 145 = .ok (.getfield 18, 3) := by decide +kernel
theorem dX2_number_148 : decode cX2_number 148 = .ok (.invokevirtual 197, 3) := by decide +kernel
theorem dX2_number_151 : decode cX2_number 151 = .ok (.invokestatic 194, 3) := by decide +kernel
theorem dX2_number_154 : decode cX2_number 154 = .ok (.ireturn, 1) := by decide +kernel
theorem dX2_number_155 : decode cX2_number 155 = .ok (.aload_n 0, 1) := by decide +kernel
theorem dX2_number_156 : decode cX2_number 156 = .ok (.getfield 18, 3) := by decide +kernel
theorem dX2_number_159 : decode cX2_number 159 = .ok (.getfield 65, 3) := by decide +kernel
theorem dX2_number_162 : decode cX2_number 162 = .ok (.aload_n 0, 1) := by decide +kernel
theorem dX2_number_163 : decode cX2_number 163 = .ok (.getfield 18, 3) := by decide +kernel
theorem dX2_number_166 : decode cX2_number 166 = .ok (.iconst 0, 1) := by decide +kernel
theorem dX2_number_167 : decode cX2_number 167 = .ok (.invokevirtual 75, 3) := by decide +kernel
theorem dX2_number_170 : decode cX2_number 170 = .ok (.aload_n 0, 1) := by decide +kernel
theorem dX2_number_171 : decode cX2_number 171 = .ok (.getfield 18, 3) := by decide +kernel
theorem dX2_number_174 : decode cX2_number 174 = .ok (.iconst 1, 1) := by decide +kernel
theorem dX2_number_175 : decode cX2_number 175 = .ok (.invokevirtual 75, 3) := by decide +kernel
theorem dX2_number_178 : decode cX2_number 178 = .ok (.ior, 1) := by decide +kernel
theorem dX2_number_179 : decode cX2_number 179 = .ok (.invokestatic 194, 3) := by decide +kernel
theorem dX2_number_182 : decode cX2_number 182 = .ok (.ireturn, 1) := by decide +kernel
theorem dX2_number_183 : decode cX2_number 183 = .ok (.aload_n 0, 1) := by decide +kernel
theorem dX2_number_184 : decode cX2_number 184 = .ok (.getfield 36, 3) := by decide +kernel
theorem dX2_number_187 : decode cX2_number 187 = .ok (.ireturn, 1) := by decide +kernel
theorem dX2_number_188 : decode cX2_number 188 = .ok (.aload_n 0, 1) := by decide +kernel
theorem dX2_number_189 : decode cX2_number 189 = .ok (.getfield 25, 3) := by decide +kernel
theorem dX2_number_192 : decode cX2_number 192 = .ok (.getfield 162, 3) := by decide +kernel
theorem dX2_number_195 : decode cX2_number 195 = .ok (.aload_n 0, 1) := by decide +kernel
theorem dX2_number_196 : decode cX2_number 196 = .ok (.getfield 25, 3) := by decide +kernel
theorem dX2_number_199 : decode cX2_number 199 = .ok (.invokevirtual 200, 3) := by decide +kernel
theorem dX2_number_202 : decode cX2_number 202 = .ok (.invokestatic 194, 3) := by decide +kernel
theorem dX2_number_205 : decode cX2_number 205 = .ok (.ireturn, 1) := by decide +kernel
theorem dX2_number_206 : decode cX2_number 206 = .ok (.aload_n 0, 1) := by decide +kernel
theorem dX2_number_207 : decode cX2_number 207 = .ok (.getfield 25, 3) := by decide +kernel
theorem dX2_number_210 : decode cX2_number 210 = .ok (.invokevirtual 184, 3) := by decide +kernel
theorem dX2_number_213 : decode cX2_number 213 = .ok (.ireturn, 1) := by decide +kernel
theorem dX2_number_214 : decode cX2_number 214 = .ok (.aload_n 0, 1) := by decide +kernel
theorem dX2_number_215 : decode cX2_number 215 = .ok (.getfield 25, 3) := by decide +kernel
theorem dX2_number_218 : decode cX2_number 218 = .ok (.getfield 97, 3) := by decide +kernel
theorem dX2_number_221 : decode cX2_number 221 = .ok (.aload_n 0, 1) := by decide +kernel
theorem dX2_number_222 : decode cX2_number 222 = .ok (.getfield 25, 3) := by decide +kernel
theorem dX2_number_225 : decode cX2_number 225 = .ok (.invokevirtual 200, 3) := by decide +kernel
theorem dX2_number_228 : decode cX2_number 228 = .ok (.invokestatic 190, 3) := by decide +kernel
theorem dX2_number_231 : decode cX2_number 231 = .ok (.invokestatic 79, 3) := by decide +kernel
theorem dX2_number_234 : decode cX2_number 234 = .ok (.ireturn, 1) := by decide +kernel
theorem dX2_number_235 : decode cX2_number 235 = .ok (.bipush (-2), 2) := by decide +kernel
theorem dX2_number_237 : decode cX2_number 237 = .ok (.ireturn, 1) := by decide +kernel
theorem dX2_whyNot_0 : decode cX2_whyNot 0 = .ok (.aload_n 0, 1) := by decide +kernel
theorem dX2_whyNot_1 : decode cX2_whyNot 1 = .ok (.getfield 18, 3) := by decide +kernel
theorem dX2_whyNot_4 : decode cX2_whyNot 4 = .ok (.iload_n 1, 1) := by decide +kernel
theorem dX2_whyNot_5 : decode cX2_whyNot 5 = .ok (.invokevirtual 68, 3) := by decide +kernel
theorem dX2_whyNot_8 : decode cX2_whyNot 8 = .ok (.ifCond .ne 5, 3) := by decide +kernel
theorem dX2_whyNot_11 : decode cX2_whyNot 11 = .ok (.iconst (-1), 1) := by decide +kernel
theorem dX2_whyNot_12 : decode cX2_whyNot 12 = .ok (.ireturn, 1) := by decide +kernel
theorem dX2_whyNot_13 : decode cX2_whyNot 13 = .ok (.aload_n 0, 1) := by decide +kernel
theorem dX2_whyNot_14 : decode cX2_whyNot 14 = .ok (.getfield 18, 3) := by decide +kernel
theorem dX2_whyNot_17 : decode cX2_whyNot 17 = .ok (.getfield 72, 3) := by decide +kernel
theorem dX2_whyNot_20 : decode cX2_whyNot 20 = .ok (.iload_n 1, 1) := by decide +kernel
theorem dX2_whyNot_21 : decode cX2_whyNot 21 = .ok (.iaload, 1) := by decide +kernel
theorem dX2_whyNot_22 : decode cX2_whyNot 22 = .ok (.iconst 1, 1) := by decide +kernel
theorem dX2_whyNot_23 : decode cX2_whyNot 23 = .ok (.if_icmp .eq 5, 3) := by decide +kernel
theorem dX2_whyNot_26 : decode cX2_whyNot 26 = .ok (.iconst 1, 1) := by decide +kernel
theorem dX2_whyNot_27 : decode cX2_whyNot 27 = .ok (.ireturn, 1) := by decide +kernel
theorem dX2_whyNot_28 : decode cX2_whyNot 28 = .ok (.aload_n 0, 1) := by decide +kernel
theorem dX2_whyNot_29 : decode cX2_whyNot 29 = .ok (.getfield 25, 3) := by decide +kernel
theorem dX2_whyNot_32 : decode cX2_whyNot 32 = .ok (.iload_n 1, 1) := by decide +kernel
theorem dX2_whyNot_33 : decode cX2_whyNot 33 = .ok (.invokevirtual 135, 3) := by decide +kernel
theorem dX2_whyNot_36 : decode cX2_whyNot 36 = .ok (.ifCond .eq 5, 3) := by decide +kernel
theorem dX2_whyNot_39 : decode cX2_whyNot 39 = .ok (.iconst 2, 1) := by decide +kernel
theorem dX2_whyNot_40 : decode cX2_whyNot 40 = .ok (.ireturn, 1) := by decide +kernel
theorem dX2_whyNot_41 : decode cX2_whyNot 41 = .ok (.aload_n 0, 1) := by decide +kernel
theorem dX2_whyNot_42 : decode cX2_whyNot 42 = .ok (.getfield 25, 3) := by decide +kernel
theorem dX2_whyNot_45 : decode cX2_whyNot 45 = .ok (.iload_n 1, 1) := by decide +kernel
theorem dX2_whyNot_46 : decode cX2_whyNot 46 = .ok (.invokevirtual 132, 3) := by decide +kernel
theorem dX2_whyNot_49 : decode cX2_whyNot 49 = .ok (.ifCond .eq 7, 3) := by decide +kernel
theorem dX2_whyNot_52 : decode cX2_whyNot 52 = .ok (.iconst 3, 1) := by decide +kernel
theorem dX2_whyNot_53 : decode cX2_whyNot 53 = .ok (.goto 4, 3) := by decide +kernel
theorem dX2_whyNot_56 : decode cX2_whyNot 56 = .ok (.iconst 0, 1) := by decide +kernel
theorem dX2_whyNot_57 : decode cX2_whyNot 57 = .ok (.ireturn, 1) := by decide +kernel
theorem dX2_daysToFall_0 : decode cX2_daysToFall 0 = .ok (.aload_n 0, 1) := by decide +kernel
theorem dX2_daysToFall_1 : decode cX2_daysToFall 1 = .ok (.getfield 18, 3) := by decide +kernel
theorem dX2_daysToFall_4 : decode cX2_daysToFall 4 = .ok (.iload_n 1, 1) := by decide +kernel
theorem dX2_daysToFall_5 : decode cX2_daysToFall 5 = .ok (.invokevirtual 68, 3) := by decide +kernel
theorem dX2_daysToFall_8 : decode cX2_daysToFall 8 = .ok (.ifCond .ne 5, 3) := by decide +kernel
theorem dX2_daysToFall_11 : decode cX2_daysToFall 11 = .ok (.iconst (-1), 1) := by decide +kernel
theorem dX2_daysToFall_12 : decode cX2_daysToFall 12 = .ok (.ireturn, 1) := by decide +kernel
theorem dX2_daysToFall_13 : decode cX2_daysToFall 13 = .ok (.aload_n 0, 1) := by decide +kernel
theorem dX2_daysToFall_14 : decode cX2_daysToFall 14 = .ok (.getfield 18, 3) := by decide +kernel
theorem dX2_daysToFall_17 : decode cX2_daysToFall 17 = .ok (.getfield 72, 3) := by decide +kernel
theorem dX2_daysToFall_20 : decode cX2_daysToFall 20 = .ok (.iload_n 1, 1) := by decide +kernel
theorem dX2_daysToFall_21 : decode cX2_daysToFall 21 = .ok (.iaload, 1) := by decide +kernel
theorem dX2_daysToFall_22 : decode cX2_daysToFall 22 = .ok (.iconst 1, 1) := by decide +kernel
theorem dX2_daysToFall_23 : decode cX2_daysToFall 23 = .ok (.if_icmp .eq 6, 3) := by decide +kernel
theorem dX2_daysToFall_26 : decode cX2_daysToFall 26 = .ok (.bipush (-5), 2) := by decide +kernel
theorem dX2_daysToFall_28 : decode cX2_daysToFall 28 = .ok (.ireturn, 1) := by decide +kernel
theorem dX2_daysToFall_29 : decode cX2_daysToFall 29 = .ok (.aload_n 0, 1) := by decide +kernel
theorem dX2_daysToFall_30 : decode cX2_daysToFall 30 = .ok (.getfield 25, 3) := by decide +kernel
theorem dX2_daysToFall_33 : decode cX2_daysToFall 33 = .ok (.iload_n 1, 1) := by decide +kernel
theorem dX2_daysToFall_34 : decode cX2_daysToFall 34 = .ok (.invokevirtual 132, 3) := by decide +kernel
theorem dX2_daysToFall_37 : decode cX2_daysToFall 37 = .ok (.ifCond .eq 6, 3) := by decide +kernel
theorem dX2_daysToFall_40 : decode cX2_daysToFall 40 = .ok (.bipush (-6), 2) := by decide +kernel
theorem dX2_daysToFall_42 : decode cX2_daysToFall 42 = .ok (.ireturn, 1) := by decide +kernel
theorem dX2_daysToFall_43 : decode cX2_daysToFall 43 = .ok (.aload_n 0, 1) := by decide +kernel
theorem dX2_daysToFall_44 : decode cX2_daysToFall 44 = .ok (.iload_n 1, 1) := by decide +kernel
theorem dX2_daysToFall_45 : decode cX2_daysToFall 45 = .ok (.invokevirtual 201, 3) := by decide +kernel
theorem dX2_daysToFall_48 : decode cX2_daysToFall 48 = .ok (.iconst 1, 1) := by decide +kernel
theorem dX2_daysToFall_49 : decode cX2_daysToFall 49 = .ok (.aload_n 0, 1) := by decide +kernel
theorem dX2_daysToFall_50 : decode cX2_daysToFall 50 = .ok (.getfield 9, 3) := by decide +kernel
theorem dX2_daysToFall_53 : decode cX2_daysToFall 53 = .ok (.iconst 0, 1) := by decide +kernel
theorem dX2_daysToFall_54 : decode cX2_daysToFall 54 = .ok (.iaload, 1) := by decide +kernel
theorem dX2_daysToFall_55 : decode cX2_daysToFall 55 = .ok (.aload_n 0, 1) := by decide +kernel
theorem dX2_daysToFall_56 : decode cX2_daysToFall 56 = .ok (.getfield 18, 3) := by decide +kernel
theorem dX2_daysToFall_59 : decode cX2_daysToFall 59 = .ok (.getfield 175, 3) := by decide +kernel
theorem dX2_daysToFall_62 : decode cX2_daysToFall 62 = .ok (.iload_n 1, 1) := by decide +kernel
theorem dX2_daysToFall_63 : decode cX2_daysToFall 63 = .ok (.iaload, 1) := by decide +kernel
theorem dX2_daysToFall_64 : decode cX2_daysToFall 64 = .ok (.isub, 1) := by decide +kernel
theorem dX2_daysToFall_65 : decode cX2_daysToFall 65 = .ok (.invokestatic 204, 3) := by decide +kernel
theorem dX2_daysToFall_68 : decode cX2_daysToFall 68 = .ok (.iadd, 1) := by decide +kernel
theorem dX2_daysToFall_69 : decode cX2_daysToFall 69 = .ok (.ireturn, 1) := by decide +kernel
theorem dX2_idleDays_0 : decode cX2_idleDays 0 = .ok (.aload_n 0, 1) := by decide +kernel
theorem dX2_idleDays_1 : decode cX2_idleDays 1 = .ok (.getfield 25, 3) := by decide +kernel
theorem dX2_idleDays_4 : decode cX2_idleDays 4 = .ok (.iload_n 1, 1) := by decide +kernel
theorem dX2_idleDays_5 : decode cX2_idleDays 5 = .ok (.invokevirtual 135, 3) := by decide +kernel
theorem dX2_idleDays_8 : decode cX2_idleDays 8 = .ok (.istore_n 2, 1) := by decide +kernel
theorem dX2_idleDays_9 : decode cX2_idleDays 9 = .ok (.iconst 0, 1) := by decide +kernel
theorem dX2_idleDays_10 : decode cX2_idleDays 10 = .ok (.istore_n 3, 1) := by decide +kernel
theorem dX2_idleDays_11 : decode cX2_idleDays 11 = .ok (.iconst 0, 1) := by decide +kernel
theorem dX2_idleDays_12 : decode cX2_idleDays 12 = .ok (.istore 4, 2) := by decide +kernel
theorem dX2_idleDays_14 : decode cX2_idleDays 14 = .ok (.iload 4, 2) := by decide +kernel
theorem dX2_idleDays_16 : decode cX2_idleDays 16 = .ok (.aload_n 0, 1) := by decide +kernel
theorem dX2_idleDays_17 : decode cX2_idleDays 17 = .ok (.getfield 25, 3) := by decide +kernel
theorem dX2_idleDays_20 : decode cX2_idleDays 20 = .ok (.getfield 96, 3) := by decide +kernel
theorem dX2_idleDays_23 : decode cX2_idleDays 23 = .ok (.if_icmp .ge 31, 3) := by decide +kernel
theorem dX2_idleDays_26 : decode cX2_idleDays 26 = .ok (.iload_n 2, 1) := by decide +kernel
theorem dX2_idleDays_27 : decode cX2_idleDays 27 = .ok (.iload 4, 2) := by decide +kernel
theorem dX2_idleDays_29 : decode cX2_idleDays 29 = .ok (.invokestatic 144, 3) := by decide +kernel
theorem dX2_idleDays_32 : decode cX2_idleDays 32 = .ok (.ifCond .eq 16, 3) := by decide +kernel
theorem dX2_idleDays_35 : decode cX2_idleDays 35 = .ok (.iload_n 3, 1) := by decide +kernel
theorem dX2_idleDays_36 : decode cX2_idleDays 36 = .ok (.aload_n 0, 1) := by decide +kernel
theorem dX2_idleDays_37 : decode cX2_idleDays 37 = .ok (.iload 4, 2) := by decide +kernel
theorem dX2_idleDays_39 : decode cX2_idleDays 39 = .ok (.invokevirtual 207, 3) := by decide +kernel
theorem dX2_idleDays_42 : decode cX2_idleDays 42 = .ok (.iconst 1, 1) := by decide +kernel
theorem dX2_idleDays_43 : decode cX2_idleDays 43 = .ok (.isub, 1) := by decide +kernel
theorem dX2_idleDays_44 : decode cX2_idleDays 44 = .ok (.invokestatic 204, 3) := by decide +kernel
theorem dX2_idleDays_47 : decode cX2_idleDays 47 = .ok (.istore_n 3, 1) := by decide +kernel
theorem dX2_idleDays_48 : decode cX2_idleDays 48 = .ok (.iinc 4 1, 3) := by decide +kernel
theorem dX2_idleDays_51 : decode cX2_idleDays 51 = .ok (.goto (-37), 3) := by decide +kernel
theorem dX2_idleDays_54 : decode cX2_idleDays 54 = .ok (.iload_n 3, 1) := by decide +kernel
theorem dX2_idleDays_55 : decode cX2_idleDays 55 = .ok (.ireturn, 1) := by decide +kernel
theorem dX2_daysToLapse_0 : decode cX2_daysToLapse 0 = .ok (.iconst 1, 1) := by decide +kernel
theorem dX2_daysToLapse_1 : decode cX2_daysToLapse 1 = .ok (.aload_n 0, 1) := by decide +kernel
theorem dX2_daysToLapse_2 : decode cX2_daysToLapse 2 = .ok (.getfield 9, 3) := by decide +kernel
theorem dX2_daysToLapse_5 : decode cX2_daysToLapse 5 = .ok (.iconst 2, 1) := by decide +kernel
theorem dX2_daysToLapse_6 : decode cX2_daysToLapse 6 = .ok (.iaload, 1) := by decide +kernel
theorem dX2_daysToLapse_7 : decode cX2_daysToLapse 7 = .ok (.aload_n 0, 1) := by decide +kernel
theorem dX2_daysToLapse_8 : decode cX2_daysToLapse 8 = .ok (.getfield 25, 3) := by decide +kernel
theorem dX2_daysToLapse_11 : decode cX2_daysToLapse 11 = .ok (.getfield 125, 3) := by decide +kernel
theorem dX2_daysToLapse_14 : decode cX2_daysToLapse 14 = .ok (.iload_n 1, 1) := by decide +kernel
theorem dX2_daysToLapse_15 : decode cX2_daysToLapse 15 = .ok (.iaload, 1) := by decide +kernel
theorem dX2_daysToLapse_16 : decode cX2_daysToLapse 16 = .ok (.isub, 1) := by decide +kernel
theorem dX2_daysToLapse_17 : decode cX2_daysToLapse 17 = .ok (.invokestatic 204, 3) := by decide +kernel
theorem dX2_daysToLapse_20 : decode cX2_daysToLapse 20 = .ok (.ireturn, 1) := by decide +kernel
theorem dX2_wouldGet_0 : decode cX2_wouldGet 0 = .ok (.aload_n 0, 1) := by decide +kernel
theorem dX2_wouldGet_1 : decode cX2_wouldGet 1 = .ok (.getfield 18, 3) := by decide +kernel
theorem dX2_wouldGet_4 : decode cX2_wouldGet 4 = .ok (.iload_n 1, 1) := by decide +kernel
theorem dX2_wouldGet_5 : decode cX2_wouldGet 5 = .ok (.invokevirtual 68, 3) := by decide +kernel
theorem dX2_wouldGet_8 : decode cX2_wouldGet 8 = .ok (.ifCond .eq 10, 3) := by decide +kernel
theorem dX2_wouldGet_11 : decode cX2_wouldGet 11 = .ok (.iload_n 2, 1) := by decide +kernel
theorem dX2_wouldGet_12 : decode cX2_wouldGet 12 = .ok (.invokestatic 84, 3) := by decide +kernel
theorem dX2_wouldGet_15 : decode cX2_wouldGet 15 = .ok (.ifCond .ne 5, 3) := by decide +kernel
theorem dX2_wouldGet_18 : decode cX2_wouldGet 18 = .ok (.iconst (-1), 1) := by decide +kernel
theorem dX2_wouldGet_19 : decode cX2_wouldGet 19 = .ok (.ireturn, 1) := by decide +kernel
theorem dX2_wouldGet_20 : decode cX2_wouldGet 20 = .ok (.iload_n 3, 1) := by decide +kernel
theorem dX2_wouldGet_21 : decode cX2_wouldGet 21 = .ok (.ifCond .eq 11, 3) := by decide +kernel
theorem dX2_wouldGet_24 : decode cX2_wouldGet 24 = .ok (.iload_n 3, 1) := by decide +kernel
theorem dX2_wouldGet_25 : decode cX2_wouldGet 25 = .ok (.iconst 1, 1) := by decide +kernel
theorem dX2_wouldGet_26 : decode cX2_wouldGet 26 = .ok (.if_icmp .eq 6, 3) := by decide +kernel
theorem dX2_wouldGet_29 : decode cX2_wouldGet 29 = .ok (.bipush (-2), 2) := by decide +kernel
theorem dX2_wouldGet_31 : decode cX2_wouldGet 31 = .ok (.ireturn, 1) := by decide +kernel
theorem dX2_wouldGet_32 : decode cX2_wouldGet 32 = .ok (.aload_n 0, 1) := by decide +kernel
theorem dX2_wouldGet_33 : decode cX2_wouldGet 33 = .ok (.getfield 18, 3) := by decide +kernel
theorem dX2_wouldGet_36 : decode cX2_wouldGet 36 = .ok (.iload_n 1, 1) := by decide +kernel
theorem dX2_wouldGet_37 : decode cX2_wouldGet 37 = .ok (.invokevirtual 109, 3) := by decide +kernel
theorem dX2_wouldGet_40 : decode cX2_wouldGet 40 = .ok (.ifCond .eq 6, 3) := by decide +kernel
theorem dX2_wouldGet_43 : decode cX2_wouldGet 43 = .ok (.bipush (-5), 2) := by decide +kernel
theorem dX2_wouldGet_45 : decode cX2_wouldGet 45 = .ok (.ireturn, 1) := by decide +kernel
theorem dX2_wouldGet_46 : decode cX2_wouldGet 46 = .ok (.aload_n 0, 1) := by decide +kernel
theorem dX2_wouldGet_47 : decode cX2_wouldGet 47 = .ok (.getfield 25, 3) := by decide +kernel
theorem dX2_wouldGet_50 : decode cX2_wouldGet 50 = .ok (.iload_n 3, 1) := by decide +kernel
theorem dX2_wouldGet_51 : decode cX2_wouldGet 51 = .ok (.ifCond .ne 14, 3) := by decide +kernel
theorem dX2_wouldGet_54 : decode cX2_wouldGet 54 = .ok (.aload_n 0, 1) := by decide +kernel
theorem dX2_wouldGet_55 : decode cX2_wouldGet 55 = .ok (.getfield 25, 3) := by decide +kernel
theorem dX2_wouldGet_58 : decode cX2_wouldGet 58 = .ok (.iload_n 1, 1) := by decide +kernel
theorem dX2_wouldGet_59 : decode cX2_wouldGet 59 = .ok (.invokevirtual 132, 3) := by decide +kernel
theorem dX2_wouldGet_62 : decode cX2_wouldGet 62 = .ok (.goto 11, 3) := by decide +kernel
theorem dX2_wouldGet_65 : decode cX2_wouldGet 65 = .ok (.aload_n 0, 1) := by decide +kernel
theorem dX2_wouldGet_66 : decode cX2_wouldGet 66 = .ok (.getfield 25, 3) := by decide +kernel
theorem dX2_wouldGet_69 : decode cX2_wouldGet 69 = .ok (.iload_n 1, 1) := by decide +kernel
theorem dX2_wouldGet_70 : decode cX2_wouldGet 70 = .ok (.invokevirtual 93, 3) := by decide +kernel
theorem dX2_wouldGet_73 : decode cX2_wouldGet 73 = .ok (.invokevirtual 141, 3) := by decide +kernel
theorem dX2_wouldGet_76 : decode cX2_wouldGet 76 = .ok (.istore 4, 2) := by decide +kernel
theorem dX2_wouldGet_78 : decode cX2_wouldGet 78 = .ok (.aload_n 0, 1) := by decide +kernel
theorem dX2_wouldGet_79 : decode cX2_wouldGet 79 = .ok (.iload_n 1, 1) := by decide +kernel
theorem dX2_wouldGet_80 : decode cX2_wouldGet 80 = .ok (.invokevirtual 138, 3) := by decide +kernel
theorem dX2_wouldGet_83 : decode cX2_wouldGet 83 = .ok (.iload 4, 2) := by decide +kernel
theorem dX2_wouldGet_85 : decode cX2_wouldGet 85 = .ok (.iload 4, 2) := by decide +kernel
theorem dX2_wouldGet_87 : decode cX2_wouldGet 87 = .ok (.aload_n 0, 1) := by decide +kernel
theorem dX2_wouldGet_88 : decode cX2_wouldGet 88 = .ok (.getfield 25, 3) := by decide +kernel
theorem dX2_wouldGet_91 : decode cX2_wouldGet 91 = .ok (.iload_n 2, 1) := by decide +kernel
theorem dX2_wouldGet_92 : decode cX2_wouldGet 92 = .ok (.invokevirtual 90, 3) := by decide +kernel
theorem dX2_wouldGet_95 : decode cX2_wouldGet 95 = .ok (.iand, 1) := by decide +kernel
theorem dX2_wouldGet_96 : decode cX2_wouldGet 96 = .ok (.invokestatic 148, 3) := by decide +kernel
theorem dX2_wouldGet_99 : decode cX2_wouldGet 99 = .ok (.ireturn, 1) := by decide +kernel
theorem dX2_firstFall_0 : decode cX2_firstFall 0 = .ok (.iload_n 1, 1) := by decide +kernel
theorem dX2_firstFall_1 : decode cX2_firstFall 1 = .ok (.ifCond .eq 11, 3) := by decide +kernel
theorem dX2_firstFall_4 : decode cX2_firstFall 4 = .ok (.iload_n 1, 1) := by decide +kernel
theorem dX2_firstFall_5 : decode cX2_firstFall 5 = .ok (.iconst 1, 1) := by decide +kernel
theorem dX2_firstFall_6 : decode cX2_firstFall 6 = .ok (.if_icmp .eq 6, 3) := by decide +kernel
theorem dX2_firstFall_9 : decode cX2_firstFall 9 = .ok (.bipush (-2), 2) := by decide +kernel
theorem dX2_firstFall_11 : decode cX2_firstFall 11 = .ok (.ireturn, 1) := by decide +kernel
theorem dX2_firstFall_12 : decode cX2_firstFall 12 = .ok (.bipush (-6), 2) := by decide +kernel
theorem dX2_firstFall_14 : decode cX2_firstFall 14 = .ok (.istore_n 2, 1) := by decide +kernel
theorem dX2_firstFall_15 : decode cX2_firstFall 15 = .ok (.bipush (-6), 2) := by decide +kernel
theorem dX2_firstFall_17 : decode cX2_firstFall 17 = .ok (.istore_n 3, 1) := by decide +kernel
theorem dX2_firstFall_18 : decode cX2_firstFall 18 = .ok (.iconst 0, 1) := by decide +kernel
theorem dX2_firstFall_19 : decode cX2_firstFall 19 = .ok (.istore 4, 2) := by decide +kernel
theorem dX2_firstFall_21 : decode cX2_firstFall 21 = .ok (.iload 4, 2) := by decide +kernel
theorem dX2_firstFall_23 : decode cX2_firstFall 23 = .ok (.aload_n 0, 1) := by decide +kernel
theorem dX2_firstFall_24 : decode cX2_firstFall 24 = .ok (.getfield 18, 3) := by decide +kernel
theorem dX2_firstFall_27 : decode cX2_firstFall 27 = .ok (.getfield 62, 3) := by decide +kernel
theorem dX2_firstFall_30 : decode cX2_firstFall 30 = .ok (.if_icmp .ge 40, 3) := by decide +kernel
theorem dX2_firstFall_33 : decode cX2_firstFall 33 = .ok (.aload_n 0, 1) := by decide +kernel
theorem dX2_firstFall_34 : decode cX2_firstFall 34 = .ok (.iload 4, 2) := by decide +kernel
theorem dX2_firstFall_36 : decode cX2_firstFall 36 = .ok (.invokevirtual 210, 3) := by decide +kernel
theorem dX2_firstFall_39 : decode cX2_firstFall 39 = .ok (.istore 5, 2) := by decide +kernel
theorem dX2_firstFall_41 : decode cX2_firstFall 41 = .ok (.iload 5, 2) := by decide +kernel
theorem dX2_firstFall_43 : decode cX2_firstFall 43 = .ok (.ifCond .le 21, 3) := by decide +kernel
theorem dX2_firstFall_46 : decode cX2_firstFall 46 = .ok (.iload_n 3, 1) := by decide +kernel
theorem dX2_firstFall_47 : decode cX2_firstFall 47 = .ok (.bipush (-6), 2) := by decide +kernel
theorem dX2_firstFall_49 : decode cX2_firstFall 49 = .ok (.if_icmp .eq 9, 3) := by decide +kernel
theorem dX2_firstFall_52 : decode cX2_firstFall 52 = .ok (.iload 5, 2) := by decide +kernel
theorem dX2_firstFall_54 : decode cX2_firstFall 54 = .ok (.iload_n 3, 1) := by decide +kernel
theorem dX2_firstFall_55 : decode cX2_firstFall 55 = .ok (.if_icmp .ge 9, 3) := by decide +kernel
theorem dX2_firstFall_58 : decode cX2_firstFall 58 = .ok (.iload 4, 2) := by decide +kernel
theorem dX2_firstFall_60 : decode cX2_firstFall 60 = .ok (.istore_n 2, 1) := by decide +kernel
theorem dX2_firstFall_61 : decode cX2_firstFall 61 = .ok (.iload 5, 2) := by decide +kernel
theorem dX2_firstFall_63 : decode cX2_firstFall 63 = .ok (.istore_n 3, 1) := by decide +kernel
theorem dX2_firstFall_64 : decode cX2_firstFall 64 = .ok (.iinc 4 1, 3) := by decide +kernel
theorem dX2_firstFall_67 : decode cX2_firstFall 67 = .ok (.goto (-46), 3) := by decide +kernel
theorem dX2_firstFall_70 : decode cX2_firstFall 70 = .ok (.iload_n 1, 1) := by decide +kernel
theorem dX2_firstFall_71 : decode cX2_firstFall 71 = .ok (.ifCond .ne 7, 3) := by decide +kernel
theorem dX2_firstFall_74 : decode cX2_firstFall 74 = .ok (.iload_n 2, 1) := by decide +kernel
theorem dX2_firstFall_75 : decode cX2_firstFall 75 = .ok (.goto 4, 3) := by decide +kernel
theorem dX2_firstFall_78 : decode cX2_firstFall 78 = .ok (.iload_n 3, 1) := by decide +kernel
theorem dX2_firstFall_79 : decode cX2_firstFall 79 = .ok (.ireturn, 1) := by decide +kernel
theorem dX2_firstLapse_0 : decode cX2_firstLapse 0 = .ok (.iload_n 1, 1) := by decide +kernel
theorem dX2_firstLapse_1 : decode cX2_firstLapse 1 = .ok (.ifCond .eq 11, 3) := by decide +kernel
theorem dX2_firstLapse_4 : decode cX2_firstLapse 4 = .ok (.iload_n 1, 1) := by decide +kernel
theorem dX2_firstLapse_5 : decode cX2_firstLapse 5 = .ok (.iconst 1, 1) := by decide +kernel
theorem dX2_firstLapse_6 : decode cX2_firstLapse 6 = .ok (.if_icmp .eq 6, 3) := by decide +kernel
theorem dX2_firstLapse_9 : decode cX2_firstLapse 9 = .ok (.bipush (-2), 2) := by decide +kernel
theorem dX2_firstLapse_11 : decode cX2_firstLapse 11 = .ok (.ireturn, 1) := by decide +kernel
theorem dX2_firstLapse_12 : decode cX2_firstLapse 12 = .ok (.bipush (-6), 2) := by decide +kernel
theorem dX2_firstLapse_14 : decode cX2_firstLapse 14 = .ok (.istore_n 2, 1) := by decide +kernel
theorem dX2_firstLapse_15 : decode cX2_firstLapse 15 = .ok (.iconst 0, 1) := by decide +kernel
theorem dX2_firstLapse_16 : decode cX2_firstLapse 16 = .ok (.istore_n 3, 1) := by decide +kernel
theorem dX2_firstLapse_17 : decode cX2_firstLapse 17 = .ok (.iload_n 3, 1) := by decide +kernel
theorem dX2_firstLapse_18 : decode cX2_firstLapse 18 = .ok (.aload_n 0, 1) := by decide +kernel
theorem dX2_firstLapse_19 : decode cX2_firstLapse 19 = .ok (.getfield 25, 3) := by decide +kernel
theorem dX2_firstLapse_22 : decode cX2_firstLapse 22 = .ok (.getfield 96, 3) := by decide +kernel
theorem dX2_firstLapse_25 : decode cX2_firstLapse 25 = .ok (.if_icmp .ge 37, 3) := by decide +kernel
theorem dX2_firstLapse_28 : decode cX2_firstLapse 28 = .ok (.aload_n 0, 1) := by decide +kernel
theorem dX2_firstLapse_29 : decode cX2_firstLapse 29 = .ok (.getfield 25, 3) := by decide +kernel
theorem dX2_firstLapse_32 : decode cX2_firstLapse 32 = .ok (.iload_n 3, 1) := by decide +kernel
theorem dX2_firstLapse_33 : decode cX2_firstLapse 33 = .ok (.invokevirtual 113, 3) := by decide +kernel
theorem dX2_firstLapse_36 : decode cX2_firstLapse 36 = .ok (.ifCond .eq 20, 3) := by decide +kernel
theorem dX2_firstLapse_39 : decode cX2_firstLapse 39 = .ok (.iload_n 2, 1) := by decide +kernel
theorem dX2_firstLapse_40 : decode cX2_firstLapse 40 = .ok (.bipush (-6), 2) := by decide +kernel
theorem dX2_firstLapse_42 : decode cX2_firstLapse 42 = .ok (.if_icmp .eq 12, 3) := by decide +kernel
theorem dX2_firstLapse_45 : decode cX2_firstLapse 45 = .ok (.aload_n 0, 1) := by decide +kernel
theorem dX2_firstLapse_46 : decode cX2_firstLapse 46 = .ok (.iload_n 3, 1) := by decide +kernel
theorem dX2_firstLapse_47 : decode cX2_firstLapse 47 = .ok (.iload_n 2, 1) := by decide +kernel
theorem dX2_firstLapse_48 : decode cX2_firstLapse 48 = .ok (.invokevirtual 213, 3) := by decide +kernel
theorem dX2_firstLapse_51 : decode cX2_firstLapse 51 = .ok (.ifCond .eq 5, 3) := by decide +kernel
theorem dX2_firstLapse_54 : decode cX2_firstLapse 54 = .ok (.iload_n 3, 1) := by decide +kernel
theorem dX2_firstLapse_55 : decode cX2_firstLapse 55 = .ok (.istore_n 2, 1) := by decide +kernel
theorem dX2_firstLapse_56 : decode cX2_firstLapse 56 = .ok (.iinc 3 1, 3) := by decide +kernel
theorem dX2_firstLapse_59 : decode cX2_firstLapse 59 = .ok (.goto (-42), 3) := by decide +kernel
theorem dX2_firstLapse_62 : decode cX2_firstLapse 62 = .ok (.iload_n 1, 1) := by decide +kernel
theorem dX2_firstLapse_63 : decode cX2_firstLapse 63 = .ok (.iconst 1, 1) := by decide +kernel
theorem dX2_firstLapse_64 : decode cX2_firstLapse 64 = .ok (.if_icmp .eq 9, 3) := by decide +kernel
theorem dX2_firstLapse_67 : decode cX2_firstLapse 67 = .ok (.iload_n 2, 1) := by decide +kernel
theorem dX2_firstLapse_68 : decode cX2_firstLapse 68 = .ok (.bipush (-6), 2) := by decide +kernel
theorem dX2_firstLapse_70 : decode cX2_firstLapse 70 = .ok (.if_icmp .ne 7, 3) := by decide +kernel
theorem dX2_firstLapse_73 : decode cX2_firstLapse 73 = .ok (.iload_n 2, 1) := by decide +kernel
theorem dX2_firstLapse_74 : decode cX2_firstLapse 74 = .ok (.goto 8, 3) := by decide +kernel
theorem dX2_firstLapse_77 : decode cX2_firstLapse 77 = .ok (.aload_n 0, 1) := by decide +kernel
theorem dX2_firstLapse_78 : decode cX2_firstLapse 78 = .ok (.iload_n 2, 1) := by decide +kernel
theorem dX2_firstLapse_79 : decode cX2_firstLapse 79 = .ok (.invokevirtual 207, 3) := by decide +kernel
theorem dX2_firstLapse_82 : decode cX2_firstLapse 82 = .ok (.ireturn, 1) := by decide +kernel
theorem dX2_lapsesAhead_0 : decode cX2_lapsesAhead 0 = .ok (.aload_n 0, 1) := by decide +kernel
theorem dX2_lapsesAhead_1 : decode cX2_lapsesAhead 1 = .ok (.iload_n 1, 1) := by decide +kernel
theorem dX2_lapsesAhead_2 : decode cX2_lapsesAhead 2 = .ok (.invokevirtual 207, 3) := by decide +kernel
theorem dX2_lapsesAhead_5 : decode cX2_lapsesAhead 5 = .ok (.istore_n 3, 1) := by decide +kernel
theorem dX2_lapsesAhead_6 : decode cX2_lapsesAhead 6 = .ok (.aload_n 0, 1) := by decide +kernel
theorem dX2_lapsesAhead_7 : decode cX2_lapsesAhead 7 = .ok (.iload_n 2, 1) := by decide +kernel
theorem dX2_lapsesAhead_8 : decode cX2_lapsesAhead 8 = .ok (.invokevirtual 207, 3) := by decide +kernel
theorem dX2_lapsesAhead_11 : decode cX2_lapsesAhead 11 = .ok (.istore 4, 2) := by decide +kernel
theorem dX2_lapsesAhead_13 : decode cX2_lapsesAhead 13 = .ok (.iload_n 3, 1) := by decide +kernel
theorem dX2_lapsesAhead_14 : decode cX2_lapsesAhead 14 = .ok (.iload 4, 2) := by decide +kernel
theorem dX2_lapsesAhead_16 : decode cX2_lapsesAhead 16 = .ok (.if_icmp .lt 30, 3) := by decide +kernel
theorem dX2_lapsesAhead_19 : decode cX2_lapsesAhead 19 = .ok (.iload_n 3, 1) := by decide +kernel
theorem dX2_lapsesAhead_20 : decode cX2_lapsesAhead 20 = .ok (.iload 4, 2) := by decide +kernel
theorem dX2_lapsesAhead_22 : decode cX2_lapsesAhead 22 = .ok (.if_icmp .ne 28, 3) := by decide +kernel
theorem dX2_lapsesAhead_25 : decode cX2_lapsesAhead 25 = .ok (.aload_n 0, 1) := by decide +kernel
theorem dX2_lapsesAhead_26 : decode cX2_lapsesAhead 26 = .ok (.getfield 25, 3) := by decide +kernel
theorem dX2_lapsesAhead_29 : decode cX2_lapsesAhead 29 = .ok (.getfield 100, 3) := by decide +kernel
theorem dX2_lapsesAhead_32 : decode cX2_lapsesAhead 32 = .ok (.iload_n 1, 1) := by decide +kernel
theorem dX2_lapsesAhead_33 : decode cX2_lapsesAhead 33 = .ok (.iaload, 1) := by decide +kernel
theorem dX2_lapsesAhead_34 : decode cX2_lapsesAhead 34 = .ok (.aload_n 0, 1) := by decide +kernel
theorem dX2_lapsesAhead_35 : decode cX2_lapsesAhead 35 = .ok (.getfield 25, 3) := by decide +kernel
theorem dX2_lapsesAhead_38 : decode cX2_lapsesAhead 38 = .ok (.getfield 100, 3) := by decide +kernel
theorem dX2_lapsesAhead_41 : decode cX2_lapsesAhead 41 = .ok (.iload_n 2, 1) := by decide +kernel
theorem dX2_lapsesAhead_42 : decode cX2_lapsesAhead 42 = .ok (.iaload, 1) := by decide +kernel
theorem dX2_lapsesAhead_43 : decode cX2_lapsesAhead 43 = .ok (.if_icmp .ge 7, 3) := by decide +kernel
theorem dX2_lapsesAhead_46 : decode cX2_lapsesAhead 46 = .ok (.iconst 1, 1) := by decide +kernel
theorem dX2_lapsesAhead_47 : decode cX2_lapsesAhead 47 = .ok (.goto 4, 3) := by decide +kernel
theorem dX2_lapsesAhead_50 : decode cX2_lapsesAhead 50 = .ok (.iconst 0, 1) := by decide +kernel
theorem dX2_lapsesAhead_51 : decode cX2_lapsesAhead 51 = .ok (.ireturn, 1) := by decide +kernel
theorem dX3_init_0 : decode cX3_init 0 = .ok (.aload_n 0, 1) := by decide +kernel
theorem dX3_init_1 : decode cX3_init 1 = .ok (.invokespecial 3, 3) := by decide +kernel
theorem dX3_init_4 : decode cX3_init 4 = .ok (.aload_n 0, 1) := by decide +kernel
theorem dX3_init_5 : decode cX3_init 5 = .ok (.bipush 80, 2) := by decide +kernel
theorem dX3_init_7 : decode cX3_init 7 = .ok (.newarray .char, 2) := by decide +kernel
theorem dX3_init_9 : decode cX3_init 9 = .ok (.putfield 9, 3) := by decide +kernel
theorem dX3_init_12 : decode cX3_init 12 = .ok (.aload_n 0, 1) := by decide +kernel
theorem dX3_init_13 : decode cX3_init 13 = .ok (.iconst 0, 1) := by decide +kernel
theorem dX3_init_14 : decode cX3_init 14 = .ok (.putfield 15, 3) := by decide +kernel
theorem dX3_init_17 : decode cX3_init 17 = .ok (.aload_n 0, 1) := by decide +kernel
theorem dX3_init_18 : decode cX3_init 18 = .ok (.iconst 0, 1) := by decide +kernel
theorem dX3_init_19 : decode cX3_init 19 = .ok (.putfield 19, 3) := by decide +kernel
theorem dX3_init_22 : decode cX3_init 22 = .ok (.aload_n 0, 1) := by decide +kernel
theorem dX3_init_23 : decode cX3_init 23 = .ok (.bipush 32, 2) := by decide +kernel
theorem dX3_init_25 : decode cX3_init 25 = .ok (.putfield 22, 3) := by decide +kernel
theorem dX3_init_28 : decode cX3_init 28 = .ok (.aload_n 0, 1) := by decide +kernel
theorem dX3_init_29 : decode cX3_init 29 = .ok (.iconst 0, 1) := by decide +kernel
theorem dX3_init_30 : decode cX3_init 30 = .ok (.putfield 26, 3) := by decide +kernel
theorem dX3_init_33 : decode cX3_init 33 = .ok (.aload_n 0, 1) := by decide +kernel
theorem dX3_init_34 : decode cX3_init 34 = .ok (.iconst 0, 1) := by decide +kernel
theorem dX3_init_35 : decode cX3_init 35 = .ok (.putfield 29, 3) := by decide +kernel
theorem dX3_init_38 : decode cX3_init 38 = .ok (.aload_n 0, 1) := by decide +kernel
theorem dX3_init_39 : decode cX3_init 39 = .ok (.iconst 0, 1) := by decide +kernel
theorem dX3_init_40 : decode cX3_init 40 = .ok (.putfield 32, 3) := by decide +kernel
theorem dX3_init_43 : decode cX3_init 43 = .ok (.return_, 1) := by decide +kernel
theorem dX3_empty_0 : decode cX3_empty 0 = .ok (.aload_n 0, 1) := by decide +kernel
theorem dX3_empty_1 : decode cX3_empty 1 = .ok (.getfield 15, 3) := by decide +kernel
theorem dX3_empty_4 : decode cX3_empty 4 = .ok (.istore_n 1, 1) := by decide +kernel
theorem dX3_empty_5 : decode cX3_empty 5 = .ok (.aload_n 0, 1) := by decide +kernel
theorem dX3_empty_6 : decode cX3_empty 6 = .ok (.iconst 0, 1) := by decide +kernel
theorem dX3_empty_7 : decode cX3_empty 7 = .ok (.putfield 15, 3) := by decide +kernel
theorem dX3_empty_10 : decode cX3_empty 10 = .ok (.iload_n 1, 1) := by decide +kernel
theorem dX3_empty_11 : decode cX3_empty 11 = .ok (.ireturn, 1) := by decide +kernel
theorem dX3_firstFault_0 : decode cX3_firstFault 0 = .ok (.aload_n 0, 1) := by decide +kernel
theorem dX3_firstFault_1 : decode cX3_firstFault 1 = .ok (.iconst 0, 1) := by decide +kernel
theorem dX3_firstFault_2 : decode cX3_firstFault 2 = .ok (.putfield 19, 3) := by decide +kernel
theorem dX3_firstFault_5 : decode cX3_firstFault 5 = .ok (.aload_n 0, 1) := by decide +kernel
theorem dX3_firstFault_6 : decode cX3_firstFault 6 = .ok (.invokevirtual 43, 3) := by decide +kernel
theorem dX3_firstFault_9 : decode cX3_firstFault 9 = .ok (.istore_n 1, 1) := by decide +kernel
theorem dX3_firstFault_10 : decode cX3_firstFault 10 = .ok (.iconst 1, 1) := by decide +kernel
theorem dX3_firstFault_11 : decode cX3_firstFault 11 = .ok (.istore_n 2, 1) := by decide +kernel
theorem dX3_firstFault_12 : decode cX3_firstFault 12 = .ok (.iload_n 1, 1) := by decide +kernel
theorem dX3_firstFault_13 : decode cX3_firstFault 13 = .ok (.ifCond .eq 48, 3) := by decide +kernel
theorem dX3_firstFault_16 : decode cX3_firstFault 16 = .ok (.aload_n 0, 1) := by decide +kernel
theorem dX3_firstFault_17 : decode cX3_firstFault 17 = .ok (.getfield 19, 3) := by decide +kernel
theorem dX3_firstFault_20 : decode cX3_firstFault 20 = .ok (.aload_n 0, 1) := by decide +kernel
theorem dX3_firstFault_21 : decode cX3_firstFault 21 = .ok (.getfield 15, 3) := by decide +kernel
theorem dX3_firstFault_24 : decode cX3_firstFault 24 = .ok (.if_icmp .ge 37, 3) := by decide +kernel
theorem dX3_firstFault_27 : decode cX3_firstFault 27 = .ok (.iload_n 2, 1) := by decide +kernel
theorem dX3_firstFault_28 : decode cX3_firstFault 28 = .ok (.bipush 80, 2) := by decide +kernel
theorem dX3_firstFault_30 : decode cX3_firstFault 30 = .ok (.if_icmp .ge 31, 3) := by decide +kernel
theorem dX3_firstFault_33 : decode cX3_firstFault 33 = .ok (.aload_n 0, 1) := by decide +kernel
theorem dX3_firstFault_34 : decode cX3_firstFault 34 = .ok (.bipush 59, 2) := by decide +kernel
theorem dX3_firstFault_36 : decode cX3_firstFault 36 = .ok (.invokevirtual 47, 3) := by decide +kernel
theorem dX3_firstFault_39 : decode cX3_firstFault 39 = .ok (.ifCond .eq 14, 3) := by decide +kernel
theorem dX3_firstFault_42 : decode cX3_firstFault 42 = .ok (.aload_n 0, 1) := by decide +kernel
theorem dX3_firstFault_43 : decode cX3_firstFault 43 = .ok (.invokevirtual 43, 3) := by decide +kernel
theorem dX3_firstFault_46 : decode cX3_firstFault 46 = .ok (.ifCond .eq 7, 3) := by decide +kernel
theorem dX3_firstFault_49 : decode cX3_firstFault 49 = .ok (.iconst 1, 1) := by decide +kernel
theorem dX3_firstFault_50 : decode cX3_firstFault 50 = .ok (.goto 4, 3) := by decide +kernel
theorem dX3_firstFault_53 : decode cX3_firstFault 53 = .ok (.iconst 0, 1) := by decide +kernel
theorem dX3_firstFault_54 : decode cX3_firstFault 54 = .ok (.istore_n 1, 1) := by decide +kernel
theorem dX3_firstFault_55 : decode cX3_firstFault 55 = .ok (.iinc 2 1, 3) := by decide +kernel
theorem dX3_firstFault_58 : decode cX3_firstFault 58 = .ok (.goto (-46), 3) := by decide +kernel
theorem dX3_firstFault_61 : decode cX3_firstFault 61 = .ok (.iload_n 1, 1) := by decide +kernel
theorem dX3_firstFault_62 : decode cX3_firstFault 62 = .ok (.ifCond .eq 8, 3) := by decide +kernel
theorem dX3_firstFault_65 : decode cX3_firstFault 65 = .ok (.bipush (-6), 2) := by decide +kernel
theorem dX3_firstFault_67 : decode cX3_firstFault 67 = .ok (.goto 7, 3) := by decide +kernel
theorem dX3_firstFault_70 : decode cX3_firstFault 70 = .ok (.aload_n 0, 1) := by decide +kernel
theorem dX3_firstFault_71 : decode cX3_firstFault 71 = .ok (.getfield 19, 3) := by decide +kernel
theorem dX3_firstFault_74 : decode cX3_firstFault 74 = .ok (.ireturn, 1) := by decide +kernel
theorem dX3_readOrder_0 : decode cX3_readOrder 0 = .ok (.aload_n 0, 1) := by decide +kernel
theorem dX3_readOrder_1 : decode cX3_readOrder 1 = .ok (.getfield 19, 3) := by decide +kernel
theorem dX3_readOrder_4 : decode cX3_readOrder 4 = .ok (.aload_n 0, 1) := by decide +kernel
theorem dX3_readOrder_5 : decode cX3_readOrder 5 = .ok (.getfield 15, 3) := by decide +kernel
theorem dX3_readOrder_8 : decode cX3_readOrder 8 = .ok (.if_icmp .lt 5, 3) := by decide +kernel
theorem dX3_readOrder_11 : decode cX3_readOrder 11 = .ok (.iconst 0, 1) := by decide +kernel
theorem dX3_readOrder_12 : decode cX3_readOrder 12 = .ok (.ireturn, 1) := by decide +kernel
theorem dX3_readOrder_13 : decode cX3_readOrder 13 = .ok (.aload_n 0, 1) := by decide +kernel
theorem dX3_readOrder_14 : decode cX3_readOrder 14 = .ok (.aload_n 0, 1) := by decide +kernel
theorem dX3_readOrder_15 : decode cX3_readOrder 15 = .ok (.getfield 9, 3) := by decide +kernel
theorem dX3_readOrder_18 : decode cX3_readOrder 18 = .ok (.aload_n 0, 1) := by decide +kernel
theorem dX3_readOrder_19 : decode cX3_readOrder 19 = .ok (.getfield 19, 3) := by decide +kernel
theorem dX3_readOrder_22 : decode cX3_readOrder 22 = .ok (.caload, 1) := by decide +kernel
theorem dX3_readOrder_23 : decode cX3_readOrder 23 = .ok (.putfield 22, 3) := by decide +kernel
theorem dX3_readOrder_26 : decode cX3_readOrder 26 = .ok (.aload_n 0, 1) := by decide +kernel
theorem dX3_readOrder_27 : decode cX3_readOrder 27 = .ok (.getfield 22, 3) := by decide +kernel
theorem dX3_readOrder_30 : decode cX3_readOrder 30 = .ok (.tableswitch 207 99 119 #[152, 98, 207, 207, 207, 207, 207, 207, 207, 98, 207, 98, 207, 113, 207, 207, 98, 98, 207, 207, 98], 98) := by decide +kernel
theorem dX3_readOrder_128 : decode cX3_readOrder 128 = .ok (.aload_n 0, 1) := by decide +kernel
theorem dX3_readOrder_129 : decode cX3_readOrder 129 = .ok (.dup, 1) := by decide +kernel
theorem dX3_readOrder_130 : decode cX3_readOrder 130 = .ok (.getfield 19, 3) := by decide +kernel
theorem dX3_readOrder_133 : decode cX3_readOrder 133 = .ok (.iconst 1, 1) := by decide +kernel
theorem dX3_readOrder_134 : decode cX3_readOrder 134 = .ok (.iadd, 1) := by decide +kernel
theorem dX3_readOrder_135 : decode cX3_readOrder 135 = .ok (.putfield 19, 3) := by decide +kernel
theorem dX3_readOrder_138 : decode cX3_readOrder 138 = .ok (.aload_n 0, 1) := by decide +kernel
theorem dX3_readOrder_139 : decode cX3_readOrder 139 = .ok (.invokevirtual 51, 3) := by decide +kernel
theorem dX3_readOrder_142 : decode cX3_readOrder 142 = .ok (.ireturn, 1) := by decide +kernel
theorem dX3_readOrder_143 : decode cX3_readOrder 143 = .ok (.aload_n 0, 1) := by decide +kernel
theorem dX3_readOrder_144 : decode cX3_readOrder 144 = .ok (.dup, 1) := by decide +kernel
theorem dX3_readOrder_145 : decode cX3_readOrder 145 = .ok (.getfield 19, 3) := by decide +kernel
theorem dX3_readOrder_148 : decode cX3_readOrder 148 = .ok (.iconst 1, 1) := by decide +kernel
theorem dX3_readOrder_149 : decode cX3_readOrder 149 = .ok (.iadd, 1) := by decide +kernel
theorem dX3_readOrder_150 : decode cX3_readOrder 150 = .ok (.putfield 19, 3) := by decide +kernel
theorem dX3_readOrder_153 : decode cX3_readOrder 153 = .ok (.aload_n 0, 1) := by decide +kernel
theorem dX3_readOrder_154 : decode cX3_readOrder 154 = .ok (.invokevirtual 51, 3) := by decide +kernel
theorem dX3_readOrder_157 : decode cX3_readOrder 157 = .ok (.ifCond .eq 23, 3) := by decide +kernel
theorem dX3_readOrder_160 : decode cX3_readOrder 160 = .ok (.aload_n 0, 1) := by decide +kernel
theorem dX3_readOrder_161 : decode cX3_readOrder 161 = .ok (.bipush 43, 2) := by decide +kernel
theorem dX3_readOrder_163 : decode cX3_readOrder 163 = .ok (.invokevirtual 47, 3) := by decide +kernel
theorem dX3_readOrder_166 : decode cX3_readOrder 166 = .ok (.ifCond .eq 14, 3) := by decide +kernel
theorem dX3_readOrder_169 : decode cX3_readOrder 169 = .ok (.aload_n 0, 1) := by decide +kernel
theorem dX3_readOrder_170 : decode cX3_readOrder 170 = .ok (.invokevirtual 54, 3) := by decide +kernel
theorem dX3_readOrder_173 : decode cX3_readOrder 173 = .ok (.ifCond .eq 7, 3) := by decide +kernel
theorem dX3_readOrder_176 : decode cX3_readOrder 176 = .ok (.iconst 1, 1) := by decide +kernel
theorem dX3_readOrder_177 : decode cX3_readOrder 177 = .ok (.goto 4, 3) := by decide +kernel
theorem dX3_readOrder_180 : decode cX3_readOrder 180 = .ok (.iconst 0, 1) := by decide +kernel
theorem dX3_readOrder_181 : decode cX3_readOrder 181 = .ok (.ireturn, 1) := by decide +kernel
theorem dX3_readOrder_182 : decode cX3_readOrder 182 = .ok (.aload_n 0, 1) := by decide +kernel
theorem dX3_readOrder_183 : decode cX3_readOrder 183 = .ok (.dup, 1) := by decide +kernel
theorem dX3_readOrder_184 : decode cX3_readOrder 184 = .ok (.getfield 19, 3) := by decide +kernel
theorem dX3_readOrder_187 : decode cX3_readOrder 187 = .ok (.iconst 1, 1) := by decide +kernel
theorem dX3_readOrder_188 : decode cX3_readOrder 188 = .ok (.iadd, 1) := by decide +kernel
theorem dX3_readOrder_189 : decode cX3_readOrder 189 = .ok (.putfield 19, 3) := by decide +kernel
theorem dX3_readOrder_192 : decode cX3_readOrder 192 = .ok (.aload_n 0, 1) := by decide +kernel
theorem dX3_readOrder_193 : decode cX3_readOrder 193 = .ok (.invokevirtual 51, 3) := by decide +kernel
theorem dX3_readOrder_196 : decode cX3_readOrder 196 = .ok (.ifCond .eq 39, 3) := by decide +kernel
theorem dX3_readOrder_199 : decode cX3_readOrder 199 = .ok (.aload_n 0, 1) := by decide +kernel
theorem dX3_readOrder_200 : decode cX3_readOrder 200 = .ok (.bipush 64, 2) := by decide +kernel
theorem dX3_readOrder_202 : decode cX3_readOrder 202 = .ok (.invokevirtual 47, 3) := by decide +kernel
theorem dX3_readOrder_205 : decode cX3_readOrder 205 = .ok (.ifCond .eq 30, 3) := by decide +kernel
theorem dX3_readOrder_208 : decode cX3_readOrder 208 = .ok (.aload_n 0, 1) := by decide +kernel
theorem dX3_readOrder_209 : decode cX3_readOrder 209 = .ok (.invokevirtual 54, 3) := by decide +kernel
theorem dX3_readOrder_212 : decode cX3_readOrder 212 = .ok (.ifCond .eq 23, 3) := by decide +kernel
theorem dX3_readOrder_215 : decode cX3_readOrder 215 = .ok (.aload_n 0, 1) := by decide +kernel
theorem dX3_readOrder_216 : decode cX3_readOrder 216 = .ok (.bipush 47, 2) := by decide +kernel
theorem dX3_readOrder_218 : decode cX3_readOrder 218 = .ok (.invokevirtual 47, 3) := by decide +kernel
theorem dX3_readOrder_221 : decode cX3_readOrder 221 = .ok (.ifCond .eq 14, 3) := by decide +kernel
theorem dX3_readOrder_224 : decode cX3_readOrder 224 = .ok (.aload_n 0, 1) := by decide +kernel
theorem dX3_readOrder_225 : decode cX3_readOrder 225 = .ok (.invokevirtual 57, 3) := by decide +kernel
theorem dX3_readOrder_228 : decode cX3_readOrder 228 = .ok (.ifCond .eq 7, 3) := by decide +kernel
theorem dX3_readOrder_231 : decode cX3_readOrder 231 = .ok (.iconst 1, 1) := by decide +kernel
theorem dX3_readOrder_232 : decode cX3_readOrder 232 = .ok (.goto 4, 3) := by decide +kernel
theorem dX3_readOrder_235 : decode cX3_readOrder 235 = .ok (.iconst 0, 1) := by decide +kernel
theorem dX3_readOrder_236 : decode cX3_readOrder 236 = .ok (.ireturn, 1) := by decide +kernel
theorem dX3_readOrder_237 : decode cX3_readOrder 237 = .ok (.iconst 0, 1) := by decide +kernel
theorem dX3_readOrder_238 : decode cX3_readOrder 238 = .ok (.ireturn, 1) := by decide +kernel
theorem dX3_readFirst_0 : decode cX3_readFirst 0 = .ok (.aload_n 0, 1) := by decide +kernel
theorem dX3_readFirst_1 : decode cX3_readFirst 1 = .ok (.aload_n 0, 1) := by decide +kernel
theorem dX3_readFirst_2 : decode cX3_readFirst 2 = .ok (.invokevirtual 60, 3) := by decide +kernel
theorem dX3_readFirst_5 : decode cX3_readFirst 5 = .ok (.putfield 26, 3) := by decide +kernel
theorem dX3_readFirst_8 : decode cX3_readFirst 8 = .ok (.aload_n 0, 1) := by decide +kernel
theorem dX3_readFirst_9 : decode cX3_readFirst 9 = .ok (.getfield 26, 3) := by decide +kernel
theorem dX3_readFirst_12 : decode cX3_readFirst 12 = .ok (.ifCond .lt 7, 3) := by decide +kernel
theorem dX3_readFirst_15 : decode cX3_readFirst 15 = .ok (.iconst 1, 1) := by decide +kernel
theorem dX3_readFirst_16 : decode cX3_readFirst 16 = .ok (.goto 4, 3) := by decide +kernel
theorem dX3_readFirst_19 : decode cX3_readFirst 19 = .ok (.iconst 0, 1) := by decide +kernel
theorem dX3_readFirst_20 : decode cX3_readFirst 20 = .ok (.ireturn, 1) := by decide +kernel
theorem dX3_readSecond_0 : decode cX3_readSecond 0 = .ok (.aload_n 0, 1) := by decide +kernel
theorem dX3_readSecond_1 : decode cX3_readSecond 1 = .ok (.aload_n 0, 1) := by decide +kernel
theorem dX3_readSecond_2 : decode cX3_readSecond 2 = .ok (.invokevirtual 60, 3) := by decide +kernel
theorem dX3_readSecond_5 : decode cX3_readSecond 5 = .ok (.putfield 29, 3) := by decide +kernel
theorem dX3_readSecond_8 : decode cX3_readSecond 8 = .ok (.aload_n 0, 1) := by decide +kernel
theorem dX3_readSecond_9 : decode cX3_readSecond 9 = .ok (.getfield 29, 3) := by decide +kernel
theorem dX3_readSecond_12 : decode cX3_readSecond 12 = .ok (.ifCond .lt 7, 3) := by decide +kernel
theorem dX3_readSecond_15 : decode cX3_readSecond 15 = .ok (.iconst 1, 1) := by decide +kernel
theorem dX3_readSecond_16 : decode cX3_readSecond 16 = .ok (.goto 4, 3) := by decide +kernel
theorem dX3_readSecond_19 : decode cX3_readSecond 19 = .ok (.iconst 0, 1) := by decide +kernel
theorem dX3_readSecond_20 : decode cX3_readSecond 20 = .ok (.ireturn, 1) := by decide +kernel
theorem dX3_readThird_0 : decode cX3_readThird 0 = .ok (.aload_n 0, 1) := by decide +kernel
theorem dX3_readThird_1 : decode cX3_readThird 1 = .ok (.aload_n 0, 1) := by decide +kernel
theorem dX3_readThird_2 : decode cX3_readThird 2 = .ok (.invokevirtual 64, 3) := by decide +kernel
theorem dX3_readThird_5 : decode cX3_readThird 5 = .ok (.putfield 32, 3) := by decide +kernel
theorem dX3_readThird_8 : decode cX3_readThird 8 = .ok (.aload_n 0, 1) := by decide +kernel
theorem dX3_readThird_9 : decode cX3_readThird 9 = .ok (.getfield 32, 3) := by decide +kernel
theorem dX3_readThird_12 : decode cX3_readThird 12 = .ok (.ifCond .lt 7, 3) := by decide +kernel
theorem dX3_readThird_15 : decode cX3_readThird 15 = .ok (.iconst 1, 1) := by decide +kernel
theorem dX3_readThird_16 : decode cX3_readThird 16 = .ok (.goto 4, 3) := by decide +kernel
theorem dX3_readThird_19 : decode cX3_readThird 19 = .ok (.iconst 0, 1) := by decide +kernel
theorem dX3_readThird_20 : decode cX3_readThird 20 = .ok (.ireturn, 1) := by decide +kernel
theorem dX3_readSign_0 : decode cX3_readSign 0 = .ok (.aload_n 0, 1) := by decide +kernel
theorem dX3_readSign_1 : decode cX3_readSign 1 = .ok (.getfield 19, 3) := by decide +kernel
theorem dX3_readSign_4 : decode cX3_readSign 4 = .ok (.aload_n 0, 1) := by decide +kernel
theorem dX3_readSign_5 : decode cX3_readSign 5 = .ok (.getfield 15, 3) := by decide +kernel
theorem dX3_readSign_8 : decode cX3_readSign 8 = .ok (.if_icmp .ge 16, 3) := by decide +kernel
theorem dX3_readSign_11 : decode cX3_readSign 11 = .ok (.aload_n 0, 1) := by decide +kernel
theorem dX3_readSign_12 : decode cX3_readSign 12 = .ok (.getfield 9, 3) := by decide +kernel
theorem dX3_readSign_15 : decode cX3_readSign 15 = .ok (.aload_n 0, 1) := by decide +kernel
theorem dX3_readSign_16 : decode cX3_readSign 16 = .ok (.getfield 19, 3) := by decide +kernel
theorem dX3_readSign_19 : decode cX3_readSign 19 = .ok (.caload, 1) := by decide +kernel
theorem dX3_readSign_20 : decode cX3_readSign 20 = .ok (.iload_n 1, 1) := by decide +kernel
theorem dX3_readSign_21 : decode cX3_readSign 21 = .ok (.if_icmp .eq 5, 3) := by decide +kernel
theorem dX3_readSign_24 : decode cX3_readSign 24 = .ok (.iconst 0, 1) := by decide +kernel
theorem dX3_readSign_25 : decode cX3_readSign 25 = .ok (.ireturn, 1) := by decide +kernel
theorem dX3_readSign_26 : decode cX3_readSign 26 = .ok (.aload_n 0, 1) := by decide +kernel
theorem dX3_readSign_27 : decode cX3_readSign 27 = .ok (.dup, 1) := by decide +kernel
theorem dX3_readSign_28 : decode cX3_readSign 28 = .ok (.getfield 19, 3) := by decide +kernel
theorem dX3_readSign_31 : decode cX3_readSign 31 = .ok (.iconst 1, 1) := by decide +kernel
theorem dX3_readSign_32 : decode cX3_readSign 32 = .ok (.iadd, 1) := by decide +kernel
theorem dX3_readSign_33 : decode cX3_readSign 33 = .ok (.putfield 19, 3) := by decide +kernel
theorem dX3_readSign_36 : decode cX3_readSign 36 = .ok (.iconst 1, 1) := by decide +kernel
theorem dX3_readSign_37 : decode cX3_readSign 37 = .ok (.ireturn, 1) := by decide +kernel
theorem dX3_readNumber_0 : decode cX3_readNumber 0 = .ok (.aload_n 0, 1) := by decide +kernel
theorem dX3_readNumber_1 : decode cX3_readNumber 1 = .ok (.invokevirtual 64, 3) := by decide +kernel
theorem dX3_readNumber_4 : decode cX3_readNumber 4 = .ok (.istore_n 1, 1) := by decide +kernel
theorem dX3_readNumber_5 : decode cX3_readNumber 5 = .ok (.iload_n 1, 1) := by decide +kernel
theorem dX3_readNumber_6 : decode cX3_readNumber 6 = .ok (.ifCond .gt 5, 3) := by decide +kernel
theorem dX3_readNumber_9 : decode cX3_readNumber 9 = .ok (.iload_n 1, 1) := by decide +kernel
theorem dX3_readNumber_10 : decode cX3_readNumber 10 = .ok (.ireturn, 1) := by decide +kernel
theorem dX3_readNumber_11 : decode cX3_readNumber 11 = .ok (.iconst 1, 1) := by decide +kernel
theorem dX3_readNumber_12 : decode cX3_readNumber 12 = .ok (.istore_n 2, 1) := by decide +kernel
theorem dX3_readNumber_13 : decode cX3_readNumber 13 = .ok (.iload_n 2, 1) := by decide +kernel
theorem dX3_readNumber_14 : decode cX3_readNumber 14 = .ok (.iconst 4, 1) := by decide +kernel
theorem dX3_readNumber_15 : decode cX3_readNumber 15 = .ok (.if_icmp .ge 27, 3) := by decide +kernel
theorem dX3_readNumber_18 : decode cX3_readNumber 18 = .ok (.aload_n 0, 1) := by decide +kernel
theorem dX3_readNumber_19 : decode cX3_readNumber 19 = .ok (.invokevirtual 64, 3) := by decide +kernel
theorem dX3_readNumber_22 : decode cX3_readNumber 22 = .ok (.istore_n 3, 1) := by decide +kernel
theorem dX3_readNumber_23 : decode cX3_readNumber 23 = .ok (.iload_n 3, 1) := by decide +kernel
theorem dX3_readNumber_24 : decode cX3_readNumber 24 = .ok (.ifCond .ge 5, 3) := by decide +kernel
theorem dX3_readNumber_27 : decode cX3_readNumber 27 = .ok (.iload_n 1, 1) := by decide +kernel
theorem dX3_readNumber_28 : decode cX3_readNumber 28 = .ok (.ireturn, 1) := by decide +kernel
theorem dX3_readNumber_29 : decode cX3_readNumber 29 = .ok (.iload_n 1, 1) := by decide +kernel
theorem dX3_readNumber_30 : decode cX3_readNumber 30 = .ok (.bipush 10, 2) := by decide +kernel
theorem dX3_readNumber_32 : decode cX3_readNumber 32 = .ok (.imul, 1) := by decide +kernel
theorem dX3_readNumber_33 : decode cX3_readNumber 33 = .ok (.iload_n 3, 1) := by decide +kernel
theorem dX3_readNumber_34 : decode cX3_readNumber 34 = .ok (.iadd, 1) := by decide +kernel
theorem dX3_readNumber_35 : decode cX3_readNumber 35 = .ok (.istore_n 1, 1) := by decide +kernel
theorem dX3_readNumber_36 : decode cX3_readNumber 36 = .ok (.iinc 2 1, 3) := by decide +kernel
theorem dX3_readNumber_39 : decode cX3_readNumber 39 = .ok (.goto (-26), 3) := by decide +kernel
theorem dX3_readNumber_42 : decode cX3_readNumber 42 = .ok (.iload_n 1, 1) := by decide +kernel
theorem dX3_readNumber_43 : decode cX3_readNumber 43 = .ok (.ireturn, 1) := by decide +kernel
theorem dX3_readDigit_0 : decode cX3_readDigit 0 = .ok (.aload_n 0, 1) := by decide +kernel
theorem dX3_readDigit_1 : decode cX3_readDigit 1 = .ok (.getfield 19, 3) := by decide +kernel
theorem dX3_readDigit_4 : decode cX3_readDigit 4 = .ok (.aload_n 0, 1) := by decide +kernel
theorem dX3_readDigit_5 : decode cX3_readDigit 5 = .ok (.getfield 15, 3) := by decide +kernel
theorem dX3_readDigit_8 : decode cX3_readDigit 8 = .ok (.if_icmp .ge 31, 3) := by decide +kernel
theorem dX3_readDigit_11 : decode cX3_readDigit 11 = .ok (.aload_n 0, 1) := by decide +kernel
theorem dX3_readDigit_12 : decode cX3_readDigit 12 = .ok (.getfield 9, 3) := by decide +kernel
theorem dX3_readDigit_15 : decode cX3_readDigit 15 = .ok (.aload_n 0, 1) := by decide +kernel
theorem dX3_readDigit_16 : decode cX3_readDigit 16 = .ok (.getfield 19, 3) := by decide +kernel
theorem dX3_readDigit_19 : decode cX3_readDigit 19 = .ok (.caload, 1) := by decide +kernel
theorem dX3_readDigit_20 : decode cX3_readDigit 20 = .ok (.bipush 48, 2) := by decide +kernel
theorem dX3_readDigit_22 : decode cX3_readDigit 22 = .ok (.if_icmp .lt 17, 3) := by decide +kernel
theorem dX3_readDigit_25 : decode cX3_readDigit 25 = .ok (.aload_n 0, 1) := by decide +kernel
theorem dX3_readDigit_26 : decode cX3_readDigit 26 = .ok (.getfield 9, 3) := by decide +kernel
theorem dX3_readDigit_29 : decode cX3_readDigit 29 = .ok (.aload_n 0, 1) := by decide +kernel
theorem dX3_readDigit_30 : decode cX3_readDigit 30 = .ok (.getfield 19, 3) := by decide +kernel
theorem dX3_readDigit_33 : decode cX3_readDigit 33 = .ok (.caload, 1) := by decide +kernel
theorem dX3_readDigit_34 : decode cX3_readDigit 34 = .ok (.bipush 57, 2) := by decide +kernel
theorem dX3_readDigit_36 : decode cX3_readDigit 36 = .ok (.if_icmp .le 5, 3) := by decide +kernel
theorem dX3_readDigit_39 : decode cX3_readDigit 39 = .ok (.iconst (-1), 1) := by decide +kernel
theorem dX3_readDigit_40 : decode cX3_readDigit 40 = .ok (.ireturn, 1) := by decide +kernel
theorem dX3_readDigit_41 : decode cX3_readDigit 41 = .ok (.aload_n 0, 1) := by decide +kernel
theorem dX3_readDigit_42 : decode cX3_readDigit 42 = .ok (.getfield 9, 3) := by decide +kernel
theorem dX3_readDigit_45 : decode cX3_readDigit 45 = .ok (.aload_n 0, 1) := by decide +kernel
theorem dX3_readDigit_46 : decode cX3_readDigit 46 = .ok (.getfield 19, 3) := by decide +kernel
theorem dX3_readDigit_49 : decode cX3_readDigit 49 = .ok (.caload, 1) := by decide +kernel
theorem dX3_readDigit_50 : decode cX3_readDigit 50 = .ok (.bipush 48, 2) := by decide +kernel
theorem dX3_readDigit_52 : decode cX3_readDigit 52 = .ok (.isub, 1) := by decide +kernel
theorem dX3_readDigit_53 : decode cX3_readDigit 53 = .ok (.istore_n 1, 1) := by decide +kernel
theorem dX3_readDigit_54 : decode cX3_readDigit 54 = .ok (.aload_n 0, 1) := by decide +kernel
theorem dX3_readDigit_55 : decode cX3_readDigit 55 = .ok (.dup, 1) := by decide +kernel
theorem dX3_readDigit_56 : decode cX3_readDigit 56 = .ok (.getfield 19, 3) := by decide +kernel
theorem dX3_readDigit_59 : decode cX3_readDigit 59 = .ok (.iconst 1, 1) := by decide +kernel
theorem dX3_readDigit_60 : decode cX3_readDigit 60 = .ok (.iadd, 1) := by decide +kernel
theorem dX3_readDigit_61 : decode cX3_readDigit 61 = .ok (.putfield 19, 3) := by decide +kernel
theorem dX3_readDigit_64 : decode cX3_readDigit 64 = .ok (.iload_n 1, 1) := by decide +kernel
theorem dX3_readDigit_65 : decode cX3_readDigit 65 = .ok (.ireturn, 1) := by decide +kernel
theorem dX4_init_0 : decode cX4_init 0 = .ok (.aload_n 0, 1) := by decide +kernel
theorem dX4_init_1 : decode cX4_init 1 = .ok (.invokespecial 1, 3) := by decide +kernel
theorem dX4_init_4 : decode cX4_init 4 = .ok (.aload_n 0, 1) := by decide +kernel
theorem dX4_init_5 : decode cX4_init 5 = .ok (.new 7, 3) := by decide +kernel
theorem dX4_init_8 : decode cX4_init 8 = .ok (.dup, 1) := by decide +kernel
theorem dX4_init_9 : decode cX4_init 9 = .ok (.invokespecial 9, 3) := by decide +kernel
theorem dX4_init_12 : decode cX4_init 12 = .ok (.putfield 10, 3) := by decide +kernel
theorem dX4_init_15 : decode cX4_init 15 = .ok (.aload_n 0, 1) := by decide +kernel
theorem dX4_init_16 : decode cX4_init 16 = .ok (.new 16, 3) := by decide +kernel
theorem dX4_init_19 : decode cX4_init 19 = .ok (.dup, 1) := by decide +kernel
theorem dX4_init_20 : decode cX4_init 20 = .ok (.invokespecial 18, 3) := by decide +kernel
theorem dX4_init_23 : decode cX4_init 23 = .ok (.putfield 19, 3) := by decide +kernel
theorem dX4_init_26 : decode cX4_init 26 = .ok (.aload_n 0, 1) := by decide +kernel
theorem dX4_init_27 : decode cX4_init 27 = .ok (.bipush 7, 2) := by decide +kernel
theorem dX4_init_29 : decode cX4_init 29 = .ok (.anewarray 7, 3) := by decide +kernel
theorem dX4_init_32 : decode cX4_init 32 = .ok (.putfield 23, 3) := by decide +kernel
theorem dX4_init_35 : decode cX4_init 35 = .ok (.aload_n 0, 1) := by decide +kernel
theorem dX4_init_36 : decode cX4_init 36 = .ok (.iconst 0, 1) := by decide +kernel
theorem dX4_init_37 : decode cX4_init 37 = .ok (.putfield 27, 3) := by decide +kernel
theorem dX4_init_40 : decode cX4_init 40 = .ok (.aload_n 0, 1) := by decide +kernel
theorem dX4_init_41 : decode cX4_init 41 = .ok (.iconst 2, 1) := by decide +kernel
theorem dX4_init_42 : decode cX4_init 42 = .ok (.anewarray 7, 3) := by decide +kernel
theorem dX4_init_45 : decode cX4_init 45 = .ok (.putfield 31, 3) := by decide +kernel
theorem dX4_init_48 : decode cX4_init 48 = .ok (.aload_n 0, 1) := by decide +kernel
theorem dX4_init_49 : decode cX4_init 49 = .ok (.iconst 2, 1) := by decide +kernel
theorem dX4_init_50 : decode cX4_init 50 = .ok (.newarray .boolean, 2) := by decide +kernel
theorem dX4_init_52 : decode cX4_init 52 = .ok (.putfield 34, 3) := by decide +kernel
theorem dX4_init_55 : decode cX4_init 55 = .ok (.iconst 0, 1) := by decide +kernel
theorem dX4_init_56 : decode cX4_init 56 = .ok (.istore_n 1, 1) := by decide +kernel
theorem dX4_init_57 : decode cX4_init 57 = .ok (.iload_n 1, 1) := by decide +kernel
theorem dX4_init_58 : decode cX4_init 58 = .ok (.aload_n 0, 1) := by decide +kernel
theorem dX4_init_59 : decode cX4_init 59 = .ok (.getfield 23, 3) := by decide +kernel
theorem dX4_init_62 : decode cX4_init 62 = .ok (.arraylength, 1) := by decide +kernel
theorem dX4_init_63 : decode cX4_init 63 = .ok (.if_icmp .ge 22, 3) := by decide +kernel
theorem dX4_init_66 : decode cX4_init 66 = .ok (.aload_n 0, 1) := by decide +kernel
theorem dX4_init_67 : decode cX4_init 67 = .ok (.getfield 23, 3) := by decide +kernel
theorem dX4_init_70 : decode cX4_init 70 = .ok (.iload_n 1, 1) := by decide +kernel
theorem dX4_init_71 : decode cX4_init 71 = .ok (.new 7, 3) := by decide +kernel
theorem dX4_init_74 : decode cX4_init 74 = .ok (.dup, 1) := by decide +kernel
theorem dX4_init_75 : decode cX4_init 75 = .ok (.invokespecial 9, 3) := by decide +kernel
theorem dX4_init_78 : decode cX4_init 78 = .ok (.aastore, 1) := by decide +kernel
theorem dX4_init_79 : decode cX4_init 79 = .ok (.iinc 1 1, 3) := by decide +kernel
theorem dX4_init_82 : decode cX4_init 82 = .ok (.goto (-25), 3) := by decide +kernel
theorem dX4_init_85 : decode cX4_init 85 = .ok (.iconst 0, 1) := by decide +kernel
theorem dX4_init_86 : decode cX4_init 86 = .ok (.istore_n 1, 1) := by decide +kernel
theorem dX4_init_87 : decode cX4_init 87 = .ok (.iload_n 1, 1) := by decide +kernel
theorem dX4_init_88 : decode cX4_init 88 = .ok (.aload_n 0, 1) := by decide +kernel
theorem dX4_init_89 : decode cX4_init 89 = .ok (.getfield 31, 3) := by decide +kernel
theorem dX4_init_92 : decode cX4_init 92 = .ok (.arraylength, 1) := by decide +kernel
theorem dX4_init_93 : decode cX4_init 93 = .ok (.if_icmp .ge 22, 3) := by decide +kernel
theorem dX4_init_96 : decode cX4_init 96 = .ok (.aload_n 0, 1) := by decide +kernel
theorem dX4_init_97 : decode cX4_init 97 = .ok (.getfield 31, 3) := by decide +kernel
theorem dX4_init_100 : decode cX4_init 100 = .ok (.iload_n 1, 1) := by decide +kernel
theorem dX4_init_101 : decode cX4_init 101 = .ok (.new 7, 3) := by decide +kernel
theorem dX4_init_104 : decode cX4_init 104 = .ok (.dup, 1) := by decide +kernel
theorem dX4_init_105 : decode cX4_init 105 = .ok (.invokespecial 9, 3) := by decide +kernel
theorem dX4_init_108 : decode cX4_init 108 = .ok (.aastore, 1) := by decide +kernel
theorem dX4_init_109 : decode cX4_init 109 = .ok (.iinc 1 1, 3) := by decide +kernel
theorem dX4_init_112 : decode cX4_init 112 = .ok (.goto (-25), 3) := by decide +kernel
theorem dX4_init_115 : decode cX4_init 115 = .ok (.return_, 1) := by decide +kernel
theorem dX4_set_0 : decode cX4_set 0 = .ok (.aload_n 0, 1) := by decide +kernel
theorem dX4_set_1 : decode cX4_set 1 = .ok (.invokevirtual 38, 3) := by decide +kernel
theorem dX4_set_4 : decode cX4_set 4 = .ok (.aload_n 0, 1) := by decide +kernel
theorem dX4_set_5 : decode cX4_set 5 = .ok (.aload_n 0, 1) := by decide +kernel
theorem dX4_set_6 : decode cX4_set 6 = .ok (.getfield 10, 3) := by decide +kernel
theorem dX4_set_9 : decode cX4_set 9 = .ok (.iload_n 1, 1) := by decide +kernel
theorem dX4_set_10 : decode cX4_set 10 = .ok (.iload_n 2, 1) := by decide +kernel
theorem dX4_set_11 : decode cX4_set 11 = .ok (.invokevirtual 41, 3) := by decide +kernel
theorem dX4_set_14 : decode cX4_set 14 = .ok (.invokevirtual 45, 3) := by decide +kernel
theorem dX4_set_17 : decode cX4_set 17 = .ok (.ireturn, 1) := by decide +kernel
theorem dX4_lot_0 : decode cX4_lot 0 = .ok (.aload_n 0, 1) := by decide +kernel
theorem dX4_lot_1 : decode cX4_lot 1 = .ok (.invokevirtual 38, 3) := by decide +kernel
theorem dX4_lot_4 : decode cX4_lot 4 = .ok (.aload_n 0, 1) := by decide +kernel
theorem dX4_lot_5 : decode cX4_lot 5 = .ok (.aload_n 0, 1) := by decide +kernel
theorem dX4_lot_6 : decode cX4_lot 6 = .ok (.getfield 10, 3) := by decide +kernel
theorem dX4_lot_9 : decode cX4_lot 9 = .ok (.iload_n 1, 1) := by decide +kernel
theorem dX4_lot_10 : decode cX4_lot 10 = .ok (.invokevirtual 49, 3) := by decide +kernel
theorem dX4_lot_13 : decode cX4_lot 13 = .ok (.invokevirtual 45, 3) := by decide +kernel
theorem dX4_lot_16 : decode cX4_lot 16 = .ok (.ireturn, 1) := by decide +kernel
theorem dX4_notice_0 : decode cX4_notice 0 = .ok (.aload_n 0, 1) := by decide +kernel
theorem dX4_notice_1 : decode cX4_notice 1 = .ok (.invokevirtual 38, 3) := by decide +kernel
theorem dX4_notice_4 : decode cX4_notice 4 = .ok (.aload_n 0, 1) := by decide +kernel
theorem dX4_notice_5 : decode cX4_notice 5 = .ok (.aload_n 0, 1) := by decide +kernel
theorem dX4_notice_6 : decode cX4_notice 6 = .ok (.getfield 10, 3) := by decide +kernel
theorem dX4_notice_9 : decode cX4_notice 9 = .ok (.iload_n 1, 1) := by decide +kernel
theorem dX4_notice_10 : decode cX4_notice 10 = .ok (.invokevirtual 52, 3) := by decide +kernel
theorem dX4_notice_13 : decode cX4_notice 13 = .ok (.invokevirtual 45, 3) := by decide +kernel
theorem dX4_notice_16 : decode cX4_notice 16 = .ok (.ireturn, 1) := by decide +kernel
theorem dX4_claim_0 : decode cX4_claim 0 = .ok (.aload_n 0, 1) := by decide +kernel
theorem dX4_claim_1 : decode cX4_claim 1 = .ok (.invokevirtual 38, 3) := by decide +kernel
theorem dX4_claim_4 : decode cX4_claim 4 = .ok (.aload_n 0, 1) := by decide +kernel
theorem dX4_claim_5 : decode cX4_claim 5 = .ok (.aload_n 0, 1) := by decide +kernel
theorem dX4_claim_6 : decode cX4_claim 6 = .ok (.getfield 10, 3) := by decide +kernel
theorem dX4_claim_9 : decode cX4_claim 9 = .ok (.iload_n 1, 1) := by decide +kernel
theorem dX4_claim_10 : decode cX4_claim 10 = .ok (.iload_n 2, 1) := by decide +kernel
theorem dX4_claim_11 : decode cX4_claim 11 = .ok (.iload_n 3, 1) := by decide +kernel
theorem dX4_claim_12 : decode cX4_claim 12 = .ok (.invokevirtual 55, 3) := by decide +kernel
theorem dX4_claim_15 : decode cX4_claim 15 = .ok (.invokevirtual 45, 3) := by decide +kernel
theorem dX4_claim_18 : decode cX4_claim 18 = .ok (.ireturn, 1) := by decide +kernel
theorem dX4_prove_0 : decode cX4_prove 0 = .ok (.aload_n 0, 1) := by decide +kernel
theorem dX4_prove_1 : decode cX4_prove 1 = .ok (.invokevirtual 38, 3) := by decide +kernel
theorem dX4_prove_4 : decode cX4_prove 4 = .ok (.aload_n 0, 1) := by decide +kernel
theorem dX4_prove_5 : decode cX4_prove 5 = .ok (.aload_n 0, 1) := by decide +kernel
theorem dX4_prove_6 : decode cX4_prove 6 = .ok (.getfield 10, 3) := by decide +kernel
theorem dX4_prove_9 : decode cX4_prove 9 = .ok (.iload_n 1, 1) := by decide +kernel
theorem dX4_prove_10 : decode cX4_prove 10 = .ok (.iload_n 2, 1) := by decide +kernel
theorem dX4_prove_11 : decode cX4_prove 11 = .ok (.invokevirtual 59, 3) := by decide +kernel
theorem dX4_prove_14 : decode cX4_prove 14 = .ok (.invokevirtual 45, 3) := by decide +kernel
theorem dX4_prove_17 : decode cX4_prove 17 = .ok (.ireturn, 1) := by decide +kernel
theorem dX4_decide_0 : decode cX4_decide 0 = .ok (.aload_n 0, 1) := by decide +kernel
theorem dX4_decide_1 : decode cX4_decide 1 = .ok (.invokevirtual 38, 3) := by decide +kernel
theorem dX4_decide_4 : decode cX4_decide 4 = .ok (.aload_n 0, 1) := by decide +kernel
theorem dX4_decide_5 : decode cX4_decide 5 = .ok (.aload_n 0, 1) := by decide +kernel
theorem dX4_decide_6 : decode cX4_decide 6 = .ok (.getfield 10, 3) := by decide +kernel
theorem dX4_decide_9 : decode cX4_decide 9 = .ok (.iload_n 1, 1) := by decide +kernel
theorem dX4_decide_10 : decode cX4_decide 10 = .ok (.invokevirtual 62, 3) := by decide +kernel
theorem dX4_decide_13 : decode cX4_decide 13 = .ok (.invokevirtual 45, 3) := by decide +kernel
theorem dX4_decide_16 : decode cX4_decide 16 = .ok (.ireturn, 1) := by decide +kernel
theorem dX4_withdraw_0 : decode cX4_withdraw 0 = .ok (.aload_n 0, 1) := by decide +kernel
theorem dX4_withdraw_1 : decode cX4_withdraw 1 = .ok (.invokevirtual 38, 3) := by decide +kernel
theorem dX4_withdraw_4 : decode cX4_withdraw 4 = .ok (.aload_n 0, 1) := by decide +kernel
theorem dX4_withdraw_5 : decode cX4_withdraw 5 = .ok (.aload_n 0, 1) := by decide +kernel
theorem dX4_withdraw_6 : decode cX4_withdraw 6 = .ok (.getfield 10, 3) := by decide +kernel
theorem dX4_withdraw_9 : decode cX4_withdraw 9 = .ok (.iload_n 1, 1) := by decide +kernel
theorem dX4_withdraw_10 : decode cX4_withdraw 10 = .ok (.invokevirtual 65, 3) := by decide +kernel
theorem dX4_withdraw_13 : decode cX4_withdraw 13 = .ok (.invokevirtual 45, 3) := by decide +kernel
theorem dX4_withdraw_16 : decode cX4_withdraw 16 = .ok (.ireturn, 1) := by decide +kernel
theorem dX4_settle_0 : decode cX4_settle 0 = .ok (.aload_n 0, 1) := by decide +kernel
theorem dX4_settle_1 : decode cX4_settle 1 = .ok (.invokevirtual 38, 3) := by decide +kernel
theorem dX4_settle_4 : decode cX4_settle 4 = .ok (.aload_n 0, 1) := by decide +kernel
theorem dX4_settle_5 : decode cX4_settle 5 = .ok (.aload_n 0, 1) := by decide +kernel
theorem dX4_settle_6 : decode cX4_settle 6 = .ok (.getfield 10, 3) := by decide +kernel
theorem dX4_settle_9 : decode cX4_settle 9 = .ok (.iload_n 1, 1) := by decide +kernel
theorem dX4_settle_10 : decode cX4_settle 10 = .ok (.invokevirtual 68, 3) := by decide +kernel
theorem dX4_settle_13 : decode cX4_settle 13 = .ok (.invokevirtual 45, 3) := by decide +kernel
theorem dX4_settle_16 : decode cX4_settle 16 = .ok (.ireturn, 1) := by decide +kernel
theorem dX4_pass_0 : decode cX4_pass 0 = .ok (.aload_n 0, 1) := by decide +kernel
theorem dX4_pass_1 : decode cX4_pass 1 = .ok (.invokevirtual 38, 3) := by decide +kernel
theorem dX4_pass_4 : decode cX4_pass 4 = .ok (.aload_n 0, 1) := by decide +kernel
theorem dX4_pass_5 : decode cX4_pass 5 = .ok (.aload_n 0, 1) := by decide +kernel
theorem dX4_pass_6 : decode cX4_pass 6 = .ok (.getfield 10, 3) := by decide +kernel
theorem dX4_pass_9 : decode cX4_pass 9 = .ok (.iload_n 1, 1) := by decide +kernel
theorem dX4_pass_10 : decode cX4_pass 10 = .ok (.invokevirtual 71, 3) := by decide +kernel
theorem dX4_pass_13 : decode cX4_pass 13 = .ok (.invokevirtual 45, 3) := by decide +kernel
theorem dX4_pass_16 : decode cX4_pass 16 = .ok (.ireturn, 1) := by decide +kernel
theorem dX4_of_0 : decode cX4_of 0 = .ok (.aload_n 0, 1) := by decide +kernel
theorem dX4_of_1 : decode cX4_of 1 = .ok (.getfield 10, 3) := by decide +kernel
theorem dX4_of_4 : decode cX4_of 4 = .ok (.iload_n 1, 1) := by decide +kernel
theorem dX4_of_5 : decode cX4_of 5 = .ok (.iload_n 2, 1) := by decide +kernel
theorem dX4_of_6 : decode cX4_of 6 = .ok (.invokevirtual 74, 3) := by decide +kernel
theorem dX4_of_9 : decode cX4_of 9 = .ok (.ireturn, 1) := by decide +kernel
theorem dX4_ofClaim_0 : decode cX4_ofClaim 0 = .ok (.aload_n 0, 1) := by decide +kernel
theorem dX4_ofClaim_1 : decode cX4_ofClaim 1 = .ok (.getfield 10, 3) := by decide +kernel
theorem dX4_ofClaim_4 : decode cX4_ofClaim 4 = .ok (.iload_n 1, 1) := by decide +kernel
theorem dX4_ofClaim_5 : decode cX4_ofClaim 5 = .ok (.iload_n 2, 1) := by decide +kernel
theorem dX4_ofClaim_6 : decode cX4_ofClaim 6 = .ok (.invokevirtual 77, 3) := by decide +kernel
theorem dX4_ofClaim_9 : decode cX4_ofClaim 9 = .ok (.ireturn, 1) := by decide +kernel
theorem dX4_heir_0 : decode cX4_heir 0 = .ok (.aload_n 0, 1) := by decide +kernel
theorem dX4_heir_1 : decode cX4_heir 1 = .ok (.getfield 10, 3) := by decide +kernel
theorem dX4_heir_4 : decode cX4_heir 4 = .ok (.iload_n 1, 1) := by decide +kernel
theorem dX4_heir_5 : decode cX4_heir 5 = .ok (.iload_n 2, 1) := by decide +kernel
theorem dX4_heir_6 : decode cX4_heir 6 = .ok (.invokevirtual 80, 3) := by decide +kernel
theorem dX4_heir_9 : decode cX4_heir 9 = .ok (.ireturn, 1) := by decide +kernel
theorem dX4_paid_0 : decode cX4_paid 0 = .ok (.aload_n 0, 1) := by decide +kernel
theorem dX4_paid_1 : decode cX4_paid 1 = .ok (.getfield 10, 3) := by decide +kernel
theorem dX4_paid_4 : decode cX4_paid 4 = .ok (.iload_n 1, 1) := by decide +kernel
theorem dX4_paid_5 : decode cX4_paid 5 = .ok (.invokevirtual 83, 3) := by decide +kernel
theorem dX4_paid_8 : decode cX4_paid 8 = .ok (.ireturn, 1) := by decide +kernel
theorem dX4_count_0 : decode cX4_count 0 = .ok (.iload_n 1, 1) := by decide +kernel
theorem dX4_count_1 : decode cX4_count 1 = .ok (.bipush 19, 2) := by decide +kernel
theorem dX4_count_3 : decode cX4_count 3 = .ok (.if_icmp .ne 11, 3) := by decide +kernel
theorem dX4_count_6 : decode cX4_count 6 = .ok (.aload_n 0, 1) := by decide +kernel
theorem dX4_count_7 : decode cX4_count 7 = .ok (.getfield 19, 3) := by decide +kernel
theorem dX4_count_10 : decode cX4_count 10 = .ok (.getfield 86, 3) := by decide +kernel
theorem dX4_count_13 : decode cX4_count 13 = .ok (.ireturn, 1) := by decide +kernel
theorem dX4_count_14 : decode cX4_count 14 = .ok (.iload_n 1, 1) := by decide +kernel
theorem dX4_count_15 : decode cX4_count 15 = .ok (.bipush 20, 2) := by decide +kernel
theorem dX4_count_17 : decode cX4_count 17 = .ok (.if_icmp .ne 10, 3) := by decide +kernel
theorem dX4_count_20 : decode cX4_count 20 = .ok (.aload_n 0, 1) := by decide +kernel
theorem dX4_count_21 : decode cX4_count 21 = .ok (.getfield 27, 3) := by decide +kernel
theorem dX4_count_24 : decode cX4_count 24 = .ok (.goto 11, 3) := by decide +kernel
theorem dX4_count_27 : decode cX4_count 27 = .ok (.aload_n 0, 1) := by decide +kernel
theorem dX4_count_28 : decode cX4_count 28 = .ok (.getfield 10, 3) := by decide +kernel
theorem dX4_count_31 : decode cX4_count 31 = .ok (.iload_n 1, 1) := by decide +kernel
theorem dX4_count_32 : decode cX4_count 32 = .ok (.invokevirtual 89, 3) := by decide +kernel
theorem dX4_count_35 : decode cX4_count 35 = .ok (.ireturn, 1) := by decide +kernel
theorem dX4_why_0 : decode cX4_why 0 = .ok (.aload_n 0, 1) := by decide +kernel
theorem dX4_why_1 : decode cX4_why 1 = .ok (.getfield 10, 3) := by decide +kernel
theorem dX4_why_4 : decode cX4_why 4 = .ok (.iload_n 1, 1) := by decide +kernel
theorem dX4_why_5 : decode cX4_why 5 = .ok (.invokevirtual 92, 3) := by decide +kernel
theorem dX4_why_8 : decode cX4_why 8 = .ok (.ireturn, 1) := by decide +kernel
theorem dX4_fallsIn_0 : decode cX4_fallsIn 0 = .ok (.aload_n 0, 1) := by decide +kernel
theorem dX4_fallsIn_1 : decode cX4_fallsIn 1 = .ok (.getfield 10, 3) := by decide +kernel
theorem dX4_fallsIn_4 : decode cX4_fallsIn 4 = .ok (.iload_n 1, 1) := by decide +kernel
theorem dX4_fallsIn_5 : decode cX4_fallsIn 5 = .ok (.invokevirtual 95, 3) := by decide +kernel
theorem dX4_fallsIn_8 : decode cX4_fallsIn 8 = .ok (.ireturn, 1) := by decide +kernel
theorem dX4_share_0 : decode cX4_share 0 = .ok (.aload_n 0, 1) := by decide +kernel
theorem dX4_share_1 : decode cX4_share 1 = .ok (.getfield 10, 3) := by decide +kernel
theorem dX4_share_4 : decode cX4_share 4 = .ok (.iload_n 1, 1) := by decide +kernel
theorem dX4_share_5 : decode cX4_share 5 = .ok (.iload_n 2, 1) := by decide +kernel
theorem dX4_share_6 : decode cX4_share 6 = .ok (.iload_n 3, 1) := by decide +kernel
theorem dX4_share_7 : decode cX4_share 7 = .ok (.invokevirtual 98, 3) := by decide +kernel
theorem dX4_share_10 : decode cX4_share 10 = .ok (.ireturn, 1) := by decide +kernel
theorem dX4_nextFall_0 : decode cX4_nextFall 0 = .ok (.aload_n 0, 1) := by decide +kernel
theorem dX4_nextFall_1 : decode cX4_nextFall 1 = .ok (.getfield 10, 3) := by decide +kernel
theorem dX4_nextFall_4 : decode cX4_nextFall 4 = .ok (.iload_n 1, 1) := by decide +kernel
theorem dX4_nextFall_5 : decode cX4_nextFall 5 = .ok (.invokevirtual 101, 3) := by decide +kernel
theorem dX4_nextFall_8 : decode cX4_nextFall 8 = .ok (.ireturn, 1) := by decide +kernel
theorem dX4_nextLapse_0 : decode cX4_nextLapse 0 = .ok (.aload_n 0, 1) := by decide +kernel
theorem dX4_nextLapse_1 : decode cX4_nextLapse 1 = .ok (.getfield 10, 3) := by decide +kernel
theorem dX4_nextLapse_4 : decode cX4_nextLapse 4 = .ok (.iload_n 1, 1) := by decide +kernel
theorem dX4_nextLapse_5 : decode cX4_nextLapse 5 = .ok (.invokevirtual 104, 3) := by decide +kernel
theorem dX4_nextLapse_8 : decode cX4_nextLapse 8 = .ok (.ireturn, 1) := by decide +kernel
theorem dX4_wipe_0 : decode cX4_wipe 0 = .ok (.aload_n 0, 1) := by decide +kernel
theorem dX4_wipe_1 : decode cX4_wipe 1 = .ok (.getfield 19, 3) := by decide +kernel
theorem dX4_wipe_4 : decode cX4_wipe 4 = .ok (.invokevirtual 111, 3) := by decide +kernel
theorem dX4_wipe_7 : decode cX4_wipe 7 = .ok (.ireturn, 1) := by decide +kernel
theorem dX4_fault_0 : decode cX4_fault 0 = .ok (.aload_n 0, 1) := by decide +kernel
theorem dX4_fault_1 : decode cX4_fault 1 = .ok (.getfield 19, 3) := by decide +kernel
theorem dX4_fault_4 : decode cX4_fault 4 = .ok (.invokevirtual 115, 3) := by decide +kernel
theorem dX4_fault_7 : decode cX4_fault 7 = .ok (.ireturn, 1) := by decide +kernel
theorem dX4_carryOut_0 : decode cX4_carryOut 0 = .ok (.aload_n 0, 1) := by decide +kernel
theorem dX4_carryOut_1 : decode cX4_carryOut 1 = .ok (.getfield 19, 3) := by decide +kernel
theorem dX4_carryOut_4 : decode cX4_carryOut 4 = .ok (.invokevirtual 115, 3) := by decide +kernel
theorem dX4_carryOut_7 : decode cX4_carryOut 7 = .ok (.bipush (-6), 2) := by decide +kernel
theorem dX4_carryOut_9 : decode cX4_carryOut 9 = .ok (.if_icmp .eq 6, 3) := by decide +kernel
theorem dX4_carryOut_12 : decode cX4_carryOut 12 = .ok (.bipush (-3), 2) := by decide +kernel
theorem dX4_carryOut_14 : decode cX4_carryOut 14 = .ok (.ireturn, 1) := by decide +kernel
theorem dX4_carryOut_15 : decode cX4_carryOut 15 = .ok (.aload_n 0, 1) := by decide +kernel
theorem dX4_carryOut_16 : decode cX4_carryOut 16 = .ok (.invokevirtual 38, 3) := by decide +kernel
theorem dX4_carryOut_19 : decode cX4_carryOut 19 = .ok (.aload_n 0, 1) := by decide +kernel
theorem dX4_carryOut_20 : decode cX4_carryOut 20 = .ok (.getfield 19, 3) := by decide +kernel
theorem dX4_carryOut_23 : decode cX4_carryOut 23 = .ok (.iconst 0, 1) := by decide +kernel
theorem dX4_carryOut_24 : decode cX4_carryOut 24 = .ok (.putfield 118, 3) := by decide +kernel
theorem dX4_carryOut_27 : decode cX4_carryOut 27 = .ok (.iconst 0, 1) := by decide +kernel
theorem dX4_carryOut_28 : decode cX4_carryOut 28 = .ok (.istore_n 1, 1) := by decide +kernel
theorem dX4_carryOut_29 : decode cX4_carryOut 29 = .ok (.iload_n 1, 1) := by decide +kernel
theorem dX4_carryOut_30 : decode cX4_carryOut 30 = .ok (.bipush 80, 2) := by decide +kernel
theorem dX4_carryOut_32 : decode cX4_carryOut 32 = .ok (.if_icmp .ge 36, 3) := by decide +kernel
theorem dX4_carryOut_35 : decode cX4_carryOut 35 = .ok (.aload_n 0, 1) := by decide +kernel
theorem dX4_carryOut_36 : decode cX4_carryOut 36 = .ok (.getfield 19, 3) := by decide +kernel
theorem dX4_carryOut_39 : decode cX4_carryOut 39 = .ok (.invokevirtual 121, 3) := by decide +kernel
theorem dX4_carryOut_42 : decode cX4_carryOut 42 = .ok (.ifCond .eq 26, 3) := by decide +kernel
theorem dX4_carryOut_45 : decode cX4_carryOut 45 = .ok (.aload_n 0, 1) := by decide +kernel
theorem dX4_carryOut_46 : decode cX4_carryOut 46 = .ok (.invokevirtual 125, 3) := by decide +kernel
theorem dX4_carryOut_49 : decode cX4_carryOut 49 = .ok (.ifCond .lt 19, 3) := by decide +kernel
theorem dX4_carryOut_52 : decode cX4_carryOut 52 = .ok (.iinc 1 1, 3) := by decide +kernel
theorem dX4_carryOut_55 : decode cX4_carryOut 55 = .ok (.aload_n 0, 1) := by decide +kernel
theorem dX4_carryOut_56 : decode cX4_carryOut 56 = .ok (.getfield 19, 3) := by decide +kernel
theorem dX4_carryOut_59 : decode cX4_carryOut 59 = .ok (.bipush 59, 2) := by decide +kernel
theorem dX4_carryOut_61 : decode cX4_carryOut 61 = .ok (.invokevirtual 128, 3) := by decide +kernel
theorem dX4_carryOut_64 : decode cX4_carryOut 64 = .ok (.pop, 1) := by decide +kernel
theorem dX4_carryOut_65 : decode cX4_carryOut 65 = .ok (.goto (-36), 3) := by decide +kernel
theorem dX4_carryOut_68 : decode cX4_carryOut 68 = .ok (.aload_n 0, 1) := by decide +kernel
theorem dX4_carryOut_69 : decode cX4_carryOut 69 = .ok (.getfield 19, 3) := by decide +kernel
theorem dX4_carryOut_72 : decode cX4_carryOut 72 = .ok (.invokevirtual 111, 3) := by decide +kernel
theorem dX4_carryOut_75 : decode cX4_carryOut 75 = .ok (.pop, 1) := by decide +kernel
theorem dX4_carryOut_76 : decode cX4_carryOut 76 = .ok (.aload_n 0, 1) := by decide +kernel
theorem dX4_carryOut_77 : decode cX4_carryOut 77 = .ok (.iload_n 1, 1) := by decide +kernel
theorem dX4_carryOut_78 : decode cX4_carryOut 78 = .ok (.invokevirtual 45, 3) := by decide +kernel
theorem dX4_carryOut_81 : decode cX4_carryOut 81 = .ok (.ireturn, 1) := by decide +kernel
theorem dX4_carryOutOrder_0 : decode cX4_carryOutOrder 0 = .ok (.aload_n 0, 1) := by decide +kernel
theorem dX4_carryOutOrder_1 : decode cX4_carryOutOrder 1 = .ok (.getfield 19, 3) := by decide +kernel
theorem dX4_carryOutOrder_4 : decode cX4_carryOutOrder 4 = .ok (.getfield 132, 3) := by decide +kernel
theorem dX4_carryOutOrder_7 : decode cX4_carryOutOrder 7 = .ok (.tableswitch 223 99 119 #[127, 178, 223, 223, 223, 223, 223, 223, 223, 97, 223, 112, 223, 156, 223, 223, 208, 223, 223, 223, 193], 97) := by decide +kernel
theorem dX4_carryOutOrder_104 : decode cX4_carryOutOrder 104 = .ok (.aload_n 0, 1) := by decide +kernel
theorem dX4_carryOutOrder_105 : decode cX4_carryOutOrder 105 = .ok (.getfield 10, 3) := by decide +kernel
theorem dX4_carryOutOrder_108 : decode cX4_carryOutOrder 108 = .ok (.aload_n 0, 1) := by decide +kernel
theorem dX4_carryOutOrder_109 : decode cX4_carryOutOrder 109 = .ok (.getfield 19, 3) := by decide +kernel
theorem dX4_carryOutOrder_112 : decode cX4_carryOutOrder 112 = .ok (.getfield 136, 3) := by decide +kernel
theorem dX4_carryOutOrder_115 : decode cX4_carryOutOrder 115 = .ok (.invokevirtual 49, 3) := by decide +kernel
theorem dX4_carryOutOrder_118 : decode cX4_carryOutOrder 118 = .ok (.ireturn, 1) := by decide +kernel
theorem dX4_carryOutOrder_119 : decode cX4_carryOutOrder 119 = .ok (.aload_n 0, 1) := by decide +kernel
theorem dX4_carryOutOrder_120 : decode cX4_carryOutOrder 120 = .ok (.getfield 10, 3) := by decide +kernel
theorem dX4_carryOutOrder_123 : decode cX4_carryOutOrder 123 = .ok (.aload_n 0, 1) := by decide +kernel
theorem dX4_carryOutOrder_124 : decode cX4_carryOutOrder 124 = .ok (.getfield 19, 3) := by decide +kernel
theorem dX4_carryOutOrder_127 : decode cX4_carryOutOrder 127 = .ok (.getfield 136, 3) := by decide +kernel
theorem dX4_carryOutOrder_130 : decode cX4_carryOutOrder 130 = .ok (.invokevirtual 52, 3) := by decide +kernel
theorem dX4_carryOutOrder_133 : decode cX4_carryOutOrder 133 = .ok (.ireturn, 1) := by decide +kernel
theorem dX4_carryOutOrder_134 : decode cX4_carryOutOrder 134 = .ok (.aload_n 0, 1) := by decide +kernel
theorem dX4_carryOutOrder_135 : decode cX4_carryOutOrder 135 = .ok (.getfield 10, 3) := by decide +kernel
theorem dX4_carryOutOrder_138 : decode cX4_carryOutOrder 138 = .ok (.aload_n 0, 1) := by decide +kernel
theorem dX4_carryOutOrder_139 : decode cX4_carryOutOrder 139 = .ok (.getfield 19, 3) := by decide +kernel
theorem dX4_carryOutOrder_142 : decode cX4_carryOutOrder 142 = .ok (.getfield 136, 3) := by decide +kernel
theorem dX4_carryOutOrder_145 : decode cX4_carryOutOrder 145 = .ok (.aload_n 0, 1) := by decide +kernel
theorem dX4_carryOutOrder_146 : decode cX4_carryOutOrder 146 = .ok (.getfield 19, 3) := by decide +kernel
theorem dX4_carryOutOrder_149 : decode cX4_carryOutOrder 149 = .ok (.getfield 139, 3) := by decide +kernel
theorem dX4_carryOutOrder_152 : decode cX4_carryOutOrder 152 = .ok (.aload_n 0, 1) := by decide +kernel
theorem dX4_carryOutOrder_153 : decode cX4_carryOutOrder 153 = .ok (.getfield 19, 3) := by decide +kernel
theorem dX4_carryOutOrder_156 : decode cX4_carryOutOrder 156 = .ok (.getfield 142, 3) := by decide +kernel
theorem dX4_carryOutOrder_159 : decode cX4_carryOutOrder 159 = .ok (.invokevirtual 55, 3) := by decide +kernel
theorem dX4_carryOutOrder_162 : decode cX4_carryOutOrder 162 = .ok (.ireturn, 1) := by decide +kernel
theorem dX4_carryOutOrder_163 : decode cX4_carryOutOrder 163 = .ok (.aload_n 0, 1) := by decide +kernel
theorem dX4_carryOutOrder_164 : decode cX4_carryOutOrder 164 = .ok (.getfield 10, 3) := by decide +kernel
theorem dX4_carryOutOrder_167 : decode cX4_carryOutOrder 167 = .ok (.aload_n 0, 1) := by decide +kernel
theorem dX4_carryOutOrder_168 : decode cX4_carryOutOrder 168 = .ok (.getfield 19, 3) := by decide +kernel
theorem dX4_carryOutOrder_171 : decode cX4_carryOutOrder 171 = .ok (.getfield 136, 3) := by decide +kernel
theorem dX4_carryOutOrder_174 : decode cX4_carryOutOrder 174 = .ok (.aload_n 0, 1) := by decide +kernel
theorem dX4_carryOutOrder_175 : decode cX4_carryOutOrder 175 = .ok (.getfield 19, 3) := by decide +kernel
theorem dX4_carryOutOrder_178 : decode cX4_carryOutOrder 178 = .ok (.getfield 139, 3) := by decide +kernel
theorem dX4_carryOutOrder_181 : decode cX4_carryOutOrder 181 = .ok (.invokevirtual 59, 3) := by decide +kernel
theorem dX4_carryOutOrder_184 : decode cX4_carryOutOrder 184 = .ok (.ireturn, 1) := by decide +kernel
theorem dX4_carryOutOrder_185 : decode cX4_carryOutOrder 185 = .ok (.aload_n 0, 1) := by decide +kernel
theorem dX4_carryOutOrder_186 : decode cX4_carryOutOrder 186 = .ok (.getfield 10, 3) := by decide +kernel
theorem dX4_carryOutOrder_189 : decode cX4_carryOutOrder 189 = .ok (.aload_n 0, 1) := by decide +kernel
theorem dX4_carryOutOrder_190 : decode cX4_carryOutOrder 190 = .ok (.getfield 19, 3) := by decide +kernel
theorem dX4_carryOutOrder_193 : decode cX4_carryOutOrder 193 = .ok (.getfield 136, 3) := by decide +kernel
theorem dX4_carryOutOrder_196 : decode cX4_carryOutOrder 196 = .ok (.invokevirtual 62, 3) := by decide +kernel
theorem dX4_carryOutOrder_199 : decode cX4_carryOutOrder 199 = .ok (.ireturn, 1) := by decide +kernel
theorem dX4_carryOutOrder_200 : decode cX4_carryOutOrder 200 = .ok (.aload_n 0, 1) := by decide +kernel
theorem dX4_carryOutOrder_201 : decode cX4_carryOutOrder 201 = .ok (.getfield 10, 3) := by decide +kernel
theorem dX4_carryOutOrder_204 : decode cX4_carryOutOrder 204 = .ok (.aload_n 0, 1) := by decide +kernel
theorem dX4_carryOutOrder_205 : decode cX4_carryOutOrder 205 = .ok (.getfield 19, 3) := by decide +kernel
theorem dX4_carryOutOrder_208 : decode cX4_carryOutOrder 208 = .ok (.getfield 136, 3) := by decide +kernel
theorem dX4_carryOutOrder_211 : decode cX4_carryOutOrder 211 = .ok (.invokevirtual 65, 3) := by decide +kernel
theorem dX4_carryOutOrder_214 : decode cX4_carryOutOrder 214 = .ok (.ireturn, 1) := by decide +kernel
theorem dX4_carryOutOrder_215 : decode cX4_carryOutOrder 215 = .ok (.aload_n 0, 1) := by decide +kernel
theorem dX4_carryOutOrder_216 : decode cX4_carryOutOrder 216 = .ok (.getfield 10, 3) := by decide +kernel
theorem dX4_carryOutOrder_219 : decode cX4_carryOutOrder 219 = .ok (.aload_n 0, 1) := by decide +kernel
theorem dX4_carryOutOrder_220 : decode cX4_carryOutOrder 220 = .ok (.getfield 19, 3) := by decide +kernel
theorem dX4_carryOutOrder_223 : decode cX4_carryOutOrder 223 = .ok (.getfield 136, 3) := by decide +kernel
theorem dX4_carryOutOrder_226 : decode cX4_carryOutOrder 226 = .ok (.invokevirtual 68, 3) := by decide +kernel
theorem dX4_carryOutOrder_229 : decode cX4_carryOutOrder 229 = .ok (.ireturn, 1) := by decide +kernel
theorem dX4_carryOutOrder_230 : decode cX4_carryOutOrder 230 = .ok (.aload_n 0, 1) := by decide +kernel
theorem dX4_carryOutOrder_231 : decode cX4_carryOutOrder 231 = .ok (.getfield 10, 3) := by decide +kernel
theorem dX4_carryOutOrder_234 : decode cX4_carryOutOrder 234 = .ok (.aload_n 0, 1) := by decide +kernel
theorem dX4_carryOutOrder_235 : decode cX4_carryOutOrder 235 = .ok (.getfield 19, 3) := by decide +kernel
theorem dX4_carryOutOrder_238 : decode cX4_carryOutOrder 238 = .ok (.getfield 136, 3) := by decide +kernel
theorem dX4_carryOutOrder_241 : decode cX4_carryOutOrder 241 = .ok (.invokevirtual 71, 3) := by decide +kernel
theorem dX4_carryOutOrder_244 : decode cX4_carryOutOrder 244 = .ok (.ireturn, 1) := by decide +kernel
theorem dX4_undo_0 : decode cX4_undo 0 = .ok (.aload_n 0, 1) := by decide +kernel
theorem dX4_undo_1 : decode cX4_undo 1 = .ok (.getfield 27, 3) := by decide +kernel
theorem dX4_undo_4 : decode cX4_undo 4 = .ok (.ifCond .ne 6, 3) := by decide +kernel
theorem dX4_undo_7 : decode cX4_undo 7 = .ok (.bipush (-5), 2) := by decide +kernel
theorem dX4_undo_9 : decode cX4_undo 9 = .ok (.ireturn, 1) := by decide +kernel
theorem dX4_undo_10 : decode cX4_undo 10 = .ok (.aload_n 0, 1) := by decide +kernel
theorem dX4_undo_11 : decode cX4_undo 11 = .ok (.dup, 1) := by decide +kernel
theorem dX4_undo_12 : decode cX4_undo 12 = .ok (.getfield 27, 3) := by decide +kernel
theorem dX4_undo_15 : decode cX4_undo 15 = .ok (.iconst 1, 1) := by decide +kernel
theorem dX4_undo_16 : decode cX4_undo 16 = .ok (.isub, 1) := by decide +kernel
theorem dX4_undo_17 : decode cX4_undo 17 = .ok (.putfield 27, 3) := by decide +kernel
theorem dX4_undo_20 : decode cX4_undo 20 = .ok (.aload_n 0, 1) := by decide +kernel
theorem dX4_undo_21 : decode cX4_undo 21 = .ok (.getfield 10, 3) := by decide +kernel
theorem dX4_undo_24 : decode cX4_undo 24 = .ok (.aload_n 0, 1) := by decide +kernel
theorem dX4_undo_25 : decode cX4_undo 25 = .ok (.getfield 23, 3) := by decide +kernel
theorem dX4_undo_28 : decode cX4_undo 28 = .ok (.aload_n 0, 1) := by decide +kernel
theorem dX4_undo_29 : decode cX4_undo 29 = .ok (.getfield 27, 3) := by decide +kernel
theorem dX4_undo_32 : decode cX4_undo 32 = .ok (.aaload, 1) := by decide +kernel
theorem dX4_undo_33 : decode cX4_undo 33 = .ok (.invokevirtual 145, 3) := by decide +kernel
theorem dX4_undo_36 : decode cX4_undo 36 = .ok (.aload_n 0, 1) := by decide +kernel
theorem dX4_undo_37 : decode cX4_undo 37 = .ok (.getfield 27, 3) := by decide +kernel
theorem dX4_undo_40 : decode cX4_undo 40 = .ok (.ireturn, 1) := by decide +kernel
theorem dX4_save_0 : decode cX4_save 0 = .ok (.iload_n 1, 1) := by decide +kernel
theorem dX4_save_1 : decode cX4_save 1 = .ok (.ifCond .lt 8, 3) := by decide +kernel
theorem dX4_save_4 : decode cX4_save 4 = .ok (.iload_n 1, 1) := by decide +kernel
theorem dX4_save_5 : decode cX4_save 5 = .ok (.iconst 2, 1) := by decide +kernel
theorem dX4_save_6 : decode cX4_save 6 = .ok (.if_icmp .lt 6, 3) := by decide +kernel
theorem dX4_save_9 : decode cX4_save 9 = .ok (.bipush (-2), 2) := by decide +kernel
theorem dX4_save_11 : decode cX4_save 11 = .ok (.ireturn, 1) := by decide +kernel
theorem dX4_save_12 : decode cX4_save 12 = .ok (.aload_n 0, 1) := by decide +kernel
theorem dX4_save_13 : decode cX4_save 13 = .ok (.getfield 31, 3) := by decide +kernel
theorem dX4_save_16 : decode cX4_save 16 = .ok (.iload_n 1, 1) := by decide +kernel
theorem dX4_save_17 : decode cX4_save 17 = .ok (.aaload, 1) := by decide +kernel
theorem dX4_save_18 : decode cX4_save 18 = .ok (.aload_n 0, 1) := by decide +kernel
theorem dX4_save_19 : decode cX4_save 19 = .ok (.getfield 10, 3) := by decide +kernel
theorem dX4_save_22 : decode cX4_save 22 = .ok (.invokevirtual 145, 3) := by decide +kernel
theorem dX4_save_25 : decode cX4_save 25 = .ok (.aload_n 0, 1) := by decide +kernel
theorem dX4_save_26 : decode cX4_save 26 = .ok (.getfield 34, 3) := by decide +kernel
theorem dX4_save_29 : decode cX4_save 29 = .ok (.iload_n 1, 1) := by decide +kernel
theorem dX4_save_30 : decode cX4_save 30 = .ok (.iconst 1, 1) := by decide +kernel
theorem dX4_save_31 : decode cX4_save 31 = .ok (.bastore, 1) := by decide +kernel
theorem dX4_save_32 : decode cX4_save 32 = .ok (.aload_n 0, 1) := by decide +kernel
theorem dX4_save_33 : decode cX4_save 33 = .ok (.getfield 10, 3) := by decide +kernel
theorem dX4_save_36 : decode cX4_save 36 = .ok (.getfield 149, 3) := by decide +kernel
theorem dX4_save_39 : decode cX4_save 39 = .ok (.getfield 153, 3) := by decide +kernel
theorem dX4_save_42 : decode cX4_save 42 = .ok (.ireturn, 1) := by decide +kernel
theorem dX4_restore_0 : decode cX4_restore 0 = .ok (.iload_n 1, 1) := by decide +kernel
theorem dX4_restore_1 : decode cX4_restore 1 = .ok (.ifCond .lt 8, 3) := by decide +kernel
theorem dX4_restore_4 : decode cX4_restore 4 = .ok (.iload_n 1, 1) := by decide +kernel
theorem dX4_restore_5 : decode cX4_restore 5 = .ok (.iconst 2, 1) := by decide +kernel
theorem dX4_restore_6 : decode cX4_restore 6 = .ok (.if_icmp .lt 6, 3) := by decide +kernel
theorem dX4_restore_9 : decode cX4_restore 9 = .ok (.bipush (-2), 2) := by decide +kernel
theorem dX4_restore_11 : decode cX4_restore 11 = .ok (.ireturn, 1) := by decide +kernel
theorem dX4_restore_12 : decode cX4_restore 12 = .ok (.aload_n 0, 1) := by decide +kernel
theorem dX4_restore_13 : decode cX4_restore 13 = .ok (.getfield 34, 3) := by decide +kernel
theorem dX4_restore_16 : decode cX4_restore 16 = .ok (.iload_n 1, 1) := by decide +kernel
theorem dX4_restore_17 : decode cX4_restore 17 = .ok (.baload, 1) := by decide +kernel
theorem dX4_restore_18 : decode cX4_restore 18 = .ok (.ifCond .ne 6, 3) := by decide +kernel
theorem dX4_restore_21 : decode cX4_restore 21 = .ok (.bipush (-5), 2) := by decide +kernel
theorem dX4_restore_23 : decode cX4_restore 23 = .ok (.ireturn, 1) := by decide +kernel
theorem dX4_restore_24 : decode cX4_restore 24 = .ok (.aload_n 0, 1) := by decide +kernel
theorem dX4_restore_25 : decode cX4_restore 25 = .ok (.invokevirtual 38, 3) := by decide +kernel
theorem dX4_restore_28 : decode cX4_restore 28 = .ok (.aload_n 0, 1) := by decide +kernel
theorem dX4_restore_29 : decode cX4_restore 29 = .ok (.getfield 10, 3) := by decide +kernel
theorem dX4_restore_32 : decode cX4_restore 32 = .ok (.aload_n 0, 1) := by decide +kernel
theorem dX4_restore_33 : decode cX4_restore 33 = .ok (.getfield 31, 3) := by decide +kernel
theorem dX4_restore_36 : decode cX4_restore 36 = .ok (.iload_n 1, 1) := by decide +kernel
theorem dX4_restore_37 : decode cX4_restore 37 = .ok (.aaload, 1) := by decide +kernel
theorem dX4_restore_38 : decode cX4_restore 38 = .ok (.invokevirtual 145, 3) := by decide +kernel
theorem dX4_restore_41 : decode cX4_restore 41 = .ok (.aload_n 0, 1) := by decide +kernel
theorem dX4_restore_42 : decode cX4_restore 42 = .ok (.aload_n 0, 1) := by decide +kernel
theorem dX4_restore_43 : decode cX4_restore 43 = .ok (.getfield 10, 3) := by decide +kernel
theorem dX4_restore_46 : decode cX4_restore 46 = .ok (.getfield 149, 3) := by decide +kernel
theorem dX4_restore_49 : decode cX4_restore 49 = .ok (.getfield 153, 3) := by decide +kernel
theorem dX4_restore_52 : decode cX4_restore 52 = .ok (.invokevirtual 45, 3) := by decide +kernel
theorem dX4_restore_55 : decode cX4_restore 55 = .ok (.ireturn, 1) := by decide +kernel
theorem dX4_draft_0 : decode cX4_draft 0 = .ok (.aload_n 0, 1) := by decide +kernel
theorem dX4_draft_1 : decode cX4_draft 1 = .ok (.getfield 23, 3) := by decide +kernel
theorem dX4_draft_4 : decode cX4_draft 4 = .ok (.aload_n 0, 1) := by decide +kernel
theorem dX4_draft_5 : decode cX4_draft 5 = .ok (.getfield 27, 3) := by decide +kernel
theorem dX4_draft_8 : decode cX4_draft 8 = .ok (.aaload, 1) := by decide +kernel
theorem dX4_draft_9 : decode cX4_draft 9 = .ok (.aload_n 0, 1) := by decide +kernel
theorem dX4_draft_10 : decode cX4_draft 10 = .ok (.getfield 10, 3) := by decide +kernel
theorem dX4_draft_13 : decode cX4_draft 13 = .ok (.invokevirtual 145, 3) := by decide +kernel
theorem dX4_draft_16 : decode cX4_draft 16 = .ok (.return_, 1) := by decide +kernel
theorem dX4_recorded_0 : decode cX4_recorded 0 = .ok (.iload_n 1, 1) := by decide +kernel
theorem dX4_recorded_1 : decode cX4_recorded 1 = .ok (.ifCond .ge 5, 3) := by decide +kernel
theorem dX4_recorded_4 : decode cX4_recorded 4 = .ok (.iload_n 1, 1) := by decide +kernel
theorem dX4_recorded_5 : decode cX4_recorded 5 = .ok (.ireturn, 1) := by decide +kernel
theorem dX4_recorded_6 : decode cX4_recorded 6 = .ok (.aload_n 0, 1) := by decide +kernel
theorem dX4_recorded_7 : decode cX4_recorded 7 = .ok (.getfield 27, 3) := by decide +kernel
theorem dX4_recorded_10 : decode cX4_recorded 10 = .ok (.bipush 6, 2) := by decide +kernel
theorem dX4_recorded_12 : decode cX4_recorded 12 = .ok (.if_icmp .ge 16, 3) := by decide +kernel
theorem dX4_recorded_15 : decode cX4_recorded 15 = .ok (.aload_n 0, 1) := by decide +kernel
theorem dX4_recorded_16 : decode cX4_recorded 16 = .ok (.dup, 1) := by decide +kernel
theorem dX4_recorded_17 : decode cX4_recorded 17 = .ok (.getfield 27, 3) := by decide +kernel
theorem dX4_recorded_20 : decode cX4_recorded 20 = .ok (.iconst 1, 1) := by decide +kernel
theorem dX4_recorded_21 : decode cX4_recorded 21 = .ok (.iadd, 1) := by decide +kernel
theorem dX4_recorded_22 : decode cX4_recorded 22 = .ok (.putfield 27, 3) := by decide +kernel
theorem dX4_recorded_25 : decode cX4_recorded 25 = .ok (.goto 7, 3) := by decide +kernel
theorem dX4_recorded_28 : decode cX4_recorded 28 = .ok (.aload_n 0, 1) := by decide +kernel
theorem dX4_recorded_29 : decode cX4_recorded 29 = .ok (.invokevirtual 158, 3) := by decide +kernel
theorem dX4_recorded_32 : decode cX4_recorded 32 = .ok (.iload_n 1, 1) := by decide +kernel
theorem dX4_recorded_33 : decode cX4_recorded 33 = .ok (.ireturn, 1) := by decide +kernel
theorem dX4_dropOldest_0 : decode cX4_dropOldest 0 = .ok (.aload_n 0, 1) := by decide +kernel
theorem dX4_dropOldest_1 : decode cX4_dropOldest 1 = .ok (.getfield 23, 3) := by decide +kernel
theorem dX4_dropOldest_4 : decode cX4_dropOldest 4 = .ok (.iconst 0, 1) := by decide +kernel
theorem dX4_dropOldest_5 : decode cX4_dropOldest 5 = .ok (.aaload, 1) := by decide +kernel
theorem dX4_dropOldest_6 : decode cX4_dropOldest 6 = .ok (.astore_n 1, 1) := by decide +kernel
theorem dX4_dropOldest_7 : decode cX4_dropOldest 7 = .ok (.iconst 0, 1) := by decide +kernel
theorem dX4_dropOldest_8 : decode cX4_dropOldest 8 = .ok (.istore_n 2, 1) := by decide +kernel
theorem dX4_dropOldest_9 : decode cX4_dropOldest 9 = .ok (.iload_n 2, 1) := by decide +kernel
theorem dX4_dropOldest_10 : decode cX4_dropOldest 10 = .ok (.bipush 6, 2) := by decide +kernel
theorem dX4_dropOldest_12 : decode cX4_dropOldest 12 = .ok (.if_icmp .ge 23, 3) := by decide +kernel
theorem dX4_dropOldest_15 : decode cX4_dropOldest 15 = .ok (.aload_n 0, 1) := by decide +kernel
theorem dX4_dropOldest_16 : decode cX4_dropOldest 16 = .ok (.getfield 23, 3) := by decide +kernel
theorem dX4_dropOldest_19 : decode cX4_dropOldest 19 = .ok (.iload_n 2, 1) := by decide +kernel
theorem dX4_dropOldest_20 : decode cX4_dropOldest 20 = .ok (.aload_n 0, 1) := by decide +kernel
theorem dX4_dropOldest_21 : decode cX4_dropOldest 21 = .ok (.getfield 23, 3) := by decide +kernel
theorem dX4_dropOldest_24 : decode cX4_dropOldest 24 = .ok (.iload_n 2, 1) := by decide +kernel
theorem dX4_dropOldest_25 : decode cX4_dropOldest 25 = .ok (.iconst 1, 1) := by decide +kernel
theorem dX4_dropOldest_26 : decode cX4_dropOldest 26 = .ok (.iadd, 1) := by decide +kernel
theorem dX4_dropOldest_27 : decode cX4_dropOldest 27 = .ok (.aaload, 1) := by decide +kernel
theorem dX4_dropOldest_28 : decode cX4_dropOldest 28 = .ok (.aastore, 1) := by decide +kernel
theorem dX4_dropOldest_29 : decode cX4_dropOldest 29 = .ok (.iinc 2 1, 3) := by decide +kernel
theorem dX4_dropOldest_32 : decode cX4_dropOldest 32 = .ok (.goto (-23), 3) := by decide +kernel
theorem dX4_dropOldest_35 : decode cX4_dropOldest 35 = .ok (.aload_n 0, 1) := by decide +kernel
theorem dX4_dropOldest_36 : decode cX4_dropOldest 36 = .ok (.getfield 23, 3) := by decide +kernel
theorem dX4_dropOldest_39 : decode cX4_dropOldest 39 = .ok (.bipush 6, 2) := by decide +kernel
theorem dX4_dropOldest_41 : decode cX4_dropOldest 41 = .ok (.aload_n 1, 1) := by decide +kernel
theorem dX4_dropOldest_42 : decode cX4_dropOldest 42 = .ok (.aastore, 1) := by decide +kernel
theorem dX4_dropOldest_43 : decode cX4_dropOldest 43 = .ok (.return_, 1) := by decide +kernel
theorem dX4_holds_0 : decode cX4_holds 0 = .ok (.iload_n 0, 1) := by decide +kernel
theorem dX4_holds_1 : decode cX4_holds 1 = .ok (.iload_n 1, 1) := by decide +kernel
theorem dX4_holds_2 : decode cX4_holds 2 = .ok (.ishr, 1) := by decide +kernel
theorem dX4_holds_3 : decode cX4_holds 3 = .ok (.iconst 1, 1) := by decide +kernel
theorem dX4_holds_4 : decode cX4_holds 4 = .ok (.iand, 1) := by decide +kernel
theorem dX4_holds_5 : decode cX4_holds 5 = .ok (.iconst 1, 1) := by decide +kernel
theorem dX4_holds_6 : decode cX4_holds 6 = .ok (.if_icmp .ne 7, 3) := by decide +kernel
theorem dX4_holds_9 : decode cX4_holds 9 = .ok (.iconst 1, 1) := by decide +kernel
theorem dX4_holds_10 : decode cX4_holds 10 = .ok (.goto 4, 3) := by decide +kernel
theorem dX4_holds_13 : decode cX4_holds 13 = .ok (.iconst 0, 1) := by decide +kernel
theorem dX4_holds_14 : decode cX4_holds 14 = .ok (.ireturn, 1) := by decide +kernel
theorem dX4_firstOnes_0 : decode cX4_firstOnes 0 = .ok (.iconst 1, 1) := by decide +kernel
theorem dX4_firstOnes_1 : decode cX4_firstOnes 1 = .ok (.iload_n 0, 1) := by decide +kernel
theorem dX4_firstOnes_2 : decode cX4_firstOnes 2 = .ok (.ishl, 1) := by decide +kernel
theorem dX4_firstOnes_3 : decode cX4_firstOnes 3 = .ok (.iconst 1, 1) := by decide +kernel
theorem dX4_firstOnes_4 : decode cX4_firstOnes 4 = .ok (.isub, 1) := by decide +kernel
theorem dX4_firstOnes_5 : decode cX4_firstOnes 5 = .ok (.ireturn, 1) := by decide +kernel
theorem dX4_rowsWith_0 : decode cX4_rowsWith 0 = .ok (.iconst 0, 1) := by decide +kernel
theorem dX4_rowsWith_1 : decode cX4_rowsWith 1 = .ok (.istore_n 3, 1) := by decide +kernel
theorem dX4_rowsWith_2 : decode cX4_rowsWith 2 = .ok (.iconst 0, 1) := by decide +kernel
theorem dX4_rowsWith_3 : decode cX4_rowsWith 3 = .ok (.istore 4, 2) := by decide +kernel
theorem dX4_rowsWith_5 : decode cX4_rowsWith 5 = .ok (.iload 4, 2) := by decide +kernel
theorem dX4_rowsWith_7 : decode cX4_rowsWith 7 = .ok (.iload_n 1, 1) := by decide +kernel
theorem dX4_rowsWith_8 : decode cX4_rowsWith 8 = .ok (.if_icmp .ge 31, 3) := by decide +kernel
theorem dX4_rowsWith_11 : decode cX4_rowsWith 11 = .ok (.iload 4, 2) := by decide +kernel
theorem dX4_rowsWith_13 : decode cX4_rowsWith 13 = .ok (.aload_n 0, 1) := by decide +kernel
theorem dX4_rowsWith_14 : decode cX4_rowsWith 14 = .ok (.arraylength, 1) := by decide +kernel
theorem dX4_rowsWith_15 : decode cX4_rowsWith 15 = .ok (.if_icmp .ge 24, 3) := by decide +kernel
theorem dX4_rowsWith_18 : decode cX4_rowsWith 18 = .ok (.aload_n 0, 1) := by decide +kernel
theorem dX4_rowsWith_19 : decode cX4_rowsWith 19 = .ok (.iload 4, 2) := by decide +kernel
theorem dX4_rowsWith_21 : decode cX4_rowsWith 21 = .ok (.iaload, 1) := by decide +kernel
theorem dX4_rowsWith_22 : decode cX4_rowsWith 22 = .ok (.iload_n 2, 1) := by decide +kernel
theorem dX4_rowsWith_23 : decode cX4_rowsWith 23 = .ok (.if_icmp .ne 10, 3) := by decide +kernel
theorem dX4_rowsWith_26 : decode cX4_rowsWith 26 = .ok (.iload_n 3, 1) := by decide +kernel
theorem dX4_rowsWith_27 : decode cX4_rowsWith 27 = .ok (.iconst 1, 1) := by decide +kernel
theorem dX4_rowsWith_28 : decode cX4_rowsWith 28 = .ok (.iload 4, 2) := by decide +kernel
theorem dX4_rowsWith_30 : decode cX4_rowsWith 30 = .ok (.ishl, 1) := by decide +kernel
theorem dX4_rowsWith_31 : decode cX4_rowsWith 31 = .ok (.ior, 1) := by decide +kernel
theorem dX4_rowsWith_32 : decode cX4_rowsWith 32 = .ok (.istore_n 3, 1) := by decide +kernel
theorem dX4_rowsWith_33 : decode cX4_rowsWith 33 = .ok (.iinc 4 1, 3) := by decide +kernel
theorem dX4_rowsWith_36 : decode cX4_rowsWith 36 = .ok (.goto (-31), 3) := by decide +kernel
theorem dX4_rowsWith_39 : decode cX4_rowsWith 39 = .ok (.iload_n 3, 1) := by decide +kernel
theorem dX4_rowsWith_40 : decode cX4_rowsWith 40 = .ok (.ireturn, 1) := by decide +kernel
theorem dX4_numbersIn_0 : decode cX4_numbersIn 0 = .ok (.iconst 0, 1) := by decide +kernel
theorem dX4_numbersIn_1 : decode cX4_numbersIn 1 = .ok (.istore_n 2, 1) := by decide +kernel
theorem dX4_numbersIn_2 : decode cX4_numbersIn 2 = .ok (.iconst 0, 1) := by decide +kernel
theorem dX4_numbersIn_3 : decode cX4_numbersIn 3 = .ok (.istore_n 3, 1) := by decide +kernel
theorem dX4_numbersIn_4 : decode cX4_numbersIn 4 = .ok (.iload_n 3, 1) := by decide +kernel
theorem dX4_numbersIn_5 : decode cX4_numbersIn 5 = .ok (.aload_n 0, 1) := by decide +kernel
theorem dX4_numbersIn_6 : decode cX4_numbersIn 6 = .ok (.arraylength, 1) := by decide +kernel
theorem dX4_numbersIn_7 : decode cX4_numbersIn 7 = .ok (.if_icmp .ge 25, 3) := by decide +kernel
theorem dX4_numbersIn_10 : decode cX4_numbersIn 10 = .ok (.iload_n 1, 1) := by decide +kernel
theorem dX4_numbersIn_11 : decode cX4_numbersIn 11 = .ok (.iload_n 3, 1) := by decide +kernel
theorem dX4_numbersIn_12 : decode cX4_numbersIn 12 = .ok (.invokestatic 161, 3) := by decide +kernel
theorem dX4_numbersIn_15 : decode cX4_numbersIn 15 = .ok (.ifCond .eq 11, 3) := by decide +kernel
theorem dX4_numbersIn_18 : decode cX4_numbersIn 18 = .ok (.iload_n 2, 1) := by decide +kernel
theorem dX4_numbersIn_19 : decode cX4_numbersIn 19 = .ok (.iconst 1, 1) := by decide +kernel
theorem dX4_numbersIn_20 : decode cX4_numbersIn 20 = .ok (.aload_n 0, 1) := by decide +kernel
theorem dX4_numbersIn_21 : decode cX4_numbersIn 21 = .ok (.iload_n 3, 1) := by decide +kernel
theorem dX4_numbersIn_22 : decode cX4_numbersIn 22 = .ok (.iaload, 1) := by decide +kernel
theorem dX4_numbersIn_23 : decode cX4_numbersIn 23 = .ok (.ishl, 1) := by decide +kernel
theorem dX4_numbersIn_24 : decode cX4_numbersIn 24 = .ok (.ior, 1) := by decide +kernel
theorem dX4_numbersIn_25 : decode cX4_numbersIn 25 = .ok (.istore_n 2, 1) := by decide +kernel
theorem dX4_numbersIn_26 : decode cX4_numbersIn 26 = .ok (.iinc 3 1, 3) := by decide +kernel
theorem dX4_numbersIn_29 : decode cX4_numbersIn 29 = .ok (.goto (-25), 3) := by decide +kernel
theorem dX4_numbersIn_32 : decode cX4_numbersIn 32 = .ok (.iload_n 2, 1) := by decide +kernel
theorem dX4_numbersIn_33 : decode cX4_numbersIn 33 = .ok (.ireturn, 1) := by decide +kernel
theorem dX4_sum_0 : decode cX4_sum 0 = .ok (.iconst 0, 1) := by decide +kernel
theorem dX4_sum_1 : decode cX4_sum 1 = .ok (.istore_n 2, 1) := by decide +kernel
theorem dX4_sum_2 : decode cX4_sum 2 = .ok (.iconst 0, 1) := by decide +kernel
theorem dX4_sum_3 : decode cX4_sum 3 = .ok (.istore_n 3, 1) := by decide +kernel
theorem dX4_sum_4 : decode cX4_sum 4 = .ok (.iload_n 3, 1) := by decide +kernel
theorem dX4_sum_5 : decode cX4_sum 5 = .ok (.aload_n 0, 1) := by decide +kernel
theorem dX4_sum_6 : decode cX4_sum 6 = .ok (.arraylength, 1) := by decide +kernel
theorem dX4_sum_7 : decode cX4_sum 7 = .ok (.if_icmp .ge 23, 3) := by decide +kernel
theorem dX4_sum_10 : decode cX4_sum 10 = .ok (.iload_n 1, 1) := by decide +kernel
theorem dX4_sum_11 : decode cX4_sum 11 = .ok (.iload_n 3, 1) := by decide +kernel
theorem dX4_sum_12 : decode cX4_sum 12 = .ok (.invokestatic 161, 3) := by decide +kernel
theorem dX4_sum_15 : decode cX4_sum 15 = .ok (.ifCond .eq 9, 3) := by decide +kernel
theorem dX4_sum_18 : decode cX4_sum 18 = .ok (.iload_n 2, 1) := by decide +kernel
theorem dX4_sum_19 : decode cX4_sum 19 = .ok (.aload_n 0, 1) := by decide +kernel
theorem dX4_sum_20 : decode cX4_sum 20 = .ok (.iload_n 3, 1) := by decide +kernel
theorem dX4_sum_21 : decode cX4_sum 21 = .ok (.iaload, 1) := by decide +kernel
theorem dX4_sum_22 : decode cX4_sum 22 = .ok (.iadd, 1) := by decide +kernel
theorem dX4_sum_23 : decode cX4_sum 23 = .ok (.istore_n 2, 1) := by decide +kernel
theorem dX4_sum_24 : decode cX4_sum 24 = .ok (.iinc 3 1, 3) := by decide +kernel
theorem dX4_sum_27 : decode cX4_sum 27 = .ok (.goto (-23), 3) := by decide +kernel
theorem dX4_sum_30 : decode cX4_sum 30 = .ok (.iload_n 2, 1) := by decide +kernel
theorem dX4_sum_31 : decode cX4_sum 31 = .ok (.ireturn, 1) := by decide +kernel
theorem dX4_copy_0 : decode cX4_copy 0 = .ok (.aload_n 0, 1) := by decide +kernel
theorem dX4_copy_1 : decode cX4_copy 1 = .ok (.iconst 0, 1) := by decide +kernel
theorem dX4_copy_2 : decode cX4_copy 2 = .ok (.aload_n 1, 1) := by decide +kernel
theorem dX4_copy_3 : decode cX4_copy 3 = .ok (.iconst 0, 1) := by decide +kernel
theorem dX4_copy_4 : decode cX4_copy 4 = .ok (.aload_n 0, 1) := by decide +kernel
theorem dX4_copy_5 : decode cX4_copy 5 = .ok (.arraylength, 1) := by decide +kernel
theorem dX4_copy_6 : decode cX4_copy 6 = .ok (.aload_n 1, 1) := by decide +kernel
theorem dX4_copy_7 : decode cX4_copy 7 = .ok (.arraylength, 1) := by decide +kernel
theorem dX4_copy_8 : decode cX4_copy 8 = .ok (.invokestatic 165, 3) := by decide +kernel
theorem dX4_copy_11 : decode cX4_copy 11 = .ok (.invokestatic 170, 3) := by decide +kernel
theorem dX4_copy_14 : decode cX4_copy 14 = .ok (.return_, 1) := by decide +kernel
theorem dJ6_bitCount_0f7a4_0 : decode cJ6_bitCount_0f7a4 0 = .ok (.iload_n 0, 1) := by decide +kernel
theorem dJ6_bitCount_0f7a4_1 : decode cJ6_bitCount_0f7a4 1 = .ok (.iload_n 0, 1) := by decide +kernel
theorem dJ6_bitCount_0f7a4_2 : decode cJ6_bitCount_0f7a4 2 = .ok (.iconst 1, 1) := by decide +kernel
theorem dJ6_bitCount_0f7a4_3 : decode cJ6_bitCount_0f7a4 3 = .ok (.iushr, 1) := by decide +kernel
theorem dJ6_bitCount_0f7a4_4 : decode cJ6_bitCount_0f7a4 4 = .ok (.ldc_w 265, 3) := by decide +kernel
theorem dJ6_bitCount_0f7a4_7 : decode cJ6_bitCount_0f7a4 7 = .ok (.iand, 1) := by decide +kernel
theorem dJ6_bitCount_0f7a4_8 : decode cJ6_bitCount_0f7a4 8 = .ok (.isub, 1) := by decide +kernel
theorem dJ6_bitCount_0f7a4_9 : decode cJ6_bitCount_0f7a4 9 = .ok (.istore_n 0, 1) := by decide +kernel
theorem dJ6_bitCount_0f7a4_10 : decode cJ6_bitCount_0f7a4 10 = .ok (.iload_n 0, 1) := by decide +kernel
theorem dJ6_bitCount_0f7a4_11 : decode cJ6_bitCount_0f7a4 11 = .ok (.ldc_w 266, 3) := by decide +kernel
theorem dJ6_bitCount_0f7a4_14 : decode cJ6_bitCount_0f7a4 14 = .ok (.iand, 1) := by decide +kernel
theorem dJ6_bitCount_0f7a4_15 : decode cJ6_bitCount_0f7a4 15 = .ok (.iload_n 0, 1) := by decide +kernel
theorem dJ6_bitCount_0f7a4_16 : decode cJ6_bitCount_0f7a4 16 = .ok (.iconst 2, 1) := by decide +kernel
theorem dJ6_bitCount_0f7a4_17 : decode cJ6_bitCount_0f7a4 17 = .ok (.iushr, 1) := by decide +kernel
theorem dJ6_bitCount_0f7a4_18 : decode cJ6_bitCount_0f7a4 18 = .ok (.ldc_w 266, 3) := by decide +kernel
theorem dJ6_bitCount_0f7a4_21 : decode cJ6_bitCount_0f7a4 21 = .ok (.iand, 1) := by decide +kernel
theorem dJ6_bitCount_0f7a4_22 : decode cJ6_bitCount_0f7a4 22 = .ok (.iadd, 1) := by decide +kernel
theorem dJ6_bitCount_0f7a4_23 : decode cJ6_bitCount_0f7a4 23 = .ok (.istore_n 0, 1) := by decide +kernel
theorem dJ6_bitCount_0f7a4_24 : decode cJ6_bitCount_0f7a4 24 = .ok (.iload_n 0, 1) := by decide +kernel
theorem dJ6_bitCount_0f7a4_25 : decode cJ6_bitCount_0f7a4 25 = .ok (.iload_n 0, 1) := by decide +kernel
theorem dJ6_bitCount_0f7a4_26 : decode cJ6_bitCount_0f7a4 26 = .ok (.iconst 4, 1) := by decide +kernel
theorem dJ6_bitCount_0f7a4_27 : decode cJ6_bitCount_0f7a4 27 = .ok (.iushr, 1) := by decide +kernel
theorem dJ6_bitCount_0f7a4_28 : decode cJ6_bitCount_0f7a4 28 = .ok (.iadd, 1) := by decide +kernel
theorem dJ6_bitCount_0f7a4_29 : decode cJ6_bitCount_0f7a4 29 = .ok (.ldc_w 267, 3) := by decide +kernel
theorem dJ6_bitCount_0f7a4_32 : decode cJ6_bitCount_0f7a4 32 = .ok (.iand, 1) := by decide +kernel
theorem dJ6_bitCount_0f7a4_33 : decode cJ6_bitCount_0f7a4 33 = .ok (.istore_n 0, 1) := by decide +kernel
theorem dJ6_bitCount_0f7a4_34 : decode cJ6_bitCount_0f7a4 34 = .ok (.iload_n 0, 1) := by decide +kernel
theorem dJ6_bitCount_0f7a4_35 : decode cJ6_bitCount_0f7a4 35 = .ok (.iload_n 0, 1) := by decide +kernel
theorem dJ6_bitCount_0f7a4_36 : decode cJ6_bitCount_0f7a4 36 = .ok (.bipush 8, 2) := by decide +kernel
theorem dJ6_bitCount_0f7a4_38 : decode cJ6_bitCount_0f7a4 38 = .ok (.iushr, 1) := by decide +kernel
theorem dJ6_bitCount_0f7a4_39 : decode cJ6_bitCount_0f7a4 39 = .ok (.iadd, 1) := by decide +kernel
theorem dJ6_bitCount_0f7a4_40 : decode cJ6_bitCount_0f7a4 40 = .ok (.istore_n 0, 1) := by decide +kernel
theorem dJ6_bitCount_0f7a4_41 : decode cJ6_bitCount_0f7a4 41 = .ok (.iload_n 0, 1) := by decide +kernel
theorem dJ6_bitCount_0f7a4_42 : decode cJ6_bitCount_0f7a4 42 = .ok (.iload_n 0, 1) := by decide +kernel
theorem dJ6_bitCount_0f7a4_43 : decode cJ6_bitCount_0f7a4 43 = .ok (.bipush 16, 2) := by decide +kernel
theorem dJ6_bitCount_0f7a4_45 : decode cJ6_bitCount_0f7a4 45 = .ok (.iushr, 1) := by decide +kernel
theorem dJ6_bitCount_0f7a4_46 : decode cJ6_bitCount_0f7a4 46 = .ok (.iadd, 1) := by decide +kernel
theorem dJ6_bitCount_0f7a4_47 : decode cJ6_bitCount_0f7a4 47 = .ok (.istore_n 0, 1) := by decide +kernel
theorem dJ6_bitCount_0f7a4_48 : decode cJ6_bitCount_0f7a4 48 = .ok (.iload_n 0, 1) := by decide +kernel
theorem dJ6_bitCount_0f7a4_49 : decode cJ6_bitCount_0f7a4 49 = .ok (.bipush 63, 2) := by decide +kernel
theorem dJ6_bitCount_0f7a4_51 : decode cJ6_bitCount_0f7a4 51 = .ok (.iand, 1) := by decide +kernel
theorem dJ6_bitCount_0f7a4_52 : decode cJ6_bitCount_0f7a4 52 = .ok (.ireturn, 1) := by decide +kernel
