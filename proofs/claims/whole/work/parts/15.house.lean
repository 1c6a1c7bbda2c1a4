theorem dX2_canSeat_0 : decode cX2_canSeat 0 = .ok (.aload_n 0, 1) := by decide +kernel
theorem dX2_canSeat_1 : decode cX2_canSeat 1 = .ok (.getfield 15, 3) := by decide +kernel
theorem dX2_canSeat_4 : decode cX2_canSeat 4 = .ok (.getfield 23, 3) := by decide +kernel
theorem dX2_canSeat_7 : decode cX2_canSeat 7 = .ok (.iconst 0, 1) := by decide +kernel
theorem dX2_canSeat_8 : decode cX2_canSeat 8 = .ok (.iload_n 1, 1) := by decide +kernel
theorem dX2_canSeat_9 : decode cX2_canSeat 9 = .ok (.iadd, 1) := by decide +kernel
theorem dX2_canSeat_10 : decode cX2_canSeat 10 = .ok (.iaload, 1) := by decide +kernel
theorem dX2_canSeat_11 : decode cX2_canSeat 11 = .ok (.iload_n 2, 1) := by decide +kernel
theorem dX2_canSeat_12 : decode cX2_canSeat 12 = .ok (.if_icmp .eq 7, 3) := by decide +kernel
theorem dX2_canSeat_15 : decode cX2_canSeat 15 = .ok (.iconst 1, 1) := by decide +kernel
theorem dX2_canSeat_16 : decode cX2_canSeat 16 = .ok (.goto 4, 3) := by decide +kernel
theorem dX2_canSeat_19 : decode cX2_canSeat 19 = .ok (.iconst 0, 1) := by decide +kernel
theorem dX2_canSeat_20 : decode cX2_canSeat 20 = .ok (.ireturn, 1) := by decide +kernel
theorem dX2_canCall_0 : decode cX2_canCall 0 = .ok (.aload_n 0, 1) := by decide +kernel
theorem dX2_canCall_1 : decode cX2_canCall 1 = .ok (.getfield 15, 3) := by decide +kernel
theorem dX2_canCall_4 : decode cX2_canCall 4 = .ok (.getfield 23, 3) := by decide +kernel
theorem dX2_canCall_7 : decode cX2_canCall 7 = .ok (.bipush 16, 2) := by decide +kernel
theorem dX2_canCall_9 : decode cX2_canCall 9 = .ok (.iload_n 1, 1) := by decide +kernel
theorem dX2_canCall_10 : decode cX2_canCall 10 = .ok (.iadd, 1) := by decide +kernel
theorem dX2_canCall_11 : decode cX2_canCall 11 = .ok (.iaload, 1) := by decide +kernel
theorem dX2_canCall_12 : decode cX2_canCall 12 = .ok (.aload_n 0, 1) := by decide +kernel
theorem dX2_canCall_13 : decode cX2_canCall 13 = .ok (.getfield 15, 3) := by decide +kernel
theorem dX2_canCall_16 : decode cX2_canCall 16 = .ok (.iload_n 1, 1) := by decide +kernel
theorem dX2_canCall_17 : decode cX2_canCall 17 = .ok (.iload_n 2, 1) := by decide +kernel
theorem dX2_canCall_18 : decode cX2_canCall 18 = .ok (.invokevirtual 28, 3) := by decide +kernel
theorem dX2_canCall_21 : decode cX2_canCall 21 = .ok (.if_icmp .eq 7, 3) := by decide +kernel
theorem dX2_canCall_24 : decode cX2_canCall 24 = .ok (.iconst 1, 1) := by decide +kernel
theorem dX2_canCall_25 : decode cX2_canCall 25 = .ok (.goto 4, 3) := by decide +kernel
theorem dX2_canCall_28 : decode cX2_canCall 28 = .ok (.iconst 0, 1) := by decide +kernel
theorem dX2_canCall_29 : decode cX2_canCall 29 = .ok (.ireturn, 1) := by decide +kernel
theorem dX2_canMend_0 : decode cX2_canMend 0 = .ok (.aload_n 0, 1) := by decide +kernel
theorem dX2_canMend_1 : decode cX2_canMend 1 = .ok (.getfield 15, 3) := by decide +kernel
theorem dX2_canMend_4 : decode cX2_canMend 4 = .ok (.getfield 23, 3) := by decide +kernel
theorem dX2_canMend_7 : decode cX2_canMend 7 = .ok (.bipush 16, 2) := by decide +kernel
theorem dX2_canMend_9 : decode cX2_canMend 9 = .ok (.iload_n 1, 1) := by decide +kernel
theorem dX2_canMend_10 : decode cX2_canMend 10 = .ok (.iadd, 1) := by decide +kernel
theorem dX2_canMend_11 : decode cX2_canMend 11 = .ok (.iaload, 1) := by decide +kernel
theorem dX2_canMend_12 : decode cX2_canMend 12 = .ok (.aload_n 0, 1) := by decide +kernel
theorem dX2_canMend_13 : decode cX2_canMend 13 = .ok (.getfield 15, 3) := by decide +kernel
theorem dX2_canMend_16 : decode cX2_canMend 16 = .ok (.getfield 32, 3) := by decide +kernel
theorem dX2_canMend_19 : decode cX2_canMend 19 = .ok (.iload_n 1, 1) := by decide +kernel
theorem dX2_canMend_20 : decode cX2_canMend 20 = .ok (.iconst 4, 1) := by decide +kernel
theorem dX2_canMend_21 : decode cX2_canMend 21 = .ok (.imul, 1) := by decide +kernel
theorem dX2_canMend_22 : decode cX2_canMend 22 = .ok (.iaload, 1) := by decide +kernel
theorem dX2_canMend_23 : decode cX2_canMend 23 = .ok (.if_icmp .eq 7, 3) := by decide +kernel
theorem dX2_canMend_26 : decode cX2_canMend 26 = .ok (.iconst 1, 1) := by decide +kernel
theorem dX2_canMend_27 : decode cX2_canMend 27 = .ok (.goto 4, 3) := by decide +kernel
theorem dX2_canMend_30 : decode cX2_canMend 30 = .ok (.iconst 0, 1) := by decide +kernel
theorem dX2_canMend_31 : decode cX2_canMend 31 = .ok (.ireturn, 1) := by decide +kernel
theorem dX2_seatStep_0 : decode cX2_seatStep 0 = .ok (.aload_n 0, 1) := by decide +kernel
theorem dX2_seatStep_1 : decode cX2_seatStep 1 = .ok (.getfield 15, 3) := by decide +kernel
theorem dX2_seatStep_4 : decode cX2_seatStep 4 = .ok (.invokevirtual 35, 3) := by decide +kernel
theorem dX2_seatStep_7 : decode cX2_seatStep 7 = .ok (.aload_n 0, 1) := by decide +kernel
theorem dX2_seatStep_8 : decode cX2_seatStep 8 = .ok (.getfield 15, 3) := by decide +kernel
theorem dX2_seatStep_11 : decode cX2_seatStep 11 = .ok (.getfield 23, 3) := by decide +kernel
theorem dX2_seatStep_14 : decode cX2_seatStep 14 = .ok (.iconst 0, 1) := by decide +kernel
theorem dX2_seatStep_15 : decode cX2_seatStep 15 = .ok (.iload_n 1, 1) := by decide +kernel
theorem dX2_seatStep_16 : decode cX2_seatStep 16 = .ok (.iadd, 1) := by decide +kernel
theorem dX2_seatStep_17 : decode cX2_seatStep 17 = .ok (.iload_n 2, 1) := by decide +kernel
theorem dX2_seatStep_18 : decode cX2_seatStep 18 = .ok (.iastore, 1) := by decide +kernel
theorem dX2_seatStep_19 : decode cX2_seatStep 19 = .ok (.iconst 1, 1) := by decide +kernel
theorem dX2_seatStep_20 : decode cX2_seatStep 20 = .ok (.ireturn, 1) := by decide +kernel
theorem dX2_callStep_0 : decode cX2_callStep 0 = .ok (.aload_n 0, 1) := by decide +kernel
theorem dX2_callStep_1 : decode cX2_callStep 1 = .ok (.getfield 15, 3) := by decide +kernel
theorem dX2_callStep_4 : decode cX2_callStep 4 = .ok (.invokevirtual 35, 3) := by decide +kernel
theorem dX2_callStep_7 : decode cX2_callStep 7 = .ok (.aload_n 0, 1) := by decide +kernel
theorem dX2_callStep_8 : decode cX2_callStep 8 = .ok (.getfield 15, 3) := by decide +kernel
theorem dX2_callStep_11 : decode cX2_callStep 11 = .ok (.getfield 23, 3) := by decide +kernel
theorem dX2_callStep_14 : decode cX2_callStep 14 = .ok (.bipush 16, 2) := by decide +kernel
theorem dX2_callStep_16 : decode cX2_callStep 16 = .ok (.iload_n 1, 1) := by decide +kernel
theorem dX2_callStep_17 : decode cX2_callStep 17 = .ok (.iadd, 1) := by decide +kernel
theorem dX2_callStep_18 : decode cX2_callStep 18 = .ok (.aload_n 0, 1) := by decide +kernel
theorem dX2_callStep_19 : decode cX2_callStep 19 = .ok (.getfield 15, 3) := by decide +kernel
theorem dX2_callStep_22 : decode cX2_callStep 22 = .ok (.iload_n 1, 1) := by decide +kernel
theorem dX2_callStep_23 : decode cX2_callStep 23 = .ok (.iload_n 2, 1) := by decide +kernel
theorem dX2_callStep_24 : decode cX2_callStep 24 = .ok (.invokevirtual 28, 3) := by decide +kernel
theorem dX2_callStep_27 : decode cX2_callStep 27 = .ok (.iastore, 1) := by decide +kernel
theorem dX2_callStep_28 : decode cX2_callStep 28 = .ok (.iconst 1, 1) := by decide +kernel
theorem dX2_callStep_29 : decode cX2_callStep 29 = .ok (.ireturn, 1) := by decide +kernel
theorem dX2_mendStep_0 : decode cX2_mendStep 0 = .ok (.aload_n 0, 1) := by decide +kernel
theorem dX2_mendStep_1 : decode cX2_mendStep 1 = .ok (.getfield 15, 3) := by decide +kernel
theorem dX2_mendStep_4 : decode cX2_mendStep 4 = .ok (.invokevirtual 35, 3) := by decide +kernel
theorem dX2_mendStep_7 : decode cX2_mendStep 7 = .ok (.aload_n 0, 1) := by decide +kernel
theorem dX2_mendStep_8 : decode cX2_mendStep 8 = .ok (.getfield 15, 3) := by decide +kernel
theorem dX2_mendStep_11 : decode cX2_mendStep 11 = .ok (.getfield 23, 3) := by decide +kernel
theorem dX2_mendStep_14 : decode cX2_mendStep 14 = .ok (.bipush 16, 2) := by decide +kernel
theorem dX2_mendStep_16 : decode cX2_mendStep 16 = .ok (.iload_n 1, 1) := by decide +kernel
theorem dX2_mendStep_17 : decode cX2_mendStep 17 = .ok (.iadd, 1) := by decide +kernel
theorem dX2_mendStep_18 : decode cX2_mendStep 18 = .ok (.aload_n 0, 1) := by decide +kernel
theorem dX2_mendStep_19 : decode cX2_mendStep 19 = .ok (.getfield 15, 3) := by decide +kernel
theorem dX2_mendStep_22 : decode cX2_mendStep 22 = .ok (.getfield 32, 3) := by decide +kernel
theorem dX2_mendStep_25 : decode cX2_mendStep 25 = .ok (.iload_n 1, 1) := by decide +kernel
theorem dX2_mendStep_26 : decode cX2_mendStep 26 = .ok (.iconst 4, 1) := by decide +kernel
theorem dX2_mendStep_27 : decode cX2_mendStep 27 = .ok (.imul, 1) := by decide +kernel
theorem dX2_mendStep_28 : decode cX2_mendStep 28 = .ok (.iaload, 1) := by decide +kernel
theorem dX2_mendStep_29 : decode cX2_mendStep 29 = .ok (.iastore, 1) := by decide +kernel
theorem dX2_mendStep_30 : decode cX2_mendStep 30 = .ok (.iconst 1, 1) := by decide +kernel
theorem dX2_mendStep_31 : decode cX2_mendStep 31 = .ok (.ireturn, 1) := by decide +kernel
theorem dX2_possible_0 : decode cX2_possible 0 = .ok (.iload_n 1, 1) := by decide +kernel
theorem dX2_possible_1 : decode cX2_possible 1 = .ok (.sipush 9999, 3) := by decide +kernel
theorem dX2_possible_4 : decode cX2_possible 4 = .ok (.aload_n 0, 1) := by decide +kernel
theorem dX2_possible_5 : decode cX2_possible 5 = .ok (.getfield 15, 3) := by decide +kernel
theorem dX2_possible_8 : decode cX2_possible 8 = .ok (.getfield 23, 3) := by decide +kernel
theorem dX2_possible_11 : decode cX2_possible 11 = .ok (.bipush 41, 2) := by decide +kernel
theorem dX2_possible_13 : decode cX2_possible 13 = .ok (.iaload, 1) := by decide +kernel
theorem dX2_possible_14 : decode cX2_possible 14 = .ok (.isub, 1) := by decide +kernel
theorem dX2_possible_15 : decode cX2_possible 15 = .ok (.invokestatic 38, 3) := by decide +kernel
theorem dX2_possible_18 : decode cX2_possible 18 = .ok (.ireturn, 1) := by decide +kernel
theorem dX2_holdEvenings_0 : decode cX2_holdEvenings 0 = .ok (.iconst 0, 1) := by decide +kernel
theorem dX2_holdEvenings_1 : decode cX2_holdEvenings 1 = .ok (.istore_n 2, 1) := by decide +kernel
theorem dX2_holdEvenings_2 : decode cX2_holdEvenings 2 = .ok (.iconst 0, 1) := by decide +kernel
theorem dX2_holdEvenings_3 : decode cX2_holdEvenings 3 = .ok (.istore_n 3, 1) := by decide +kernel
theorem dX2_holdEvenings_4 : decode cX2_holdEvenings 4 = .ok (.iload_n 3, 1) := by decide +kernel
theorem dX2_holdEvenings_5 : decode cX2_holdEvenings 5 = .ok (.iload_n 1, 1) := by decide +kernel
theorem dX2_holdEvenings_6 : decode cX2_holdEvenings 6 = .ok (.if_icmp .ge 23, 3) := by decide +kernel
theorem dX2_holdEvenings_9 : decode cX2_holdEvenings 9 = .ok (.aload_n 0, 1) := by decide +kernel
theorem dX2_holdEvenings_10 : decode cX2_holdEvenings 10 = .ok (.getfield 15, 3) := by decide +kernel
theorem dX2_holdEvenings_13 : decode cX2_holdEvenings 13 = .ok (.invokevirtual 35, 3) := by decide +kernel
theorem dX2_holdEvenings_16 : decode cX2_holdEvenings 16 = .ok (.iload_n 2, 1) := by decide +kernel
theorem dX2_holdEvenings_17 : decode cX2_holdEvenings 17 = .ok (.aload_n 0, 1) := by decide +kernel
theorem dX2_holdEvenings_18 : decode cX2_holdEvenings 18 = .ok (.invokevirtual 43, 3) := by decide +kernel
theorem dX2_holdEvenings_21 : decode cX2_holdEvenings 21 = .ok (.iadd, 1) := by decide +kernel
theorem dX2_holdEvenings_22 : decode cX2_holdEvenings 22 = .ok (.istore_n 2, 1) := by decide +kernel
theorem dX2_holdEvenings_23 : decode cX2_holdEvenings 23 = .ok (.iinc 3 1, 3) := by decide +kernel
theorem dX2_holdEvenings_26 : decode cX2_holdEvenings 26 = .ok (.goto (-22), 3) := by decide +kernel
theorem dX2_holdEvenings_29 : decode cX2_holdEvenings 29 = .ok (.iload_n 2, 1) := by decide +kernel
theorem dX2_holdEvenings_30 : decode cX2_holdEvenings 30 = .ok (.ireturn, 1) := by decide +kernel
theorem dX2_holdEvening_0 : decode cX2_holdEvening 0 = .ok (.aload_n 0, 1) := by decide +kernel
theorem dX2_holdEvening_1 : decode cX2_holdEvening 1 = .ok (.getfield 19, 3) := by decide +kernel
theorem dX2_holdEvening_4 : decode cX2_holdEvening 4 = .ok (.invokevirtual 47, 3) := by decide +kernel
theorem dX2_holdEvening_7 : decode cX2_holdEvening 7 = .ok (.iconst 0, 1) := by decide +kernel
theorem dX2_holdEvening_8 : decode cX2_holdEvening 8 = .ok (.istore_n 1, 1) := by decide +kernel
theorem dX2_holdEvening_9 : decode cX2_holdEvening 9 = .ok (.aload_n 0, 1) := by decide +kernel
theorem dX2_holdEvening_10 : decode cX2_holdEvening 10 = .ok (.iconst 0, 1) := by decide +kernel
theorem dX2_holdEvening_11 : decode cX2_holdEvening 11 = .ok (.putfield 52, 3) := by decide +kernel
theorem dX2_holdEvening_14 : decode cX2_holdEvening 14 = .ok (.aload_n 0, 1) := by decide +kernel
theorem dX2_holdEvening_15 : decode cX2_holdEvening 15 = .ok (.iconst 0, 1) := by decide +kernel
theorem dX2_holdEvening_16 : decode cX2_holdEvening 16 = .ok (.putfield 56, 3) := by decide +kernel
theorem dX2_holdEvening_19 : decode cX2_holdEvening 19 = .ok (.iload_n 1, 1) := by decide +kernel
theorem dX2_holdEvening_20 : decode cX2_holdEvening 20 = .ok (.bipush 12, 2) := by decide +kernel
theorem dX2_holdEvening_22 : decode cX2_holdEvening 22 = .ok (.if_icmp .eq 31, 3) := by decide +kernel
theorem dX2_holdEvening_25 : decode cX2_holdEvening 25 = .ok (.aload_n 0, 1) := by decide +kernel
theorem dX2_holdEvening_26 : decode cX2_holdEvening 26 = .ok (.getfield 52, 3) := by decide +kernel
theorem dX2_holdEvening_29 : decode cX2_holdEvening 29 = .ok (.bipush 30, 2) := by decide +kernel
theorem dX2_holdEvening_31 : decode cX2_holdEvening 31 = .ok (.if_icmp .ge 22, 3) := by decide +kernel
theorem dX2_holdEvening_34 : decode cX2_holdEvening 34 = .ok (.aload_n 0, 1) := by decide +kernel
theorem dX2_holdEvening_35 : decode cX2_holdEvening 35 = .ok (.iload_n 1, 1) := by decide +kernel
theorem dX2_holdEvening_36 : decode cX2_holdEvening 36 = .ok (.invokevirtual 59, 3) := by decide +kernel
theorem dX2_holdEvening_39 : decode cX2_holdEvening 39 = .ok (.istore_n 1, 1) := by decide +kernel
theorem dX2_holdEvening_40 : decode cX2_holdEvening 40 = .ok (.aload_n 0, 1) := by decide +kernel
theorem dX2_holdEvening_41 : decode cX2_holdEvening 41 = .ok (.dup, 1) := by decide +kernel
theorem dX2_holdEvening_42 : decode cX2_holdEvening 42 = .ok (.getfield 52, 3) := by decide +kernel
theorem dX2_holdEvening_45 : decode cX2_holdEvening 45 = .ok (.iconst 1, 1) := by decide +kernel
theorem dX2_holdEvening_46 : decode cX2_holdEvening 46 = .ok (.iadd, 1) := by decide +kernel
theorem dX2_holdEvening_47 : decode cX2_holdEvening 47 = .ok (.putfield 52, 3) := by decide +kernel
theorem dX2_holdEvening_50 : decode cX2_holdEvening 50 = .ok (.goto (-31), 3) := by decide +kernel
theorem dX2_holdEvening_53 : decode cX2_holdEvening 53 = .ok (.iload_n 1, 1) := by decide +kernel
theorem dX2_holdEvening_54 : decode cX2_holdEvening 54 = .ok (.bipush 12, 2) := by decide +kernel
theorem dX2_holdEvening_56 : decode cX2_holdEvening 56 = .ok (.if_icmp .ne 7, 3) := by decide +kernel
theorem dX2_holdEvening_59 : decode cX2_holdEvening 59 = .ok (.iconst 1, 1) := by decide +kernel
theorem dX2_holdEvening_60 : decode cX2_holdEvening 60 = .ok (.goto 4, 3) := by decide +kernel
theorem dX2_holdEvening_63 : decode cX2_holdEvening 63 = .ok (.iconst 0, 1) := by decide +kernel
theorem dX2_holdEvening_64 : decode cX2_holdEvening 64 = .ok (.istore_n 2, 1) := by decide +kernel
theorem dX2_holdEvening_65 : decode cX2_holdEvening 65 = .ok (.iload_n 2, 1) := by decide +kernel
theorem dX2_holdEvening_66 : decode cX2_holdEvening 66 = .ok (.iconst 1, 1) := by decide +kernel
theorem dX2_holdEvening_67 : decode cX2_holdEvening 67 = .ok (.if_icmp .ne 7, 3) := by decide +kernel
theorem dX2_holdEvening_70 : decode cX2_holdEvening 70 = .ok (.aload_n 0, 1) := by decide +kernel
theorem dX2_holdEvening_71 : decode cX2_holdEvening 71 = .ok (.invokevirtual 63, 3) := by decide +kernel
theorem dX2_holdEvening_74 : decode cX2_holdEvening 74 = .ok (.aload_n 0, 1) := by decide +kernel
theorem dX2_holdEvening_75 : decode cX2_holdEvening 75 = .ok (.iload_n 2, 1) := by decide +kernel
theorem dX2_holdEvening_76 : decode cX2_holdEvening 76 = .ok (.invokevirtual 66, 3) := by decide +kernel
theorem dX2_holdEvening_79 : decode cX2_holdEvening 79 = .ok (.iload_n 2, 1) := by decide +kernel
theorem dX2_holdEvening_80 : decode cX2_holdEvening 80 = .ok (.ireturn, 1) := by decide +kernel
theorem dX2_showScene_0 : decode cX2_showScene 0 = .ok (.aload_n 0, 1) := by decide +kernel
theorem dX2_showScene_1 : decode cX2_showScene 1 = .ok (.getfield 15, 3) := by decide +kernel
theorem dX2_showScene_4 : decode cX2_showScene 4 = .ok (.getfield 23, 3) := by decide +kernel
theorem dX2_showScene_7 : decode cX2_showScene 7 = .ok (.astore_n 2, 1) := by decide +kernel
theorem dX2_showScene_8 : decode cX2_showScene 8 = .ok (.aload_n 2, 1) := by decide +kernel
theorem dX2_showScene_9 : decode cX2_showScene 9 = .ok (.bipush 28, 2) := by decide +kernel
theorem dX2_showScene_11 : decode cX2_showScene 11 = .ok (.iload_n 1, 1) := by decide +kernel
theorem dX2_showScene_12 : decode cX2_showScene 12 = .ok (.iadd, 1) := by decide +kernel
theorem dX2_showScene_13 : decode cX2_showScene 13 = .ok (.iaload, 1) := by decide +kernel
theorem dX2_showScene_14 : decode cX2_showScene 14 = .ok (.istore_n 3, 1) := by decide +kernel
theorem dX2_showScene_15 : decode cX2_showScene 15 = .ok (.aload_n 2, 1) := by decide +kernel
theorem dX2_showScene_16 : decode cX2_showScene 16 = .ok (.bipush 28, 2) := by decide +kernel
theorem dX2_showScene_18 : decode cX2_showScene 18 = .ok (.iload_n 1, 1) := by decide +kernel
theorem dX2_showScene_19 : decode cX2_showScene 19 = .ok (.iadd, 1) := by decide +kernel
theorem dX2_showScene_20 : decode cX2_showScene 20 = .ok (.sipush 9999, 3) := by decide +kernel
theorem dX2_showScene_23 : decode cX2_showScene 23 = .ok (.iload_n 3, 1) := by decide +kernel
theorem dX2_showScene_24 : decode cX2_showScene 24 = .ok (.iconst 1, 1) := by decide +kernel
theorem dX2_showScene_25 : decode cX2_showScene 25 = .ok (.iadd, 1) := by decide +kernel
theorem dX2_showScene_26 : decode cX2_showScene 26 = .ok (.invokestatic 38, 3) := by decide +kernel
theorem dX2_showScene_29 : decode cX2_showScene 29 = .ok (.iastore, 1) := by decide +kernel
theorem dX2_showScene_30 : decode cX2_showScene 30 = .ok (.aload_n 2, 1) := by decide +kernel
theorem dX2_showScene_31 : decode cX2_showScene 31 = .ok (.bipush 42, 2) := by decide +kernel
theorem dX2_showScene_33 : decode cX2_showScene 33 = .ok (.iaload, 1) := by decide +kernel
theorem dX2_showScene_34 : decode cX2_showScene 34 = .ok (.bipush 10, 2) := by decide +kernel
theorem dX2_showScene_36 : decode cX2_showScene 36 = .ok (.irem, 1) := by decide +kernel
theorem dX2_showScene_37 : decode cX2_showScene 37 = .ok (.istore 4, 2) := by decide +kernel
theorem dX2_showScene_39 : decode cX2_showScene 39 = .ok (.aload_n 0, 1) := by decide +kernel
theorem dX2_showScene_40 : decode cX2_showScene 40 = .ok (.invokevirtual 70, 3) := by decide +kernel
theorem dX2_showScene_43 : decode cX2_showScene 43 = .ok (.aload_n 0, 1) := by decide +kernel
theorem dX2_showScene_44 : decode cX2_showScene 44 = .ok (.getfield 19, 3) := by decide +kernel
theorem dX2_showScene_47 : decode cX2_showScene 47 = .ok (.iload_n 1, 1) := by decide +kernel
theorem dX2_showScene_48 : decode cX2_showScene 48 = .ok (.iload_n 3, 1) := by decide +kernel
theorem dX2_showScene_49 : decode cX2_showScene 49 = .ok (.iload 4, 2) := by decide +kernel
theorem dX2_showScene_51 : decode cX2_showScene 51 = .ok (.invokevirtual 73, 3) := by decide +kernel
theorem dX2_showScene_54 : decode cX2_showScene 54 = .ok (.istore 5, 2) := by decide +kernel
theorem dX2_showScene_56 : decode cX2_showScene 56 = .ok (.aload_n 0, 1) := by decide +kernel
theorem dX2_showScene_57 : decode cX2_showScene 57 = .ok (.getfield 15, 3) := by decide +kernel
theorem dX2_showScene_60 : decode cX2_showScene 60 = .ok (.iload_n 1, 1) := by decide +kernel
theorem dX2_showScene_61 : decode cX2_showScene 61 = .ok (.iload 5, 2) := by decide +kernel
theorem dX2_showScene_63 : decode cX2_showScene 63 = .ok (.invokevirtual 28, 3) := by decide +kernel
theorem dX2_showScene_66 : decode cX2_showScene 66 = .ok (.istore 6, 2) := by decide +kernel
theorem dX2_showScene_68 : decode cX2_showScene 68 = .ok (.iload 5, 2) := by decide +kernel
theorem dX2_showScene_70 : decode cX2_showScene 70 = .ok (.ifCond .eq 47, 3) := by decide +kernel
theorem dX2_showScene_73 : decode cX2_showScene 73 = .ok (.aload_n 2, 1) := by decide +kernel
theorem dX2_showScene_74 : decode cX2_showScene 74 = .ok (.bipush 16, 2) := by decide +kernel
theorem dX2_showScene_76 : decode cX2_showScene 76 = .ok (.iload_n 1, 1) := by decide +kernel
theorem dX2_showScene_77 : decode cX2_showScene 77 = .ok (.iadd, 1) := by decide +kernel
theorem dX2_showScene_78 : decode cX2_showScene 78 = .ok (.iaload, 1) := by decide +kernel
theorem dX2_showScene_79 : decode cX2_showScene 79 = .ok (.iload 6, 2) := by decide +kernel
theorem dX2_showScene_81 : decode cX2_showScene 81 = .ok (.if_icmp .eq 36, 3) := by decide +kernel
theorem dX2_showScene_84 : decode cX2_showScene 84 = .ok (.aload_n 0, 1) := by decide +kernel
theorem dX2_showScene_85 : decode cX2_showScene 85 = .ok (.getfield 19, 3) := by decide +kernel
theorem dX2_showScene_88 : decode cX2_showScene 88 = .ok (.iload_n 1, 1) := by decide +kernel
theorem dX2_showScene_89 : decode cX2_showScene 89 = .ok (.iload 5, 2) := by decide +kernel
theorem dX2_showScene_91 : decode cX2_showScene 91 = .ok (.iload 6, 2) := by decide +kernel
theorem dX2_showScene_93 : decode cX2_showScene 93 = .ok (.invokevirtual 77, 3) := by decide +kernel
theorem dX2_showScene_96 : decode cX2_showScene 96 = .ok (.ifCond .eq 21, 3) := by decide +kernel
theorem dX2_showScene_99 : decode cX2_showScene 99 = .ok (.aload_n 2, 1) := by decide +kernel
theorem dX2_showScene_100 : decode cX2_showScene 100 = .ok (.bipush 16, 2) := by decide +kernel
theorem dX2_showScene_102 : decode cX2_showScene 102 = .ok (.iload_n 1, 1) := by decide +kernel
theorem dX2_showScene_103 : decode cX2_showScene 103 = .ok (.iadd, 1) := by decide +kernel
theorem dX2_showScene_104 : decode cX2_showScene 104 = .ok (.iload 6, 2) := by decide +kernel
theorem dX2_showScene_106 : decode cX2_showScene 106 = .ok (.iastore, 1) := by decide +kernel
theorem dX2_showScene_107 : decode cX2_showScene 107 = .ok (.aload_n 0, 1) := by decide +kernel
theorem dX2_showScene_108 : decode cX2_showScene 108 = .ok (.dup, 1) := by decide +kernel
theorem dX2_showScene_109 : decode cX2_showScene 109 = .ok (.getfield 56, 3) := by decide +kernel
theorem dX2_showScene_112 : decode cX2_showScene 112 = .ok (.iconst 1, 1) := by decide +kernel
theorem dX2_showScene_113 : decode cX2_showScene 113 = .ok (.iadd, 1) := by decide +kernel
theorem dX2_showScene_114 : decode cX2_showScene 114 = .ok (.putfield 56, 3) := by decide +kernel
theorem dX2_showScene_117 : decode cX2_showScene 117 = .ok (.iload 6, 2) := by decide +kernel
theorem dX2_showScene_119 : decode cX2_showScene 119 = .ok (.ireturn, 1) := by decide +kernel
theorem dX2_drawAnew_0 : decode cX2_drawAnew 0 = .ok (.aload_n 0, 1) := by decide +kernel
theorem dX2_drawAnew_1 : decode cX2_drawAnew 1 = .ok (.getfield 15, 3) := by decide +kernel
theorem dX2_drawAnew_4 : decode cX2_drawAnew 4 = .ok (.getfield 23, 3) := by decide +kernel
theorem dX2_drawAnew_7 : decode cX2_drawAnew 7 = .ok (.bipush 42, 2) := by decide +kernel
theorem dX2_drawAnew_9 : decode cX2_drawAnew 9 = .ok (.aload_n 0, 1) := by decide +kernel
theorem dX2_drawAnew_10 : decode cX2_drawAnew 10 = .ok (.getfield 15, 3) := by decide +kernel
theorem dX2_drawAnew_13 : decode cX2_drawAnew 13 = .ok (.getfield 23, 3) := by decide +kernel
theorem dX2_drawAnew_16 : decode cX2_drawAnew 16 = .ok (.bipush 42, 2) := by decide +kernel
theorem dX2_drawAnew_18 : decode cX2_drawAnew 18 = .ok (.iaload, 1) := by decide +kernel
theorem dX2_drawAnew_19 : decode cX2_drawAnew 19 = .ok (.sipush 443, 3) := by decide +kernel
theorem dX2_drawAnew_22 : decode cX2_drawAnew 22 = .ok (.imul, 1) := by decide +kernel
theorem dX2_drawAnew_23 : decode cX2_drawAnew 23 = .ok (.sipush 331, 3) := by decide +kernel
theorem dX2_drawAnew_26 : decode cX2_drawAnew 26 = .ok (.iadd, 1) := by decide +kernel
theorem dX2_drawAnew_27 : decode cX2_drawAnew 27 = .ok (.sipush 30577, 3) := by decide +kernel
theorem dX2_drawAnew_30 : decode cX2_drawAnew 30 = .ok (.irem, 1) := by decide +kernel
theorem dX2_drawAnew_31 : decode cX2_drawAnew 31 = .ok (.iastore, 1) := by decide +kernel
theorem dX2_drawAnew_32 : decode cX2_drawAnew 32 = .ok (.return_, 1) := by decide +kernel
theorem dX2_gladdenSeen_0 : decode cX2_gladdenSeen 0 = .ok (.iconst 0, 1) := by decide +kernel
theorem dX2_gladdenSeen_1 : decode cX2_gladdenSeen 1 = .ok (.istore_n 1, 1) := by decide +kernel
theorem dX2_gladdenSeen_2 : decode cX2_gladdenSeen 2 = .ok (.iload_n 1, 1) := by decide +kernel
theorem dX2_gladdenSeen_3 : decode cX2_gladdenSeen 3 = .ok (.aload_n 0, 1) := by decide +kernel
theorem dX2_gladdenSeen_4 : decode cX2_gladdenSeen 4 = .ok (.getfield 15, 3) := by decide +kernel
theorem dX2_gladdenSeen_7 : decode cX2_gladdenSeen 7 = .ok (.getfield 81, 3) := by decide +kernel
theorem dX2_gladdenSeen_10 : decode cX2_gladdenSeen 10 = .ok (.if_icmp .ge 71, 3) := by decide +kernel
theorem dX2_gladdenSeen_13 : decode cX2_gladdenSeen 13 = .ok (.aload_n 0, 1) := by decide +kernel
theorem dX2_gladdenSeen_14 : decode cX2_gladdenSeen 14 = .ok (.getfield 15, 3) := by decide +kernel
theorem dX2_gladdenSeen_17 : decode cX2_gladdenSeen 17 = .ok (.iload_n 1, 1) := by decide +kernel
theorem dX2_gladdenSeen_18 : decode cX2_gladdenSeen 18 = .ok (.invokevirtual 84, 3) := by decide +kernel
theorem dX2_gladdenSeen_21 : decode cX2_gladdenSeen 21 = .ok (.ifCond .eq 54, 3) := by decide +kernel
theorem dX2_gladdenSeen_24 : decode cX2_gladdenSeen 24 = .ok (.aload_n 0, 1) := by decide +kernel
theorem dX2_gladdenSeen_25 : decode cX2_gladdenSeen 25 = .ok (.getfield 15, 3) := by decide +kernel
theorem dX2_gladdenSeen_28 : decode cX2_gladdenSeen 28 = .ok (.getfield 23, 3) := by decide +kernel
theorem dX2_gladdenSeen_31 : decode cX2_gladdenSeen 31 = .ok (.bipush 8, 2) := by decide +kernel
theorem dX2_gladdenSeen_33 : decode cX2_gladdenSeen 33 = .ok (.iload_n 1, 1) := by decide +kernel
theorem dX2_gladdenSeen_34 : decode cX2_gladdenSeen 34 = .ok (.iadd, 1) := by decide +kernel
theorem dX2_gladdenSeen_35 : decode cX2_gladdenSeen 35 = .ok (.iaload, 1) := by decide +kernel
theorem dX2_gladdenSeen_36 : decode cX2_gladdenSeen 36 = .ok (.aload_n 0, 1) := by decide +kernel
theorem dX2_gladdenSeen_37 : decode cX2_gladdenSeen 37 = .ok (.getfield 19, 3) := by decide +kernel
theorem dX2_gladdenSeen_40 : decode cX2_gladdenSeen 40 = .ok (.aload_n 0, 1) := by decide +kernel
theorem dX2_gladdenSeen_41 : decode cX2_gladdenSeen 41 = .ok (.getfield 15, 3) := by decide +kernel
theorem dX2_gladdenSeen_44 : decode cX2_gladdenSeen 44 = .ok (.getfield 88, 3) := by decide +kernel
theorem dX2_gladdenSeen_47 : decode cX2_gladdenSeen 47 = .ok (.iload_n 1, 1) := by decide +kernel
theorem dX2_gladdenSeen_48 : decode cX2_gladdenSeen 48 = .ok (.aload_n 0, 1) := by decide +kernel
theorem dX2_gladdenSeen_49 : decode cX2_gladdenSeen 49 = .ok (.getfield 52, 3) := by decide +kernel
theorem dX2_gladdenSeen_52 : decode cX2_gladdenSeen 52 = .ok (.invokevirtual 91, 3) := by decide +kernel
theorem dX2_gladdenSeen_55 : decode cX2_gladdenSeen 55 = .ok (.iadd, 1) := by decide +kernel
theorem dX2_gladdenSeen_56 : decode cX2_gladdenSeen 56 = .ok (.istore_n 2, 1) := by decide +kernel
theorem dX2_gladdenSeen_57 : decode cX2_gladdenSeen 57 = .ok (.aload_n 0, 1) := by decide +kernel
theorem dX2_gladdenSeen_58 : decode cX2_gladdenSeen 58 = .ok (.getfield 15, 3) := by decide +kernel
theorem dX2_gladdenSeen_61 : decode cX2_gladdenSeen 61 = .ok (.getfield 23, 3) := by decide +kernel
theorem dX2_gladdenSeen_64 : decode cX2_gladdenSeen 64 = .ok (.bipush 8, 2) := by decide +kernel
theorem dX2_gladdenSeen_66 : decode cX2_gladdenSeen 66 = .ok (.iload_n 1, 1) := by decide +kernel
theorem dX2_gladdenSeen_67 : decode cX2_gladdenSeen 67 = .ok (.iadd, 1) := by decide +kernel
theorem dX2_gladdenSeen_68 : decode cX2_gladdenSeen 68 = .ok (.bipush 99, 2) := by decide +kernel
theorem dX2_gladdenSeen_70 : decode cX2_gladdenSeen 70 = .ok (.iload_n 2, 1) := by decide +kernel
theorem dX2_gladdenSeen_71 : decode cX2_gladdenSeen 71 = .ok (.invokestatic 38, 3) := by decide +kernel
theorem dX2_gladdenSeen_74 : decode cX2_gladdenSeen 74 = .ok (.iastore, 1) := by decide +kernel
theorem dX2_gladdenSeen_75 : decode cX2_gladdenSeen 75 = .ok (.iinc 1 1, 3) := by decide +kernel
theorem dX2_gladdenSeen_78 : decode cX2_gladdenSeen 78 = .ok (.goto (-76), 3) := by decide +kernel
theorem dX2_gladdenSeen_81 : decode cX2_gladdenSeen 81 = .ok (.return_, 1) := by decide +kernel
theorem dX2_writeDown_0 : decode cX2_writeDown 0 = .ok (.aload_n 0, 1) := by decide +kernel
theorem dX2_writeDown_1 : decode cX2_writeDown 1 = .ok (.getfield 15, 3) := by decide +kernel
theorem dX2_writeDown_4 : decode cX2_writeDown 4 = .ok (.getfield 23, 3) := by decide +kernel
theorem dX2_writeDown_7 : decode cX2_writeDown 7 = .ok (.astore_n 2, 1) := by decide +kernel
theorem dX2_writeDown_8 : decode cX2_writeDown 8 = .ok (.aload_n 2, 1) := by decide +kernel
theorem dX2_writeDown_9 : decode cX2_writeDown 9 = .ok (.bipush 41, 2) := by decide +kernel
theorem dX2_writeDown_11 : decode cX2_writeDown 11 = .ok (.iaload, 1) := by decide +kernel
theorem dX2_writeDown_12 : decode cX2_writeDown 12 = .ok (.bipush 30, 2) := by decide +kernel
theorem dX2_writeDown_14 : decode cX2_writeDown 14 = .ok (.irem, 1) := by decide +kernel
theorem dX2_writeDown_15 : decode cX2_writeDown 15 = .ok (.istore_n 3, 1) := by decide +kernel
theorem dX2_writeDown_16 : decode cX2_writeDown 16 = .ok (.aload_n 2, 1) := by decide +kernel
theorem dX2_writeDown_17 : decode cX2_writeDown 17 = .ok (.bipush 43, 2) := by decide +kernel
theorem dX2_writeDown_19 : decode cX2_writeDown 19 = .ok (.iload_n 3, 1) := by decide +kernel
theorem dX2_writeDown_20 : decode cX2_writeDown 20 = .ok (.iadd, 1) := by decide +kernel
theorem dX2_writeDown_21 : decode cX2_writeDown 21 = .ok (.aload_n 0, 1) := by decide +kernel
theorem dX2_writeDown_22 : decode cX2_writeDown 22 = .ok (.getfield 52, 3) := by decide +kernel
theorem dX2_writeDown_25 : decode cX2_writeDown 25 = .ok (.iastore, 1) := by decide +kernel
theorem dX2_writeDown_26 : decode cX2_writeDown 26 = .ok (.aload_n 2, 1) := by decide +kernel
theorem dX2_writeDown_27 : decode cX2_writeDown 27 = .ok (.bipush 73, 2) := by decide +kernel
theorem dX2_writeDown_29 : decode cX2_writeDown 29 = .ok (.iload_n 3, 1) := by decide +kernel
theorem dX2_writeDown_30 : decode cX2_writeDown 30 = .ok (.iadd, 1) := by decide +kernel
theorem dX2_writeDown_31 : decode cX2_writeDown 31 = .ok (.iload_n 1, 1) := by decide +kernel
theorem dX2_writeDown_32 : decode cX2_writeDown 32 = .ok (.iastore, 1) := by decide +kernel
theorem dX2_writeDown_33 : decode cX2_writeDown 33 = .ok (.aload_n 2, 1) := by decide +kernel
theorem dX2_writeDown_34 : decode cX2_writeDown 34 = .ok (.bipush 103, 2) := by decide +kernel
theorem dX2_writeDown_36 : decode cX2_writeDown 36 = .ok (.iload_n 3, 1) := by decide +kernel
theorem dX2_writeDown_37 : decode cX2_writeDown 37 = .ok (.iadd, 1) := by decide +kernel
theorem dX2_writeDown_38 : decode cX2_writeDown 38 = .ok (.aload_n 0, 1) := by decide +kernel
theorem dX2_writeDown_39 : decode cX2_writeDown 39 = .ok (.getfield 56, 3) := by decide +kernel
theorem dX2_writeDown_42 : decode cX2_writeDown 42 = .ok (.iastore, 1) := by decide +kernel
theorem dX2_writeDown_43 : decode cX2_writeDown 43 = .ok (.aload_n 2, 1) := by decide +kernel
theorem dX2_writeDown_44 : decode cX2_writeDown 44 = .ok (.bipush 40, 2) := by decide +kernel
theorem dX2_writeDown_46 : decode cX2_writeDown 46 = .ok (.dup2, 1) := by decide +kernel
theorem dX2_writeDown_47 : decode cX2_writeDown 47 = .ok (.iaload, 1) := by decide +kernel
theorem dX2_writeDown_48 : decode cX2_writeDown 48 = .ok (.iload_n 1, 1) := by decide +kernel
theorem dX2_writeDown_49 : decode cX2_writeDown 49 = .ok (.iadd, 1) := by decide +kernel
theorem dX2_writeDown_50 : decode cX2_writeDown 50 = .ok (.iastore, 1) := by decide +kernel
theorem dX2_writeDown_51 : decode cX2_writeDown 51 = .ok (.aload_n 2, 1) := by decide +kernel
theorem dX2_writeDown_52 : decode cX2_writeDown 52 = .ok (.bipush 41, 2) := by decide +kernel
theorem dX2_writeDown_54 : decode cX2_writeDown 54 = .ok (.dup2, 1) := by decide +kernel
theorem dX2_writeDown_55 : decode cX2_writeDown 55 = .ok (.iaload, 1) := by decide +kernel
theorem dX2_writeDown_56 : decode cX2_writeDown 56 = .ok (.iconst 1, 1) := by decide +kernel
theorem dX2_writeDown_57 : decode cX2_writeDown 57 = .ok (.iadd, 1) := by decide +kernel
theorem dX2_writeDown_58 : decode cX2_writeDown 58 = .ok (.iastore, 1) := by decide +kernel
theorem dX2_writeDown_59 : decode cX2_writeDown 59 = .ok (.return_, 1) := by decide +kernel
theorem dX2_perform_0 : decode cX2_perform 0 = .ok (.iload_n 1, 1) := by decide +kernel
theorem dX2_perform_1 : decode cX2_perform 1 = .ok (.tableswitch 254 3 24 #[116, 128, 147, 182, 206, 228, 254, 254, 254, 254, 254, 254, 254, 254, 254, 254, 254, 254, 254, 254, 254, 103], 103) := by decide +kernel
theorem dX2_perform_104 : decode cX2_perform 104 = .ok (.aload_n 0, 1) := by decide +kernel
theorem dX2_perform_105 : decode cX2_perform 105 = .ok (.getfield 15, 3) := by decide +kernel
theorem dX2_perform_108 : decode cX2_perform 108 = .ok (.iload_n 2, 1) := by decide +kernel
theorem dX2_perform_109 : decode cX2_perform 109 = .ok (.iload_n 3, 1) := by decide +kernel
theorem dX2_perform_110 : decode cX2_perform 110 = .ok (.iload 4, 2) := by decide +kernel
theorem dX2_perform_112 : decode cX2_perform 112 = .ok (.invokevirtual 94, 3) := by decide +kernel
theorem dX2_perform_115 : decode cX2_perform 115 = .ok (.iconst 1, 1) := by decide +kernel
theorem dX2_perform_116 : decode cX2_perform 116 = .ok (.ireturn, 1) := by decide +kernel
theorem dX2_perform_117 : decode cX2_perform 117 = .ok (.aload_n 0, 1) := by decide +kernel
theorem dX2_perform_118 : decode cX2_perform 118 = .ok (.getfield 15, 3) := by decide +kernel
theorem dX2_perform_121 : decode cX2_perform 121 = .ok (.getfield 98, 3) := by decide +kernel
theorem dX2_perform_124 : decode cX2_perform 124 = .ok (.iload_n 3, 1) := by decide +kernel
theorem dX2_perform_125 : decode cX2_perform 125 = .ok (.iload_n 2, 1) := by decide +kernel
theorem dX2_perform_126 : decode cX2_perform 126 = .ok (.iastore, 1) := by decide +kernel
theorem dX2_perform_127 : decode cX2_perform 127 = .ok (.iconst 1, 1) := by decide +kernel
theorem dX2_perform_128 : decode cX2_perform 128 = .ok (.ireturn, 1) := by decide +kernel
theorem dX2_perform_129 : decode cX2_perform 129 = .ok (.aload_n 0, 1) := by decide +kernel
theorem dX2_perform_130 : decode cX2_perform 130 = .ok (.getfield 15, 3) := by decide +kernel
theorem dX2_perform_133 : decode cX2_perform 133 = .ok (.iload_n 2, 1) := by decide +kernel
theorem dX2_perform_134 : decode cX2_perform 134 = .ok (.iload_n 3, 1) := by decide +kernel
theorem dX2_perform_135 : decode cX2_perform 135 = .ok (.invokevirtual 101, 3) := by decide +kernel
theorem dX2_perform_138 : decode cX2_perform 138 = .ok (.iconst (-1), 1) := by decide +kernel
theorem dX2_perform_139 : decode cX2_perform 139 = .ok (.if_icmp .eq 7, 3) := by decide +kernel
theorem dX2_perform_142 : decode cX2_perform 142 = .ok (.iconst 1, 1) := by decide +kernel
theorem dX2_perform_143 : decode cX2_perform 143 = .ok (.goto 4, 3) := by decide +kernel
theorem dX2_perform_146 : decode cX2_perform 146 = .ok (.iconst 0, 1) := by decide +kernel
theorem dX2_perform_147 : decode cX2_perform 147 = .ok (.ireturn, 1) := by decide +kernel
theorem dX2_perform_148 : decode cX2_perform 148 = .ok (.aload_n 0, 1) := by decide +kernel
theorem dX2_perform_149 : decode cX2_perform 149 = .ok (.getfield 15, 3) := by decide +kernel
theorem dX2_perform_152 : decode cX2_perform 152 = .ok (.iload_n 2, 1) := by decide +kernel
theorem dX2_perform_153 : decode cX2_perform 153 = .ok (.invokevirtual 104, 3) := by decide +kernel
theorem dX2_perform_156 : decode cX2_perform 156 = .ok (.ifCond .eq 25, 3) := by decide +kernel
theorem dX2_perform_159 : decode cX2_perform 159 = .ok (.aload_n 0, 1) := by decide +kernel
theorem dX2_perform_160 : decode cX2_perform 160 = .ok (.iload_n 2, 1) := by decide +kernel
theorem dX2_perform_161 : decode cX2_perform 161 = .ok (.iload_n 3, 1) := by decide +kernel
theorem dX2_perform_162 : decode cX2_perform 162 = .ok (.invokevirtual 107, 3) := by decide +kernel
theorem dX2_perform_165 : decode cX2_perform 165 = .ok (.ifCond .eq 16, 3) := by decide +kernel
theorem dX2_perform_168 : decode cX2_perform 168 = .ok (.aload_n 0, 1) := by decide +kernel
theorem dX2_perform_169 : decode cX2_perform 169 = .ok (.iload_n 2, 1) := by decide +kernel
theorem dX2_perform_170 : decode cX2_perform 170 = .ok (.iload_n 3, 1) := by decide +kernel
theorem dX2_perform_171 : decode cX2_perform 171 = .ok (.invokevirtual 111, 3) := by decide +kernel
theorem dX2_perform_174 : decode cX2_perform 174 = .ok (.ifCond .eq 7, 3) := by decide +kernel
theorem dX2_perform_177 : decode cX2_perform 177 = .ok (.iconst 1, 1) := by decide +kernel
theorem dX2_perform_178 : decode cX2_perform 178 = .ok (.goto 4, 3) := by decide +kernel
theorem dX2_perform_181 : decode cX2_perform 181 = .ok (.iconst 0, 1) := by decide +kernel
theorem dX2_perform_182 : decode cX2_perform 182 = .ok (.ireturn, 1) := by decide +kernel
theorem dX2_perform_183 : decode cX2_perform 183 = .ok (.aload_n 0, 1) := by decide +kernel
theorem dX2_perform_184 : decode cX2_perform 184 = .ok (.iload_n 2, 1) := by decide +kernel
theorem dX2_perform_185 : decode cX2_perform 185 = .ok (.iload_n 3, 1) := by decide +kernel
theorem dX2_perform_186 : decode cX2_perform 186 = .ok (.invokevirtual 114, 3) := by decide +kernel
theorem dX2_perform_189 : decode cX2_perform 189 = .ok (.ifCond .eq 16, 3) := by decide +kernel
theorem dX2_perform_192 : decode cX2_perform 192 = .ok (.aload_n 0, 1) := by decide +kernel
theorem dX2_perform_193 : decode cX2_perform 193 = .ok (.iload_n 2, 1) := by decide +kernel
theorem dX2_perform_194 : decode cX2_perform 194 = .ok (.iload_n 3, 1) := by decide +kernel
theorem dX2_perform_195 : decode cX2_perform 195 = .ok (.invokevirtual 117, 3) := by decide +kernel
theorem dX2_perform_198 : decode cX2_perform 198 = .ok (.ifCond .eq 7, 3) := by decide +kernel
theorem dX2_perform_201 : decode cX2_perform 201 = .ok (.iconst 1, 1) := by decide +kernel
theorem dX2_perform_202 : decode cX2_perform 202 = .ok (.goto 4, 3) := by decide +kernel
theorem dX2_perform_205 : decode cX2_perform 205 = .ok (.iconst 0, 1) := by decide +kernel
theorem dX2_perform_206 : decode cX2_perform 206 = .ok (.ireturn, 1) := by decide +kernel
theorem dX2_perform_207 : decode cX2_perform 207 = .ok (.aload_n 0, 1) := by decide +kernel
theorem dX2_perform_208 : decode cX2_perform 208 = .ok (.iload_n 2, 1) := by decide +kernel
theorem dX2_perform_209 : decode cX2_perform 209 = .ok (.invokevirtual 120, 3) := by decide +kernel
theorem dX2_perform_212 : decode cX2_perform 212 = .ok (.ifCond .eq 15, 3) := by decide +kernel
theorem dX2_perform_215 : decode cX2_perform 215 = .ok (.aload_n 0, 1) := by decide +kernel
theorem dX2_perform_216 : decode cX2_perform 216 = .ok (.iload_n 2, 1) := by decide +kernel
theorem dX2_perform_217 : decode cX2_perform 217 = .ok (.invokevirtual 123, 3) := by decide +kernel
theorem dX2_perform_220 : decode cX2_perform 220 = .ok (.ifCond .eq 7, 3) := by decide +kernel
theorem dX2_perform_223 : decode cX2_perform 223 = .ok (.iconst 1, 1) := by decide +kernel
theorem dX2_perform_224 : decode cX2_perform 224 = .ok (.goto 4, 3) := by decide +kernel
theorem dX2_perform_227 : decode cX2_perform 227 = .ok (.iconst 0, 1) := by decide +kernel
theorem dX2_perform_228 : decode cX2_perform 228 = .ok (.ireturn, 1) := by decide +kernel
theorem dX2_perform_229 : decode cX2_perform 229 = .ok (.aload_n 0, 1) := by decide +kernel
theorem dX2_perform_230 : decode cX2_perform 230 = .ok (.iload_n 2, 1) := by decide +kernel
theorem dX2_perform_231 : decode cX2_perform 231 = .ok (.invokevirtual 126, 3) := by decide +kernel
theorem dX2_perform_234 : decode cX2_perform 234 = .ok (.istore 5, 2) := by decide +kernel
theorem dX2_perform_236 : decode cX2_perform 236 = .ok (.aload_n 0, 1) := by decide +kernel
theorem dX2_perform_237 : decode cX2_perform 237 = .ok (.iload 5, 2) := by decide +kernel
theorem dX2_perform_239 : decode cX2_perform 239 = .ok (.invokevirtual 129, 3) := by decide +kernel
theorem dX2_perform_242 : decode cX2_perform 242 = .ok (.pop, 1) := by decide +kernel
theorem dX2_perform_243 : decode cX2_perform 243 = .ok (.iload 5, 2) := by decide +kernel
theorem dX2_perform_245 : decode cX2_perform 245 = .ok (.iload_n 2, 1) := by decide +kernel
theorem dX2_perform_246 : decode cX2_perform 246 = .ok (.if_icmp .ne 7, 3) := by decide +kernel
theorem dX2_perform_249 : decode cX2_perform 249 = .ok (.iconst 1, 1) := by decide +kernel
theorem dX2_perform_250 : decode cX2_perform 250 = .ok (.goto 4, 3) := by decide +kernel
theorem dX2_perform_253 : decode cX2_perform 253 = .ok (.iconst 0, 1) := by decide +kernel
theorem dX2_perform_254 : decode cX2_perform 254 = .ok (.ireturn, 1) := by decide +kernel
theorem dX2_perform_255 : decode cX2_perform 255 = .ok (.iconst 1, 1) := by decide +kernel
theorem dX2_perform_256 : decode cX2_perform 256 = .ok (.ireturn, 1) := by decide +kernel
theorem dX2_passYears_0 : decode cX2_passYears 0 = .ok (.aload_n 0, 1) := by decide +kernel
theorem dX2_passYears_1 : decode cX2_passYears 1 = .ok (.getfield 15, 3) := by decide +kernel
theorem dX2_passYears_4 : decode cX2_passYears 4 = .ok (.invokevirtual 35, 3) := by decide +kernel
theorem dX2_passYears_7 : decode cX2_passYears 7 = .ok (.aload_n 0, 1) := by decide +kernel
theorem dX2_passYears_8 : decode cX2_passYears 8 = .ok (.getfield 15, 3) := by decide +kernel
theorem dX2_passYears_11 : decode cX2_passYears 11 = .ok (.getfield 23, 3) := by decide +kernel
theorem dX2_passYears_14 : decode cX2_passYears 14 = .ok (.bipush 42, 2) := by decide +kernel
theorem dX2_passYears_16 : decode cX2_passYears 16 = .ok (.iload_n 1, 1) := by decide +kernel
theorem dX2_passYears_17 : decode cX2_passYears 17 = .ok (.iconst 2, 1) := by decide +kernel
theorem dX2_passYears_18 : decode cX2_passYears 18 = .ok (.imul, 1) := by decide +kernel
theorem dX2_passYears_19 : decode cX2_passYears 19 = .ok (.sipush 199, 3) := by decide +kernel
theorem dX2_passYears_22 : decode cX2_passYears 22 = .ok (.iadd, 1) := by decide +kernel
theorem dX2_passYears_23 : decode cX2_passYears 23 = .ok (.iastore, 1) := by decide +kernel
theorem dX2_passYears_24 : decode cX2_passYears 24 = .ok (.iconst 0, 1) := by decide +kernel
theorem dX2_passYears_25 : decode cX2_passYears 25 = .ok (.istore_n 3, 1) := by decide +kernel
theorem dX2_passYears_26 : decode cX2_passYears 26 = .ok (.iload_n 3, 1) := by decide +kernel
theorem dX2_passYears_27 : decode cX2_passYears 27 = .ok (.iload_n 2, 1) := by decide +kernel
theorem dX2_passYears_28 : decode cX2_passYears 28 = .ok (.if_icmp .ge 31, 3) := by decide +kernel
theorem dX2_passYears_31 : decode cX2_passYears 31 = .ok (.aload_n 0, 1) := by decide +kernel
theorem dX2_passYears_32 : decode cX2_passYears 32 = .ok (.getfield 15, 3) := by decide +kernel
theorem dX2_passYears_35 : decode cX2_passYears 35 = .ok (.getfield 23, 3) := by decide +kernel
theorem dX2_passYears_38 : decode cX2_passYears 38 = .ok (.bipush 42, 2) := by decide +kernel
theorem dX2_passYears_40 : decode cX2_passYears 40 = .ok (.iaload, 1) := by decide +kernel
theorem dX2_passYears_41 : decode cX2_passYears 41 = .ok (.istore 4, 2) := by decide +kernel
theorem dX2_passYears_43 : decode cX2_passYears 43 = .ok (.aload_n 0, 1) := by decide +kernel
theorem dX2_passYears_44 : decode cX2_passYears 44 = .ok (.invokevirtual 70, 3) := by decide +kernel
theorem dX2_passYears_47 : decode cX2_passYears 47 = .ok (.aload_n 0, 1) := by decide +kernel
theorem dX2_passYears_48 : decode cX2_passYears 48 = .ok (.iload 4, 2) := by decide +kernel
theorem dX2_passYears_50 : decode cX2_passYears 50 = .ok (.invokevirtual 132, 3) := by decide +kernel
theorem dX2_passYears_53 : decode cX2_passYears 53 = .ok (.iinc 3 1, 3) := by decide +kernel
theorem dX2_passYears_56 : decode cX2_passYears 56 = .ok (.goto (-30), 3) := by decide +kernel
theorem dX2_passYears_59 : decode cX2_passYears 59 = .ok (.return_, 1) := by decide +kernel
theorem dX2_passYear_0 : decode cX2_passYear 0 = .ok (.aload_n 0, 1) := by decide +kernel
theorem dX2_passYear_1 : decode cX2_passYear 1 = .ok (.getfield 15, 3) := by decide +kernel
theorem dX2_passYear_4 : decode cX2_passYear 4 = .ok (.getfield 23, 3) := by decide +kernel
theorem dX2_passYear_7 : decode cX2_passYear 7 = .ok (.astore_n 2, 1) := by decide +kernel
theorem dX2_passYear_8 : decode cX2_passYear 8 = .ok (.iload_n 1, 1) := by decide +kernel
theorem dX2_passYear_9 : decode cX2_passYear 9 = .ok (.bipush 12, 2) := by decide +kernel
theorem dX2_passYear_11 : decode cX2_passYear 11 = .ok (.irem, 1) := by decide +kernel
theorem dX2_passYear_12 : decode cX2_passYear 12 = .ok (.istore_n 3, 1) := by decide +kernel
theorem dX2_passYear_13 : decode cX2_passYear 13 = .ok (.iload_n 1, 1) := by decide +kernel
theorem dX2_passYear_14 : decode cX2_passYear 14 = .ok (.iconst 5, 1) := by decide +kernel
theorem dX2_passYear_15 : decode cX2_passYear 15 = .ok (.irem, 1) := by decide +kernel
theorem dX2_passYear_16 : decode cX2_passYear 16 = .ok (.tableswitch 102 0 2 #[28, 60, 82], 28) := by decide +kernel
theorem dX2_passYear_44 : decode cX2_passYear 44 = .ok (.aload_n 0, 1) := by decide +kernel
theorem dX2_passYear_45 : decode cX2_passYear 45 = .ok (.getfield 15, 3) := by decide +kernel
theorem dX2_passYear_48 : decode cX2_passYear 48 = .ok (.getfield 81, 3) := by decide +kernel
theorem dX2_passYear_51 : decode cX2_passYear 51 = .ok (.ifCond .le 81, 3) := by decide +kernel
theorem dX2_passYear_54 : decode cX2_passYear 54 = .ok (.aload_n 2, 1) := by decide +kernel
theorem dX2_passYear_55 : decode cX2_passYear 55 = .ok (.iconst 0, 1) := by decide +kernel
theorem dX2_passYear_56 : decode cX2_passYear 56 = .ok (.iload_n 1, 1) := by decide +kernel
theorem dX2_passYear_57 : decode cX2_passYear 57 = .ok (.aload_n 0, 1) := by decide +kernel
theorem dX2_passYear_58 : decode cX2_passYear 58 = .ok (.getfield 15, 3) := by decide +kernel
theorem dX2_passYear_61 : decode cX2_passYear 61 = .ok (.getfield 81, 3) := by decide +kernel
theorem dX2_passYear_64 : decode cX2_passYear 64 = .ok (.irem, 1) := by decide +kernel
theorem dX2_passYear_65 : decode cX2_passYear 65 = .ok (.iadd, 1) := by decide +kernel
theorem dX2_passYear_66 : decode cX2_passYear 66 = .ok (.iload_n 1, 1) := by decide +kernel
theorem dX2_passYear_67 : decode cX2_passYear 67 = .ok (.iconst 5, 1) := by decide +kernel
theorem dX2_passYear_68 : decode cX2_passYear 68 = .ok (.idiv, 1) := by decide +kernel
theorem dX2_passYear_69 : decode cX2_passYear 69 = .ok (.bipush 10, 2) := by decide +kernel
theorem dX2_passYear_71 : decode cX2_passYear 71 = .ok (.irem, 1) := by decide +kernel
theorem dX2_passYear_72 : decode cX2_passYear 72 = .ok (.iastore, 1) := by decide +kernel
theorem dX2_passYear_73 : decode cX2_passYear 73 = .ok (.goto 59, 3) := by decide +kernel
theorem dX2_passYear_76 : decode cX2_passYear 76 = .ok (.aload_n 2, 1) := by decide +kernel
theorem dX2_passYear_77 : decode cX2_passYear 77 = .ok (.bipush 16, 2) := by decide +kernel
theorem dX2_passYear_79 : decode cX2_passYear 79 = .ok (.iload_n 3, 1) := by decide +kernel
theorem dX2_passYear_80 : decode cX2_passYear 80 = .ok (.iadd, 1) := by decide +kernel
theorem dX2_passYear_81 : decode cX2_passYear 81 = .ok (.aload_n 0, 1) := by decide +kernel
theorem dX2_passYear_82 : decode cX2_passYear 82 = .ok (.getfield 15, 3) := by decide +kernel
theorem dX2_passYear_85 : decode cX2_passYear 85 = .ok (.iload_n 3, 1) := by decide +kernel
theorem dX2_passYear_86 : decode cX2_passYear 86 = .ok (.iconst 1, 1) := by decide +kernel
theorem dX2_passYear_87 : decode cX2_passYear 87 = .ok (.iload_n 1, 1) := by decide +kernel
theorem dX2_passYear_88 : decode cX2_passYear 88 = .ok (.iconst 3, 1) := by decide +kernel
theorem dX2_passYear_89 : decode cX2_passYear 89 = .ok (.irem, 1) := by decide +kernel
theorem dX2_passYear_90 : decode cX2_passYear 90 = .ok (.iadd, 1) := by decide +kernel
theorem dX2_passYear_91 : decode cX2_passYear 91 = .ok (.invokevirtual 28, 3) := by decide +kernel
theorem dX2_passYear_94 : decode cX2_passYear 94 = .ok (.iastore, 1) := by decide +kernel
theorem dX2_passYear_95 : decode cX2_passYear 95 = .ok (.goto 37, 3) := by decide +kernel
theorem dX2_passYear_98 : decode cX2_passYear 98 = .ok (.aload_n 2, 1) := by decide +kernel
theorem dX2_passYear_99 : decode cX2_passYear 99 = .ok (.bipush 16, 2) := by decide +kernel
theorem dX2_passYear_101 : decode cX2_passYear 101 = .ok (.iload_n 3, 1) := by decide +kernel
theorem dX2_passYear_102 : decode cX2_passYear 102 = .ok (.iadd, 1) := by decide +kernel
theorem dX2_passYear_103 : decode cX2_passYear 103 = .ok (.aload_n 0, 1) := by decide +kernel
theorem dX2_passYear_104 : decode cX2_passYear 104 = .ok (.getfield 15, 3) := by decide +kernel
theorem dX2_passYear_107 : decode cX2_passYear 107 = .ok (.getfield 32, 3) := by decide +kernel
theorem dX2_passYear_110 : decode cX2_passYear 110 = .ok (.iload_n 3, 1) := by decide +kernel
theorem dX2_passYear_111 : decode cX2_passYear 111 = .ok (.iconst 4, 1) := by decide +kernel
theorem dX2_passYear_112 : decode cX2_passYear 112 = .ok (.imul, 1) := by decide +kernel
theorem dX2_passYear_113 : decode cX2_passYear 113 = .ok (.iaload, 1) := by decide +kernel
theorem dX2_passYear_114 : decode cX2_passYear 114 = .ok (.iastore, 1) := by decide +kernel
theorem dX2_passYear_115 : decode cX2_passYear 115 = .ok (.goto 17, 3) := by decide +kernel
theorem dX2_passYear_118 : decode cX2_passYear 118 = .ok (.aload_n 0, 1) := by decide +kernel
theorem dX2_passYear_119 : decode cX2_passYear 119 = .ok (.iconst 1, 1) := by decide +kernel
theorem dX2_passYear_120 : decode cX2_passYear 120 = .ok (.invokevirtual 126, 3) := by decide +kernel
theorem dX2_passYear_123 : decode cX2_passYear 123 = .ok (.iconst 1, 1) := by decide +kernel
theorem dX2_passYear_124 : decode cX2_passYear 124 = .ok (.if_icmp .ne 8, 3) := by decide +kernel
theorem dX2_passYear_127 : decode cX2_passYear 127 = .ok (.aload_n 0, 1) := by decide +kernel
theorem dX2_passYear_128 : decode cX2_passYear 128 = .ok (.invokevirtual 43, 3) := by decide +kernel
theorem dX2_passYear_131 : decode cX2_passYear 131 = .ok (.pop, 1) := by decide +kernel
theorem dX2_passYear_132 : decode cX2_passYear 132 = .ok (.return_, 1) := by decide +kernel
theorem dX2_foretell_0 : decode cX2_foretell 0 = .ok (.aload_n 0, 1) := by decide +kernel
theorem dX2_foretell_1 : decode cX2_foretell 1 = .ok (.getfield 15, 3) := by decide +kernel
theorem dX2_foretell_4 : decode cX2_foretell 4 = .ok (.getfield 23, 3) := by decide +kernel
theorem dX2_foretell_7 : decode cX2_foretell 7 = .ok (.iconst 0, 1) := by decide +kernel
theorem dX2_foretell_8 : decode cX2_foretell 8 = .ok (.aload_n 0, 1) := by decide +kernel
theorem dX2_foretell_9 : decode cX2_foretell 9 = .ok (.getfield 9, 3) := by decide +kernel
theorem dX2_foretell_12 : decode cX2_foretell 12 = .ok (.iconst 0, 1) := by decide +kernel
theorem dX2_foretell_13 : decode cX2_foretell 13 = .ok (.sipush 133, 3) := by decide +kernel
theorem dX2_foretell_16 : decode cX2_foretell 16 = .ok (.invokestatic 135, 3) := by decide +kernel
theorem dX2_foretell_19 : decode cX2_foretell 19 = .ok (.aload_n 0, 1) := by decide +kernel
theorem dX2_foretell_20 : decode cX2_foretell 20 = .ok (.iload_n 1, 1) := by decide +kernel
theorem dX2_foretell_21 : decode cX2_foretell 21 = .ok (.invokevirtual 126, 3) := by decide +kernel
theorem dX2_foretell_24 : decode cX2_foretell 24 = .ok (.istore_n 3, 1) := by decide +kernel
theorem dX2_foretell_25 : decode cX2_foretell 25 = .ok (.iconst 0, 1) := by decide +kernel
theorem dX2_foretell_26 : decode cX2_foretell 26 = .ok (.istore 4, 2) := by decide +kernel
theorem dX2_foretell_28 : decode cX2_foretell 28 = .ok (.iconst 0, 1) := by decide +kernel
theorem dX2_foretell_29 : decode cX2_foretell 29 = .ok (.istore 5, 2) := by decide +kernel
theorem dX2_foretell_31 : decode cX2_foretell 31 = .ok (.aload_n 0, 1) := by decide +kernel
theorem dX2_foretell_32 : decode cX2_foretell 32 = .ok (.iconst 0, 1) := by decide +kernel
theorem dX2_foretell_33 : decode cX2_foretell 33 = .ok (.putfield 52, 3) := by decide +kernel
theorem dX2_foretell_36 : decode cX2_foretell 36 = .ok (.iconst 0, 1) := by decide +kernel
theorem dX2_foretell_37 : decode cX2_foretell 37 = .ok (.istore 6, 2) := by decide +kernel
theorem dX2_foretell_39 : decode cX2_foretell 39 = .ok (.iload 6, 2) := by decide +kernel
theorem dX2_foretell_41 : decode cX2_foretell 41 = .ok (.iload_n 3, 1) := by decide +kernel
theorem dX2_foretell_42 : decode cX2_foretell 42 = .ok (.if_icmp .ge 27, 3) := by decide +kernel
theorem dX2_foretell_45 : decode cX2_foretell 45 = .ok (.iload 4, 2) := by decide +kernel
theorem dX2_foretell_47 : decode cX2_foretell 47 = .ok (.aload_n 0, 1) := by decide +kernel
theorem dX2_foretell_48 : decode cX2_foretell 48 = .ok (.invokevirtual 43, 3) := by decide +kernel
theorem dX2_foretell_51 : decode cX2_foretell 51 = .ok (.iadd, 1) := by decide +kernel
theorem dX2_foretell_52 : decode cX2_foretell 52 = .ok (.istore 4, 2) := by decide +kernel
theorem dX2_foretell_54 : decode cX2_foretell 54 = .ok (.iload 5, 2) := by decide +kernel
theorem dX2_foretell_56 : decode cX2_foretell 56 = .ok (.aload_n 0, 1) := by decide +kernel
theorem dX2_foretell_57 : decode cX2_foretell 57 = .ok (.getfield 56, 3) := by decide +kernel
theorem dX2_foretell_60 : decode cX2_foretell 60 = .ok (.iadd, 1) := by decide +kernel
theorem dX2_foretell_61 : decode cX2_foretell 61 = .ok (.istore 5, 2) := by decide +kernel
theorem dX2_foretell_63 : decode cX2_foretell 63 = .ok (.iinc 6 1, 3) := by decide +kernel
theorem dX2_foretell_66 : decode cX2_foretell 66 = .ok (.goto (-27), 3) := by decide +kernel
theorem dX2_foretell_69 : decode cX2_foretell 69 = .ok (.aload_n 0, 1) := by decide +kernel
theorem dX2_foretell_70 : decode cX2_foretell 70 = .ok (.getfield 9, 3) := by decide +kernel
theorem dX2_foretell_73 : decode cX2_foretell 73 = .ok (.iconst 0, 1) := by decide +kernel
theorem dX2_foretell_74 : decode cX2_foretell 74 = .ok (.aload_n 0, 1) := by decide +kernel
theorem dX2_foretell_75 : decode cX2_foretell 75 = .ok (.getfield 15, 3) := by decide +kernel
theorem dX2_foretell_78 : decode cX2_foretell 78 = .ok (.getfield 23, 3) := by decide +kernel
theorem dX2_foretell_81 : decode cX2_foretell 81 = .ok (.iconst 0, 1) := by decide +kernel
theorem dX2_foretell_82 : decode cX2_foretell 82 = .ok (.sipush 133, 3) := by decide +kernel
theorem dX2_foretell_85 : decode cX2_foretell 85 = .ok (.invokestatic 135, 3) := by decide +kernel
theorem dX2_foretell_88 : decode cX2_foretell 88 = .ok (.iload_n 2, 1) := by decide +kernel
theorem dX2_foretell_89 : decode cX2_foretell 89 = .ok (.ifCond .ne 6, 3) := by decide +kernel
theorem dX2_foretell_92 : decode cX2_foretell 92 = .ok (.iload 4, 2) := by decide +kernel
theorem dX2_foretell_94 : decode cX2_foretell 94 = .ok (.ireturn, 1) := by decide +kernel
theorem dX2_foretell_95 : decode cX2_foretell 95 = .ok (.iload_n 2, 1) := by decide +kernel
theorem dX2_foretell_96 : decode cX2_foretell 96 = .ok (.iconst 1, 1) := by decide +kernel
theorem dX2_foretell_97 : decode cX2_foretell 97 = .ok (.if_icmp .ne 10, 3) := by decide +kernel
theorem dX2_foretell_100 : decode cX2_foretell 100 = .ok (.aload_n 0, 1) := by decide +kernel
theorem dX2_foretell_101 : decode cX2_foretell 101 = .ok (.getfield 52, 3) := by decide +kernel
theorem dX2_foretell_104 : decode cX2_foretell 104 = .ok (.goto 5, 3) := by decide +kernel
theorem dX2_foretell_107 : decode cX2_foretell 107 = .ok (.iload 5, 2) := by decide +kernel
theorem dX2_foretell_109 : decode cX2_foretell 109 = .ok (.ireturn, 1) := by decide +kernel
section
variable {p : Program} {l : Launch} {e : Env} {R : Room} {s : State} {m : MethodId} {args : Array Value} {below : List Frame} {meth : Method} {c : Code} {Q : State → Prop} {V : g_V} {nf nl : Nat}
set_option maxRecDepth 100000 in
set_option maxHeartbeats 4000000 in
theorem b_X2_canSeat (C : g_CX xG V p R s m args meth c cX2_canSeat 3 (some .boolean) RX2 0 0) {res : Int} {M : g_M} (hR : g_RetI xG V p l e R s m args below meth c Q cX2_canSeat .boolean res M) {a1 : Int} {a2 : Int} {H : Heap} {locs : List Loc} {ls : Array Slot} (h : m_X2_canSeat a1 a2 M = some res) (hp : g_PT xG V M s H locs) (hl : lv_has ls 3 [(0, .ref (V.2.2 65)), (1, .int (gI a1)), (2, .int (gI a2))]) : W p l e R s m args below meth c H locs 0 0 Q (F0 m 0 ls []) := by
  unfold m_X2_canSeat at h
  refine lv_aload_n C.1 C.2.1 dX2_canSeat_0 rfl (lv_at hl 0 rfl) ?_
  refine r_getr (t := 1) C hp xk_65 xs_65 xc_2 xin_2 (j := 0) (by decide) rfl gw_346 rfl dX2_canSeat_1 ?_
  refine r_getr (t := 2) C hp xk_1 xs_1 xc_1 xin_1 (j := 0) (by decide) rfl gw_145 rfl dX2_canSeat_4 ?_
  refine r_iconst C dX2_canSeat_7 ?_
  refine lv_iload_n C.1 C.2.1 dX2_canSeat_8 rfl (lv_at hl 1 rfl) ?_
  refine r_iadd C dX2_canSeat_9 ?_
  refine r_iald C hp h xk_2 xs_2 dX2_canSeat_10 (fun h => ?_)
  refine lv_iload_n C.1 C.2.1 dX2_canSeat_11 rfl (lv_at hl 2 rfl) ?_
  refine r_icmp_eq (tgt := 19) C h dX2_canSeat_12 (by decide) (fun h => ?_) (fun h => ?_)
  · refine r_iconst C dX2_canSeat_19 ?_
    cases h
    exact hR _ _ _ _ dX2_canSeat_20 g_nz0 hp
  · refine r_iconst C dX2_canSeat_15 ?_
    refine r_goto (tgt := 20) C dX2_canSeat_16 (by decide) ?_
    cases h
    exact hR _ _ _ _ dX2_canSeat_20 g_nz1 hp
theorem c_X2_canSeat (l : Launch) {V : g_V} (hok : g_ok xG V) {a1 : Int} {a2 : Int} {M : g_M} {x : Int} (h : m_X2_canSeat a1 a2 M = some x) : MetI xG V l yX2_canSeat cX2_canSeat 3 (some .boolean) 0 0 [.ref (V.2.2 65), .int (gI a1), .int (gI a2)] M x M :=
  g_metI hok cal_X2_canSeat.2.2.2 rfl (Nat.le_of_ble_eq_true rfl) (@fun p e R s m args below meth c Q ls C hR hp hl => b_X2_canSeat C hR h hp hl)
set_option maxRecDepth 100000 in
set_option maxHeartbeats 4000000 in
theorem b_X2_canCall (C : g_CX xG V p R s m args meth c cX2_canCall 3 (some .boolean) RX2 3 64) {res : Int} {M : g_M} (hR : g_RetI xG V p l e R s m args below meth c Q cX2_canCall .boolean res M) {a1 : Int} {a2 : Int} {H : Heap} {locs : List Loc} {ls : Array Slot} (h : m_X2_canCall a1 a2 M = some res) (hp : g_PT xG V M s H locs) (hl : lv_has ls 3 [(0, .ref (V.2.2 65)), (1, .int (gI a1)), (2, .int (gI a2))]) : W p l e R s m args below meth c H locs 0 0 Q (F0 m 0 ls []) := by
  unfold m_X2_canCall at h
  refine lv_aload_n C.1 C.2.1 dX2_canCall_0 rfl (lv_at hl 0 rfl) ?_
  refine r_getr (t := 1) C hp xk_65 xs_65 xc_2 xin_2 (j := 0) (by decide) rfl gw_346 rfl dX2_canCall_1 ?_
  refine r_getr (t := 2) C hp xk_1 xs_1 xc_1 xin_1 (j := 0) (by decide) rfl gw_145 rfl dX2_canCall_4 ?_
  refine r_bipush C dX2_canCall_7 (by decide +kernel) ?_
  refine lv_iload_n C.1 C.2.1 dX2_canCall_9 rfl (lv_at hl 1 rfl) ?_
  refine r_iadd C dX2_canCall_10 ?_
  refine r_iald C hp h xk_2 xs_2 dX2_canCall_11 (fun h => ?_)
  refine lv_aload_n C.1 C.2.1 dX2_canCall_12 rfl (lv_at hl 0 rfl) ?_
  refine r_getr (t := 1) C hp xk_65 xs_65 xc_2 xin_2 (j := 0) (by decide) rfl gw_346 rfl dX2_canCall_13 ?_
  refine lv_iload_n C.1 C.2.1 dX2_canCall_16 rfl (lv_at hl 1 rfl) ?_
  refine lv_iload_n C.1 C.2.1 dX2_canCall_17 rfl (lv_at hl 2 rfl) ?_
  obtain ⟨x11, hr, h⟩ := bd_of h
  refine r_callVI (As := [.int (gI a1), .int (gI a2)]) (rest := [.int (gI (M 2 (gs (16 + a1)).toNat))]) C hl.1 hp (c_X1_after l C.2.2.2.2.2.2.2.2.2.2.2 hr) gw_789 gw_790 gw_791 xk_1 xs_1 xc_1 cal_X1_after rfl rfl (Nat.le_of_ble_eq_true rfl) ⟨Nat.le_of_ble_eq_true rfl, Nat.le_of_ble_eq_true rfl⟩ dX2_canCall_18 (fun H locs hp => ?_)
  refine r_icmp_eq (tgt := 28) C h dX2_canCall_21 (by decide) (fun h => ?_) (fun h => ?_)
  · refine r_iconst C dX2_canCall_28 ?_
    cases h
    exact hR _ _ _ _ dX2_canCall_29 g_nz0 hp
  · refine r_iconst C dX2_canCall_24 ?_
    refine r_goto (tgt := 29) C dX2_canCall_25 (by decide) ?_
    cases h
    exact hR _ _ _ _ dX2_canCall_29 g_nz1 hp
theorem c_X2_canCall (l : Launch) {V : g_V} (hok : g_ok xG V) {a1 : Int} {a2 : Int} {M : g_M} {x : Int} (h : m_X2_canCall a1 a2 M = some x) : MetI xG V l yX2_canCall cX2_canCall 3 (some .boolean) 3 64 [.ref (V.2.2 65), .int (gI a1), .int (gI a2)] M x M :=
  g_metI hok cal_X2_canCall.2.2.2 rfl (Nat.le_of_ble_eq_true rfl) (@fun p e R s m args below meth c Q ls C hR hp hl => b_X2_canCall C hR h hp hl)
set_option maxRecDepth 100000 in
set_option maxHeartbeats 4000000 in
theorem b_X2_canMend (C : g_CX xG V p R s m args meth c cX2_canMend 2 (some .boolean) RX2 0 0) {res : Int} {M : g_M} (hR : g_RetI xG V p l e R s m args below meth c Q cX2_canMend .boolean res M) {a1 : Int} {H : Heap} {locs : List Loc} {ls : Array Slot} (h : m_X2_canMend a1 M = some res) (hp : g_PT xG V M s H locs) (hl : lv_has ls 2 [(0, .ref (V.2.2 65)), (1, .int (gI a1))]) : W p l e R s m args below meth c H locs 0 0 Q (F0 m 0 ls []) := by
  unfold m_X2_canMend at h
  refine lv_aload_n C.1 C.2.1 dX2_canMend_0 rfl (lv_at hl 0 rfl) ?_
  refine r_getr (t := 1) C hp xk_65 xs_65 xc_2 xin_2 (j := 0) (by decide) rfl gw_346 rfl dX2_canMend_1 ?_
  refine r_getr (t := 2) C hp xk_1 xs_1 xc_1 xin_1 (j := 0) (by decide) rfl gw_145 rfl dX2_canMend_4 ?_
  refine r_bipush C dX2_canMend_7 (by decide +kernel) ?_
  refine lv_iload_n C.1 C.2.1 dX2_canMend_9 rfl (lv_at hl 1 rfl) ?_
  refine r_iadd C dX2_canMend_10 ?_
  refine r_iald C hp h xk_2 xs_2 dX2_canMend_11 (fun h => ?_)
  refine lv_aload_n C.1 C.2.1 dX2_canMend_12 rfl (lv_at hl 0 rfl) ?_
  refine r_getr (t := 1) C hp xk_65 xs_65 xc_2 xin_2 (j := 0) (by decide) rfl gw_346 rfl dX2_canMend_13 ?_
  refine r_getr (t := 4) C hp xk_1 xs_1 xc_1 xin_1 (j := 4) (by decide) rfl gw_153 rfl dX2_canMend_16 ?_
  refine lv_iload_n C.1 C.2.1 dX2_canMend_19 rfl (lv_at hl 1 rfl) ?_
  refine r_iconst C dX2_canMend_20 ?_
  refine r_imul C dX2_canMend_21 ?_
  refine r_iald C hp h xk_4 xs_4 dX2_canMend_22 (fun h => ?_)
  refine r_icmp_eq (tgt := 30) C h dX2_canMend_23 (by decide) (fun h => ?_) (fun h => ?_)
  · refine r_iconst C dX2_canMend_30 ?_
    cases h
    exact hR _ _ _ _ dX2_canMend_31 g_nz0 hp
  · refine r_iconst C dX2_canMend_26 ?_
    refine r_goto (tgt := 31) C dX2_canMend_27 (by decide) ?_
    cases h
    exact hR _ _ _ _ dX2_canMend_31 g_nz1 hp
theorem c_X2_canMend (l : Launch) {V : g_V} (hok : g_ok xG V) {a1 : Int} {M : g_M} {x : Int} (h : m_X2_canMend a1 M = some x) : MetI xG V l yX2_canMend cX2_canMend 2 (some .boolean) 0 0 [.ref (V.2.2 65), .int (gI a1)] M x M :=
  g_metI hok cal_X2_canMend.2.2.2 rfl (Nat.le_of_ble_eq_true rfl) (@fun p e R s m args below meth c Q ls C hR hp hl => b_X2_canMend C hR h hp hl)
set_option maxRecDepth 100000 in
set_option maxHeartbeats 4000000 in
theorem b_X2_seatStep (C : g_CX xG V p R s m args meth c cX2_seatStep 3 (some .boolean) RX2 2 61) {res : Int × g_M} (hR : g_RetI xG V p l e R s m args below meth c Q cX2_seatStep .boolean res.1 res.2) {a1 : Int} {a2 : Int} {M : g_M} {H : Heap} {locs : List Loc} {ls : Array Slot} (h : m_X2_seatStep a1 a2 M = some res) (hp : g_PT xG V M s H locs) (hl : lv_has ls 3 [(0, .ref (V.2.2 65)), (1, .int (gI a1)), (2, .int (gI a2))]) : W p l e R s m args below meth c H locs 0 0 Q (F0 m 0 ls []) := by
  unfold m_X2_seatStep at h
  refine lv_aload_n C.1 C.2.1 dX2_seatStep_0 rfl (lv_at hl 0 rfl) ?_
  refine r_getr (t := 1) C hp xk_65 xs_65 xc_2 xin_2 (j := 0) (by decide) rfl gw_346 rfl dX2_seatStep_1 ?_
  obtain ⟨M11, hr, h⟩ := bd_of h
  refine r_callVV (As := []) (rest := []) C hl.1 hp (c_X1_keepStep l C.2.2.2.2.2.2.2.2.2.2.2 hr) gw_776 gw_777 gw_778 xk_1 xs_1 xc_1 cal_X1_keepStep rfl rfl (Nat.le_of_ble_eq_true rfl) ⟨Nat.le_of_ble_eq_true rfl, Nat.le_of_ble_eq_true rfl⟩ dX2_seatStep_4 (fun H locs hp => ?_)
  refine lv_aload_n C.1 C.2.1 dX2_seatStep_7 rfl (lv_at hl 0 rfl) ?_
  refine r_getr (t := 1) C hp xk_65 xs_65 xc_2 xin_2 (j := 0) (by decide) rfl gw_346 rfl dX2_seatStep_8 ?_
  refine r_getr (t := 2) C hp xk_1 xs_1 xc_1 xin_1 (j := 0) (by decide) rfl gw_145 rfl dX2_seatStep_11 ?_
  refine r_iconst C dX2_seatStep_14 ?_
  refine lv_iload_n C.1 C.2.1 dX2_seatStep_15 rfl (lv_at hl 1 rfl) ?_
  refine r_iadd C dX2_seatStep_16 ?_
  refine lv_iload_n C.1 C.2.1 dX2_seatStep_17 rfl (lv_at hl 2 rfl) ?_
  refine r_iast C hp h xk_2 xs_2 dX2_seatStep_18 (fun M12 H locs h hp => ?_)
  refine r_iconst C dX2_seatStep_19 ?_
  cases h
  exact hR _ _ _ _ dX2_seatStep_20 g_nz1 hp
theorem c_X2_seatStep (l : Launch) {V : g_V} (hok : g_ok xG V) {a1 : Int} {a2 : Int} {M : g_M} {x : Int} {M2 : g_M} (h : m_X2_seatStep a1 a2 M = some (x, M2)) : MetI xG V l yX2_seatStep cX2_seatStep 3 (some .boolean) 2 61 [.ref (V.2.2 65), .int (gI a1), .int (gI a2)] M x M2 :=
  g_metI hok cal_X2_seatStep.2.2.2 rfl (Nat.le_of_ble_eq_true rfl) (@fun p e R s m args below meth c Q ls C hR hp hl => b_X2_seatStep C hR h hp hl)
set_option maxRecDepth 100000 in
set_option maxHeartbeats 4000000 in
theorem b_X2_callStep (C : g_CX xG V p R s m args meth c cX2_callStep 3 (some .boolean) RX2 3 64) {res : Int × g_M} (hR : g_RetI xG V p l e R s m args below meth c Q cX2_callStep .boolean res.1 res.2) {a1 : Int} {a2 : Int} {M : g_M} {H : Heap} {locs : List Loc} {ls : Array Slot} (h : m_X2_callStep a1 a2 M = some res) (hp : g_PT xG V M s H locs) (hl : lv_has ls 3 [(0, .ref (V.2.2 65)), (1, .int (gI a1)), (2, .int (gI a2))]) : W p l e R s m args below meth c H locs 0 0 Q (F0 m 0 ls []) := by
  unfold m_X2_callStep at h
  refine lv_aload_n C.1 C.2.1 dX2_callStep_0 rfl (lv_at hl 0 rfl) ?_
  refine r_getr (t := 1) C hp xk_65 xs_65 xc_2 xin_2 (j := 0) (by decide) rfl gw_346 rfl dX2_callStep_1 ?_
  obtain ⟨M11, hr, h⟩ := bd_of h
  refine r_callVV (As := []) (rest := []) C hl.1 hp (c_X1_keepStep l C.2.2.2.2.2.2.2.2.2.2.2 hr) gw_776 gw_777 gw_778 xk_1 xs_1 xc_1 cal_X1_keepStep rfl rfl (Nat.le_of_ble_eq_true rfl) ⟨Nat.le_of_ble_eq_true rfl, Nat.le_of_ble_eq_true rfl⟩ dX2_callStep_4 (fun H locs hp => ?_)
  refine lv_aload_n C.1 C.2.1 dX2_callStep_7 rfl (lv_at hl 0 rfl) ?_
  refine r_getr (t := 1) C hp xk_65 xs_65 xc_2 xin_2 (j := 0) (by decide) rfl gw_346 rfl dX2_callStep_8 ?_
  refine r_getr (t := 2) C hp xk_1 xs_1 xc_1 xin_1 (j := 0) (by decide) rfl gw_145 rfl dX2_callStep_11 ?_
  refine r_bipush C dX2_callStep_14 (by decide +kernel) ?_
  refine lv_iload_n C.1 C.2.1 dX2_callStep_16 rfl (lv_at hl 1 rfl) ?_
  refine r_iadd C dX2_callStep_17 ?_
  refine lv_aload_n C.1 C.2.1 dX2_callStep_18 rfl (lv_at hl 0 rfl) ?_
  refine r_getr (t := 1) C hp xk_65 xs_65 xc_2 xin_2 (j := 0) (by decide) rfl gw_346 rfl dX2_callStep_19 ?_
  refine lv_iload_n C.1 C.2.1 dX2_callStep_22 rfl (lv_at hl 1 rfl) ?_
  refine lv_iload_n C.1 C.2.1 dX2_callStep_23 rfl (lv_at hl 2 rfl) ?_
  obtain ⟨x12, hr, h⟩ := bd_of h
  refine r_callVI (As := [.int (gI a1), .int (gI a2)]) (rest := [.int (gI (16 + a1)), .ref (V.2.2 2)]) C hl.1 hp (c_X1_after l C.2.2.2.2.2.2.2.2.2.2.2 hr) gw_789 gw_790 gw_791 xk_1 xs_1 xc_1 cal_X1_after rfl rfl (Nat.le_of_ble_eq_true rfl) ⟨Nat.le_of_ble_eq_true rfl, Nat.le_of_ble_eq_true rfl⟩ dX2_callStep_24 (fun H locs hp => ?_)
  refine r_iast C hp h xk_2 xs_2 dX2_callStep_27 (fun M13 H locs h hp => ?_)
  refine r_iconst C dX2_callStep_28 ?_
  cases h
  exact hR _ _ _ _ dX2_callStep_29 g_nz1 hp
theorem c_X2_callStep (l : Launch) {V : g_V} (hok : g_ok xG V) {a1 : Int} {a2 : Int} {M : g_M} {x : Int} {M2 : g_M} (h : m_X2_callStep a1 a2 M = some (x, M2)) : MetI xG V l yX2_callStep cX2_callStep 3 (some .boolean) 3 64 [.ref (V.2.2 65), .int (gI a1), .int (gI a2)] M x M2 :=
  g_metI hok cal_X2_callStep.2.2.2 rfl (Nat.le_of_ble_eq_true rfl) (@fun p e R s m args below meth c Q ls C hR hp hl => b_X2_callStep C hR h hp hl)
set_option maxRecDepth 100000 in
set_option maxHeartbeats 4000000 in
theorem b_X2_mendStep (C : g_CX xG V p R s m args meth c cX2_mendStep 2 (some .boolean) RX2 2 61) {res : Int × g_M} (hR : g_RetI xG V p l e R s m args below meth c Q cX2_mendStep .boolean res.1 res.2) {a1 : Int} {M : g_M} {H : Heap} {locs : List Loc} {ls : Array Slot} (h : m_X2_mendStep a1 M = some res) (hp : g_PT xG V M s H locs) (hl : lv_has ls 2 [(0, .ref (V.2.2 65)), (1, .int (gI a1))]) : W p l e R s m args below meth c H locs 0 0 Q (F0 m 0 ls []) := by
  unfold m_X2_mendStep at h
  refine lv_aload_n C.1 C.2.1 dX2_mendStep_0 rfl (lv_at hl 0 rfl) ?_
  refine r_getr (t := 1) C hp xk_65 xs_65 xc_2 xin_2 (j := 0) (by decide) rfl gw_346 rfl dX2_mendStep_1 ?_
  obtain ⟨M11, hr, h⟩ := bd_of h
  refine r_callVV (As := []) (rest := []) C hl.1 hp (c_X1_keepStep l C.2.2.2.2.2.2.2.2.2.2.2 hr) gw_776 gw_777 gw_778 xk_1 xs_1 xc_1 cal_X1_keepStep rfl rfl (Nat.le_of_ble_eq_true rfl) ⟨Nat.le_of_ble_eq_true rfl, Nat.le_of_ble_eq_true rfl⟩ dX2_mendStep_4 (fun H locs hp => ?_)
  refine lv_aload_n C.1 C.2.1 dX2_mendStep_7 rfl (lv_at hl 0 rfl) ?_
  refine r_getr (t := 1) C hp xk_65 xs_65 xc_2 xin_2 (j := 0) (by decide) rfl gw_346 rfl dX2_mendStep_8 ?_
  refine r_getr (t := 2) C hp xk_1 xs_1 xc_1 xin_1 (j := 0) (by decide) rfl gw_145 rfl dX2_mendStep_11 ?_
  refine r_bipush C dX2_mendStep_14 (by decide +kernel) ?_
  refine lv_iload_n C.1 C.2.1 dX2_mendStep_16 rfl (lv_at hl 1 rfl) ?_
  refine r_iadd C dX2_mendStep_17 ?_
  refine lv_aload_n C.1 C.2.1 dX2_mendStep_18 rfl (lv_at hl 0 rfl) ?_
  refine r_getr (t := 1) C hp xk_65 xs_65 xc_2 xin_2 (j := 0) (by decide) rfl gw_346 rfl dX2_mendStep_19 ?_
  refine r_getr (t := 4) C hp xk_1 xs_1 xc_1 xin_1 (j := 4) (by decide) rfl gw_153 rfl dX2_mendStep_22 ?_
  refine lv_iload_n C.1 C.2.1 dX2_mendStep_25 rfl (lv_at hl 1 rfl) ?_
  refine r_iconst C dX2_mendStep_26 ?_
  refine r_imul C dX2_mendStep_27 ?_
  refine r_iald C hp h xk_4 xs_4 dX2_mendStep_28 (fun h => ?_)
  refine r_iast C hp h xk_2 xs_2 dX2_mendStep_29 (fun M12 H locs h hp => ?_)
  refine r_iconst C dX2_mendStep_30 ?_
  cases h
  exact hR _ _ _ _ dX2_mendStep_31 g_nz1 hp
theorem c_X2_mendStep (l : Launch) {V : g_V} (hok : g_ok xG V) {a1 : Int} {M : g_M} {x : Int} {M2 : g_M} (h : m_X2_mendStep a1 M = some (x, M2)) : MetI xG V l yX2_mendStep cX2_mendStep 2 (some .boolean) 2 61 [.ref (V.2.2 65), .int (gI a1)] M x M2 :=
  g_metI hok cal_X2_mendStep.2.2.2 rfl (Nat.le_of_ble_eq_true rfl) (@fun p e R s m args below meth c Q ls C hR hp hl => b_X2_mendStep C hR h hp hl)
set_option maxRecDepth 100000 in
set_option maxHeartbeats 4000000 in
theorem b_X2_possible (C : g_CX xG V p R s m args meth c cX2_possible 2 (some .int) RX2 1 13) {res : Int} {M : g_M} (hR : g_RetI xG V p l e R s m args below meth c Q cX2_possible .int res M) {a1 : Int} {H : Heap} {locs : List Loc} {ls : Array Slot} (h : m_X2_possible a1 M = some res) (hp : g_PT xG V M s H locs) (hl : lv_has ls 2 [(0, .ref (V.2.2 65)), (1, .int (gI a1))]) : W p l e R s m args below meth c H locs 0 0 Q (F0 m 0 ls []) := by
  unfold m_X2_possible at h
  refine lv_iload_n C.1 C.2.1 dX2_possible_0 rfl (lv_at hl 1 rfl) ?_
  refine r_sipush C dX2_possible_1 (by decide +kernel) ?_
  refine lv_aload_n C.1 C.2.1 dX2_possible_4 rfl (lv_at hl 0 rfl) ?_
  refine r_getr (t := 1) C hp xk_65 xs_65 xc_2 xin_2 (j := 0) (by decide) rfl gw_346 rfl dX2_possible_5 ?_
  refine r_getr (t := 2) C hp xk_1 xs_1 xc_1 xin_1 (j := 0) (by decide) rfl gw_145 rfl dX2_possible_8 ?_
  refine r_bipush C dX2_possible_11 (by decide +kernel) ?_
  refine r_iald C hp h xk_2 xs_2 dX2_possible_13 (fun h => ?_)
  refine r_isub C dX2_possible_14 ?_
  refine r_mmin C hl.1 gw_819 gw_587 gw_126 gw_588 (Nat.le_of_ble_eq_true rfl) (Nat.le_of_ble_eq_true rfl) dX2_possible_15 ?_
  cases h
  exact hR _ _ _ _ dX2_possible_18 rfl hp
theorem c_X2_possible (l : Launch) {V : g_V} (hok : g_ok xG V) {a1 : Int} {M : g_M} {x : Int} (h : m_X2_possible a1 M = some x) : MetI xG V l yX2_possible cX2_possible 2 (some .int) 1 13 [.ref (V.2.2 65), .int (gI a1)] M x M :=
  g_metI hok cal_X2_possible.2.2.2 rfl (Nat.le_of_ble_eq_true rfl) (@fun p e R s m args below meth c Q ls C hR hp hl => b_X2_possible C hR h hp hl)
set_option maxRecDepth 100000 in
set_option maxHeartbeats 4000000 in
theorem b_X2_drawAnew (C : g_CX xG V p R s m args meth c cX2_drawAnew 1 none RX2 0 0) {res : g_M} (hR : g_RetV xG V p l e R s m args below meth c Q cX2_drawAnew res)  {M : g_M} {H : Heap} {locs : List Loc} {ls : Array Slot} (h : m_X2_drawAnew M = some res) (hp : g_PT xG V M s H locs) (hl : lv_has ls 1 [(0, .ref (V.2.2 65))]) : W p l e R s m args below meth c H locs 0 0 Q (F0 m 0 ls []) := by
  unfold m_X2_drawAnew at h
  refine lv_aload_n C.1 C.2.1 dX2_drawAnew_0 rfl (lv_at hl 0 rfl) ?_
  refine r_getr (t := 1) C hp xk_65 xs_65 xc_2 xin_2 (j := 0) (by decide) rfl gw_346 rfl dX2_drawAnew_1 ?_
  refine r_getr (t := 2) C hp xk_1 xs_1 xc_1 xin_1 (j := 0) (by decide) rfl gw_145 rfl dX2_drawAnew_4 ?_
  refine r_bipush C dX2_drawAnew_7 (by decide +kernel) ?_
  refine lv_aload_n C.1 C.2.1 dX2_drawAnew_9 rfl (lv_at hl 0 rfl) ?_
  refine r_getr (t := 1) C hp xk_65 xs_65 xc_2 xin_2 (j := 0) (by decide) rfl gw_346 rfl dX2_drawAnew_10 ?_
  refine r_getr (t := 2) C hp xk_1 xs_1 xc_1 xin_1 (j := 0) (by decide) rfl gw_145 rfl dX2_drawAnew_13 ?_
  refine r_bipush C dX2_drawAnew_16 (by decide +kernel) ?_
  refine r_iald C hp h xk_2 xs_2 dX2_drawAnew_18 (fun h => ?_)
  refine r_sipush C dX2_drawAnew_19 (by decide +kernel) ?_
  refine r_imul C dX2_drawAnew_22 ?_
  refine r_sipush C dX2_drawAnew_23 (by decide +kernel) ?_
  refine r_iadd C dX2_drawAnew_26 ?_
  refine r_sipush C dX2_drawAnew_27 (by decide +kernel) ?_
  refine r_irem C h dX2_drawAnew_30 (fun h => ?_)
  refine r_iast C hp h xk_2 xs_2 dX2_drawAnew_31 (fun M11 H locs h hp => ?_)
  cases h
  exact hR _ _ _ _ dX2_drawAnew_32 hp
theorem c_X2_drawAnew (l : Launch) {V : g_V} (hok : g_ok xG V)  {M : g_M} {res : g_M} (h : m_X2_drawAnew M = some res) : MetV xG V l yX2_drawAnew cX2_drawAnew 1 none 0 0 [.ref (V.2.2 65)] M res :=
  g_metV hok cal_X2_drawAnew.2.2.2 rfl (Nat.le_of_ble_eq_true rfl) (@fun p e R s m args below meth c Q ls C hR hp hl => b_X2_drawAnew C hR h hp hl)
set_option maxRecDepth 100000 in
set_option maxHeartbeats 4000000 in
theorem b_X2_showScene (C : g_CX xG V p R s m args meth c cX2_showScene 7 (some .int) RX2 3 78) {res : Int × g_M} (hR : g_RetI xG V p l e R s m args below meth c Q cX2_showScene .int res.1 res.2) {a1 : Int} {M : g_M} {H : Heap} {locs : List Loc} {ls : Array Slot} (h : m_X2_showScene a1 M = some res) (hp : g_PT xG V M s H locs) (hl : lv_has ls 7 [(0, .ref (V.2.2 65)), (1, .int (gI a1))]) : W p l e R s m args below meth c H locs 0 0 Q (F0 m 0 ls []) := by
  unfold m_X2_showScene at h
  refine lv_aload_n C.1 C.2.1 dX2_showScene_0 rfl (lv_at hl 0 rfl) ?_
  refine r_getr (t := 1) C hp xk_65 xs_65 xc_2 xin_2 (j := 0) (by decide) rfl gw_346 rfl dX2_showScene_1 ?_
  refine r_getr (t := 2) C hp xk_1 xs_1 xc_1 xin_1 (j := 0) (by decide) rfl gw_145 rfl dX2_showScene_4 ?_
  refine lv_astore_n (lv' := [(2, .ref (V.2.2 2)), (0, .ref (V.2.2 65)), (1, .int (gI a1))]) C.1 C.2.1 dX2_showScene_7 rfl hl (by decide) rfl (fun ls hl => ?_)
  refine lv_aload_n C.1 C.2.1 dX2_showScene_8 rfl (lv_at hl 0 rfl) ?_
  refine r_bipush C dX2_showScene_9 (by decide +kernel) ?_
  refine lv_iload_n C.1 C.2.1 dX2_showScene_11 rfl (lv_at hl 2 rfl) ?_
  refine r_iadd C dX2_showScene_12 ?_
  refine r_iald C hp h xk_2 xs_2 dX2_showScene_13 (fun h => ?_)
  refine r_istore_n (lv' := fun x11 => [(3, .int (gI x11)), (2, .ref (V.2.2 2)), (0, .ref (V.2.2 65)), (1, .int (gI a1))]) C h dX2_showScene_14 rfl hl (by decide) (fun _ => rfl) (fun x11 ls h hl => ?_)
  refine lv_aload_n C.1 C.2.1 dX2_showScene_15 rfl (lv_at hl 1 rfl) ?_
  refine r_bipush C dX2_showScene_16 (by decide +kernel) ?_
  refine lv_iload_n C.1 C.2.1 dX2_showScene_18 rfl (lv_at hl 3 rfl) ?_
  refine r_iadd C dX2_showScene_19 ?_
  refine r_sipush C dX2_showScene_20 (by decide +kernel) ?_
  refine lv_iload_n C.1 C.2.1 dX2_showScene_23 rfl (lv_at hl 0 rfl) ?_
  refine r_iconst C dX2_showScene_24 ?_
  refine r_iadd C dX2_showScene_25 ?_
  refine r_mmin C hl.1 gw_819 gw_587 gw_126 gw_588 (Nat.le_of_ble_eq_true rfl) (Nat.le_of_ble_eq_true rfl) dX2_showScene_26 ?_
  refine r_iast C hp h xk_2 xs_2 dX2_showScene_29 (fun M12 H locs h hp => ?_)
  refine lv_aload_n C.1 C.2.1 dX2_showScene_30 rfl (lv_at hl 1 rfl) ?_
  refine r_bipush C dX2_showScene_31 (by decide +kernel) ?_
  refine r_iald C hp h xk_2 xs_2 dX2_showScene_33 (fun h => ?_)
  refine r_bipush C dX2_showScene_34 (by decide +kernel) ?_
  refine r_irem C h dX2_showScene_36 (fun h => ?_)
  refine r_istore (lv' := fun x13 => [(4, .int (gI x13)), (3, .int (gI x11)), (2, .ref (V.2.2 2)), (0, .ref (V.2.2 65)), (1, .int (gI a1))]) C h dX2_showScene_37 hl (by decide) (fun _ => rfl) (fun x13 ls h hl => ?_)
  refine lv_aload_n C.1 C.2.1 dX2_showScene_39 rfl (lv_at hl 3 rfl) ?_
  obtain ⟨M14, hr, h⟩ := bd_of h
  refine r_callVV (As := []) (rest := []) C hl.1 hp (c_X2_drawAnew l C.2.2.2.2.2.2.2.2.2.2.2 hr) gw_855 gw_857 gw_22 xk_65 xs_65 xc_2 cal_X2_drawAnew rfl rfl (Nat.le_of_ble_eq_true rfl) ⟨Nat.le_of_ble_eq_true rfl, Nat.le_of_ble_eq_true rfl⟩ dX2_showScene_40 (fun H locs hp => ?_)
  refine lv_aload_n C.1 C.2.1 dX2_showScene_43 rfl (lv_at hl 3 rfl) ?_
  refine r_getr (t := 31) C hp xk_65 xs_65 xc_2 xin_2 (j := 1) (by decide) rfl gw_347 rfl dX2_showScene_44 ?_
  refine lv_iload_n C.1 C.2.1 dX2_showScene_47 rfl (lv_at hl 4 rfl) ?_
  refine lv_iload_n C.1 C.2.1 dX2_showScene_48 rfl (lv_at hl 1 rfl) ?_
  refine lv_iload C.1 C.2.1 dX2_showScene_49 (lv_at hl 0 rfl) ?_
  obtain ⟨x15, M16, hr, h⟩ := bW_of h
  refine r_callVI (As := [.int (gI a1), .int (gI x11), .int (gI x13)]) (rest := []) C hl.1 hp (c_X3_cueSaid l C.2.2.2.2.2.2.2.2.2.2.2 hr) gw_859 gw_860 gw_861 xk_31 xs_31 xc_3 cal_X3_cueSaid rfl rfl (Nat.le_of_ble_eq_true rfl) ⟨Nat.le_of_ble_eq_true rfl, Nat.le_of_ble_eq_true rfl⟩ dX2_showScene_51 (fun H locs hp => ?_)
  refine r_istore (lv' := fun x17 => [(5, .int (gI x17)), (4, .int (gI x13)), (3, .int (gI x11)), (2, .ref (V.2.2 2)), (0, .ref (V.2.2 65)), (1, .int (gI a1))]) C h dX2_showScene_54 hl (by decide) (fun _ => rfl) (fun x17 ls h hl => ?_)
  refine lv_aload_n C.1 C.2.1 dX2_showScene_56 rfl (lv_at hl 4 rfl) ?_
  refine r_getr (t := 1) C hp xk_65 xs_65 xc_2 xin_2 (j := 0) (by decide) rfl gw_346 rfl dX2_showScene_57 ?_
  refine lv_iload_n C.1 C.2.1 dX2_showScene_60 rfl (lv_at hl 5 rfl) ?_
  refine lv_iload C.1 C.2.1 dX2_showScene_61 (lv_at hl 0 rfl) ?_
  obtain ⟨x18, hr, h⟩ := bd_of h
  refine r_callVI (As := [.int (gI a1), .int (gI x17)]) (rest := []) C hl.1 hp (c_X1_after l C.2.2.2.2.2.2.2.2.2.2.2 hr) gw_789 gw_790 gw_791 xk_1 xs_1 xc_1 cal_X1_after rfl rfl (Nat.le_of_ble_eq_true rfl) ⟨Nat.le_of_ble_eq_true rfl, Nat.le_of_ble_eq_true rfl⟩ dX2_showScene_63 (fun H locs hp => ?_)
  refine r_istore (lv' := fun x19 => [(6, .int (gI x19)), (5, .int (gI x17)), (4, .int (gI x13)), (3, .int (gI x11)), (2, .ref (V.2.2 2)), (0, .ref (V.2.2 65)), (1, .int (gI a1))]) C h dX2_showScene_66 hl (by decide) (fun _ => rfl) (fun x19 ls h hl => ?_)
  refine lv_iload C.1 C.2.1 dX2_showScene_68 (lv_at hl 1 rfl) ?_
  refine r_if_eq (tgt := 117) C h dX2_showScene_70 (by decide) (fun h => ?_) (fun h => ?_)
  · refine lv_iload C.1 C.2.1 dX2_showScene_117 (lv_at hl 0 rfl) ?_
    cases h
    exact hR _ _ _ _ dX2_showScene_119 rfl hp
  · refine lv_aload_n C.1 C.2.1 dX2_showScene_73 rfl (lv_at hl 4 rfl) ?_
    refine r_bipush C dX2_showScene_74 (by decide +kernel) ?_
    refine lv_iload_n C.1 C.2.1 dX2_showScene_76 rfl (lv_at hl 6 rfl) ?_
    refine r_iadd C dX2_showScene_77 ?_
    refine r_iald C hp h xk_2 xs_2 dX2_showScene_78 (fun h => ?_)
    refine lv_iload C.1 C.2.1 dX2_showScene_79 (lv_at hl 0 rfl) ?_
    refine r_icmp_eq (tgt := 117) C h dX2_showScene_81 (by decide) (fun h => ?_) (fun h => ?_)
    · refine lv_iload C.1 C.2.1 dX2_showScene_117 (lv_at hl 0 rfl) ?_
      cases h
      exact hR _ _ _ _ dX2_showScene_119 rfl hp
    · refine lv_aload_n C.1 C.2.1 dX2_showScene_84 rfl (lv_at hl 5 rfl) ?_
      refine r_getr (t := 31) C hp xk_65 xs_65 xc_2 xin_2 (j := 1) (by decide) rfl gw_347 rfl dX2_showScene_85 ?_
      refine lv_iload_n C.1 C.2.1 dX2_showScene_88 rfl (lv_at hl 6 rfl) ?_
      refine lv_iload C.1 C.2.1 dX2_showScene_89 (lv_at hl 1 rfl) ?_
      refine lv_iload C.1 C.2.1 dX2_showScene_91 (lv_at hl 0 rfl) ?_
      obtain ⟨x20, M21, hr, h⟩ := bW_of h
      refine r_callVI (As := [.int (gI a1), .int (gI x17), .int (gI x19)]) (rest := []) C hl.1 hp (c_X3_staysSaid l C.2.2.2.2.2.2.2.2.2.2.2 hr) gw_889 gw_890 gw_891 xk_31 xs_31 xc_3 cal_X3_staysSaid rfl rfl (Nat.le_of_ble_eq_true rfl) ⟨Nat.le_of_ble_eq_true rfl, Nat.le_of_ble_eq_true rfl⟩ dX2_showScene_93 (fun H locs hp => ?_)
      refine r_if_eq (tgt := 117) C h dX2_showScene_96 (by decide) (fun h => ?_) (fun h => ?_)
      · refine lv_iload C.1 C.2.1 dX2_showScene_117 (lv_at hl 0 rfl) ?_
        cases h
        exact hR _ _ _ _ dX2_showScene_119 rfl hp
      · refine lv_aload_n C.1 C.2.1 dX2_showScene_99 rfl (lv_at hl 4 rfl) ?_
        refine r_bipush C dX2_showScene_100 (by decide +kernel) ?_
        refine lv_iload_n C.1 C.2.1 dX2_showScene_102 rfl (lv_at hl 6 rfl) ?_
        refine r_iadd C dX2_showScene_103 ?_
        refine lv_iload C.1 C.2.1 dX2_showScene_104 (lv_at hl 0 rfl) ?_
        refine r_iast C hp h xk_2 xs_2 dX2_showScene_106 (fun M22 H locs h hp => ?_)
        refine lv_aload_n C.1 C.2.1 dX2_showScene_107 rfl (lv_at hl 5 rfl) ?_
        refine lv_dup C.1 C.2.1 dX2_showScene_108 rfl ?_
        refine r_geti (t := 0) C hp xk_65 xs_65 xc_2 xin_2 (j := 4) (by decide) rfl gw_350 rfl dX2_showScene_109 ?_
        refine r_iconst C dX2_showScene_112 ?_
        refine r_iadd C dX2_showScene_113 ?_
        refine r_puti C hp h xk_65 xs_65 xc_2 xin_2 tyX2 tyX2_ok nmX2 (j := 4) (by decide) rfl gw_350 rfl rfl rfl dX2_showScene_114 (fun M23 H locs h hp => ?_)
        refine lv_iload C.1 C.2.1 dX2_showScene_117 (lv_at hl 0 rfl) ?_
        cases h
        exact hR _ _ _ _ dX2_showScene_119 rfl hp
theorem c_X2_showScene (l : Launch) {V : g_V} (hok : g_ok xG V) {a1 : Int} {M : g_M} {x : Int} {M2 : g_M} (h : m_X2_showScene a1 M = some (x, M2)) : MetI xG V l yX2_showScene cX2_showScene 7 (some .int) 3 78 [.ref (V.2.2 65), .int (gI a1)] M x M2 :=
  g_metI hok cal_X2_showScene.2.2.2 rfl (Nat.le_of_ble_eq_true rfl) (@fun p e R s m args below meth c Q ls C hR hp hl => b_X2_showScene C hR h hp hl)
set_option maxRecDepth 100000 in
set_option maxHeartbeats 4000000 in
theorem w_X2_gladdenSeen_L2 (C : g_CX xG V p R s m args meth c cX2_gladdenSeen 3 none RX2 3 78) {res : g_M} (hR : g_RetV xG V p l e R s m args below meth c Q cX2_gladdenSeen res)    : ∀ (f : Nat) (x12 : Int) (M13 : g_M) (H : Heap) (locs : List Loc) (ls : Array Slot), m_X2_gladdenSeen_L2  f x12 M13 = some res → g_PT xG V M13 s H locs → lv_has ls 3 [(0, .ref (V.2.2 65)), (1, .int (gI x12))] → W p l e R s m args below meth c H locs 0 0 Q (F0 m 2 ls []) := by
  intro f
  induction f with
  | zero => intro x12 M13 H locs ls h hp hl; cases h
  | succ f ih =>
    intro x12 M13 H locs ls h hp hl
    rw [m_X2_gladdenSeen_L2] at h
    refine lv_iload_n C.1 C.2.1 dX2_gladdenSeen_2 rfl (lv_at hl 1 rfl) ?_
    refine lv_aload_n C.1 C.2.1 dX2_gladdenSeen_3 rfl (lv_at hl 0 rfl) ?_
    refine r_getr (t := 1) C hp xk_65 xs_65 xc_2 xin_2 (j := 0) (by decide) rfl gw_346 rfl dX2_gladdenSeen_4 ?_
    refine r_geti (t := 0) C hp xk_1 xs_1 xc_1 xin_1 (j := 7) (by decide) rfl gw_166 rfl dX2_gladdenSeen_7 ?_
    refine r_icmp_ge (tgt := 81) C h dX2_gladdenSeen_10 (by decide) (fun h => ?_) (fun h => ?_)
    · cases h
      exact hR _ _ _ _ dX2_gladdenSeen_81 hp
    · refine r_jn (P := fun J => ∀ (M20 : g_M) (H : Heap) (locs : List Loc) (ls : Array Slot), J M20 = some res → g_PT xG V M20 s H locs → lv_has ls 3 [(0, .ref (V.2.2 65)), (1, .int (gI x12))] → W p l e R s m args below meth c H locs 0 0 Q (F0 m 75 ls [])) h ?_ (fun J14 hJ14 h => ?_)
      · intro M20 H locs ls h hp hl
        refine r_iinc (lv' := fun x21 => [(1, .int (gI x21)), (0, .ref (V.2.2 65))]) C h dX2_gladdenSeen_75 hl (j := 1) rfl (by decide) (fun _ => rfl) (fun x21 ls h hl => ?_)
        refine r_goto (tgt := 2) C dX2_gladdenSeen_78 (by decide) ?_
        exact ih _ _ _ _ _ h hp (lv_sub hl [1, 0] rfl)
      refine lv_aload_n C.1 C.2.1 dX2_gladdenSeen_13 rfl (lv_at hl 0 rfl) ?_
      refine r_getr (t := 1) C hp xk_65 xs_65 xc_2 xin_2 (j := 0) (by decide) rfl gw_346 rfl dX2_gladdenSeen_14 ?_
      refine lv_iload_n C.1 C.2.1 dX2_gladdenSeen_17 rfl (lv_at hl 1 rfl) ?_
      obtain ⟨x15, hr, h⟩ := bd_of h
      refine r_callVI (As := [.int (gI x12)]) (rest := []) C hl.1 hp (c_X1_isSeen l C.2.2.2.2.2.2.2.2.2.2.2 hr) gw_897 gw_837 gw_838 xk_1 xs_1 xc_1 cal_X1_isSeen rfl rfl (Nat.le_of_ble_eq_true rfl) ⟨Nat.le_of_ble_eq_true rfl, Nat.le_of_ble_eq_true rfl⟩ dX2_gladdenSeen_18 (fun H locs hp => ?_)
      refine r_if_eq (tgt := 75) C h dX2_gladdenSeen_21 (by decide) (fun h => ?_) (fun h => ?_)
      · exact hJ14 _ _ _ _ h hp hl
      · refine lv_aload_n C.1 C.2.1 dX2_gladdenSeen_24 rfl (lv_at hl 0 rfl) ?_
        refine r_getr (t := 1) C hp xk_65 xs_65 xc_2 xin_2 (j := 0) (by decide) rfl gw_346 rfl dX2_gladdenSeen_25 ?_
        refine r_getr (t := 2) C hp xk_1 xs_1 xc_1 xin_1 (j := 0) (by decide) rfl gw_145 rfl dX2_gladdenSeen_28 ?_
        refine r_bipush C dX2_gladdenSeen_31 (by decide +kernel) ?_
        refine lv_iload_n C.1 C.2.1 dX2_gladdenSeen_33 rfl (lv_at hl 1 rfl) ?_
        refine r_iadd C dX2_gladdenSeen_34 ?_
        refine r_iald C hp h xk_2 xs_2 dX2_gladdenSeen_35 (fun h => ?_)
        refine lv_aload_n C.1 C.2.1 dX2_gladdenSeen_36 rfl (lv_at hl 0 rfl) ?_
        refine r_getr (t := 31) C hp xk_65 xs_65 xc_2 xin_2 (j := 1) (by decide) rfl gw_347 rfl dX2_gladdenSeen_37 ?_
        refine lv_aload_n C.1 C.2.1 dX2_gladdenSeen_40 rfl (lv_at hl 0 rfl) ?_
        refine r_getr (t := 1) C hp xk_65 xs_65 xc_2 xin_2 (j := 0) (by decide) rfl gw_346 rfl dX2_gladdenSeen_41 ?_
        refine r_geti (t := 0) C hp xk_1 xs_1 xc_1 xin_1 (j := 9) (by decide) rfl gw_173 rfl dX2_gladdenSeen_44 ?_
        refine lv_iload_n C.1 C.2.1 dX2_gladdenSeen_47 rfl (lv_at hl 1 rfl) ?_
        refine lv_aload_n C.1 C.2.1 dX2_gladdenSeen_48 rfl (lv_at hl 0 rfl) ?_
        refine r_geti (t := 0) C hp xk_65 xs_65 xc_2 xin_2 (j := 3) (by decide) rfl gw_349 rfl dX2_gladdenSeen_49 ?_
        obtain ⟨x16, M17, hr, h⟩ := bW_of h
        refine r_callVI (As := [.int (gI (M13 1 9)), .int (gI x12), .int (gI (M13 65 3))]) (rest := [.int (gI (M13 2 (gs (8 + x12)).toNat))]) C hl.1 hp (c_X3_gladdensSaid l C.2.2.2.2.2.2.2.2.2.2.2 hr) gw_898 gw_899 gw_900 xk_31 xs_31 xc_3 cal_X3_gladdensSaid rfl rfl (Nat.le_of_ble_eq_true rfl) ⟨Nat.le_of_ble_eq_true rfl, Nat.le_of_ble_eq_true rfl⟩ dX2_gladdenSeen_52 (fun H locs hp => ?_)
        refine r_iadd C dX2_gladdenSeen_55 ?_
        refine r_istore_n (lv' := fun x18 => [(2, .int (gI x18)), (0, .ref (V.2.2 65)), (1, .int (gI x12))]) C h dX2_gladdenSeen_56 rfl hl (by decide) (fun _ => rfl) (fun x18 ls h hl => ?_)
        refine lv_aload_n C.1 C.2.1 dX2_gladdenSeen_57 rfl (lv_at hl 1 rfl) ?_
        refine r_getr (t := 1) C hp xk_65 xs_65 xc_2 xin_2 (j := 0) (by decide) rfl gw_346 rfl dX2_gladdenSeen_58 ?_
        refine r_getr (t := 2) C hp xk_1 xs_1 xc_1 xin_1 (j := 0) (by decide) rfl gw_145 rfl dX2_gladdenSeen_61 ?_
        refine r_bipush C dX2_gladdenSeen_64 (by decide +kernel) ?_
        refine lv_iload_n C.1 C.2.1 dX2_gladdenSeen_66 rfl (lv_at hl 2 rfl) ?_
        refine r_iadd C dX2_gladdenSeen_67 ?_
        refine r_bipush C dX2_gladdenSeen_68 (by decide +kernel) ?_
        refine lv_iload_n C.1 C.2.1 dX2_gladdenSeen_70 rfl (lv_at hl 0 rfl) ?_
        refine r_mmin C hl.1 gw_819 gw_587 gw_126 gw_588 (Nat.le_of_ble_eq_true rfl) (Nat.le_of_ble_eq_true rfl) dX2_gladdenSeen_71 ?_
        refine r_iast C hp h xk_2 xs_2 dX2_gladdenSeen_74 (fun M19 H locs h hp => ?_)
        exact hJ14 _ _ _ _ h hp (lv_sub hl [1, 2] rfl)
set_option maxRecDepth 100000 in
set_option maxHeartbeats 4000000 in
theorem b_X2_gladdenSeen (C : g_CX xG V p R s m args meth c cX2_gladdenSeen 3 none RX2 3 78) {res : g_M} (hR : g_RetV xG V p l e R s m args below meth c Q cX2_gladdenSeen res)  {M : g_M} {H : Heap} {locs : List Loc} {ls : Array Slot} (h : m_X2_gladdenSeen M = some res) (hp : g_PT xG V M s H locs) (hl : lv_has ls 3 [(0, .ref (V.2.2 65))]) : W p l e R s m args below meth c H locs 0 0 Q (F0 m 0 ls []) := by
  unfold m_X2_gladdenSeen at h
  refine r_iconst C dX2_gladdenSeen_0 ?_
  refine r_istore_n (lv' := fun x11 => [(1, .int (gI x11)), (0, .ref (V.2.2 65))]) C h dX2_gladdenSeen_1 rfl hl (by decide) (fun _ => rfl) (fun x11 ls h hl => ?_)
  refine w_X2_gladdenSeen_L2 C hR _ _ _ H locs ls h hp (lv_sub hl [1, 0] rfl)
theorem c_X2_gladdenSeen (l : Launch) {V : g_V} (hok : g_ok xG V)  {M : g_M} {res : g_M} (h : m_X2_gladdenSeen M = some res) : MetV xG V l yX2_gladdenSeen cX2_gladdenSeen 3 none 3 78 [.ref (V.2.2 65)] M res :=
  g_metV hok cal_X2_gladdenSeen.2.2.2 rfl (Nat.le_of_ble_eq_true rfl) (@fun p e R s m args below meth c Q ls C hR hp hl => b_X2_gladdenSeen C hR h hp hl)
set_option maxRecDepth 100000 in
set_option maxHeartbeats 4000000 in
theorem b_X2_writeDown (C : g_CX xG V p R s m args meth c cX2_writeDown 4 none RX2 0 0) {res : g_M} (hR : g_RetV xG V p l e R s m args below meth c Q cX2_writeDown res) {a1 : Int} {M : g_M} {H : Heap} {locs : List Loc} {ls : Array Slot} (h : m_X2_writeDown a1 M = some res) (hp : g_PT xG V M s H locs) (hl : lv_has ls 4 [(0, .ref (V.2.2 65)), (1, .int (gI a1))]) : W p l e R s m args below meth c H locs 0 0 Q (F0 m 0 ls []) := by
  unfold m_X2_writeDown at h
  refine lv_aload_n C.1 C.2.1 dX2_writeDown_0 rfl (lv_at hl 0 rfl) ?_
  refine r_getr (t := 1) C hp xk_65 xs_65 xc_2 xin_2 (j := 0) (by decide) rfl gw_346 rfl dX2_writeDown_1 ?_
  refine r_getr (t := 2) C hp xk_1 xs_1 xc_1 xin_1 (j := 0) (by decide) rfl gw_145 rfl dX2_writeDown_4 ?_
  refine lv_astore_n (lv' := [(2, .ref (V.2.2 2)), (0, .ref (V.2.2 65)), (1, .int (gI a1))]) C.1 C.2.1 dX2_writeDown_7 rfl hl (by decide) rfl (fun ls hl => ?_)
  refine lv_aload_n C.1 C.2.1 dX2_writeDown_8 rfl (lv_at hl 0 rfl) ?_
  refine r_bipush C dX2_writeDown_9 (by decide +kernel) ?_
  refine r_iald C hp h xk_2 xs_2 dX2_writeDown_11 (fun h => ?_)
  refine r_bipush C dX2_writeDown_12 (by decide +kernel) ?_
  refine r_irem C h dX2_writeDown_14 (fun h => ?_)
  refine r_istore_n (lv' := fun x11 => [(3, .int (gI x11)), (2, .ref (V.2.2 2)), (0, .ref (V.2.2 65)), (1, .int (gI a1))]) C h dX2_writeDown_15 rfl hl (by decide) (fun _ => rfl) (fun x11 ls h hl => ?_)
  refine lv_aload_n C.1 C.2.1 dX2_writeDown_16 rfl (lv_at hl 1 rfl) ?_
  refine r_bipush C dX2_writeDown_17 (by decide +kernel) ?_
  refine lv_iload_n C.1 C.2.1 dX2_writeDown_19 rfl (lv_at hl 0 rfl) ?_
  refine r_iadd C dX2_writeDown_20 ?_
  refine lv_aload_n C.1 C.2.1 dX2_writeDown_21 rfl (lv_at hl 2 rfl) ?_
  refine r_geti (t := 0) C hp xk_65 xs_65 xc_2 xin_2 (j := 3) (by decide) rfl gw_349 rfl dX2_writeDown_22 ?_
  refine r_iast C hp h xk_2 xs_2 dX2_writeDown_25 (fun M12 H locs h hp => ?_)
  refine lv_aload_n C.1 C.2.1 dX2_writeDown_26 rfl (lv_at hl 1 rfl) ?_
  refine r_bipush C dX2_writeDown_27 (by decide +kernel) ?_
  refine lv_iload_n C.1 C.2.1 dX2_writeDown_29 rfl (lv_at hl 0 rfl) ?_
  refine r_iadd C dX2_writeDown_30 ?_
  refine lv_iload_n C.1 C.2.1 dX2_writeDown_31 rfl (lv_at hl 3 rfl) ?_
  refine r_iast C hp h xk_2 xs_2 dX2_writeDown_32 (fun M13 H locs h hp => ?_)
  refine lv_aload_n C.1 C.2.1 dX2_writeDown_33 rfl (lv_at hl 1 rfl) ?_
  refine r_bipush C dX2_writeDown_34 (by decide +kernel) ?_
  refine lv_iload_n C.1 C.2.1 dX2_writeDown_36 rfl (lv_at hl 0 rfl) ?_
  refine r_iadd C dX2_writeDown_37 ?_
  refine lv_aload_n C.1 C.2.1 dX2_writeDown_38 rfl (lv_at hl 2 rfl) ?_
  refine r_geti (t := 0) C hp xk_65 xs_65 xc_2 xin_2 (j := 4) (by decide) rfl gw_350 rfl dX2_writeDown_39 ?_
  refine r_iast C hp h xk_2 xs_2 dX2_writeDown_42 (fun M14 H locs h hp => ?_)
  refine lv_aload_n C.1 C.2.1 dX2_writeDown_43 rfl (lv_at hl 1 rfl) ?_
  refine r_bipush C dX2_writeDown_44 (by decide +kernel) ?_
  refine lv_dup2_11 C.1 C.2.1 dX2_writeDown_46 rfl rfl ?_
  refine r_iald C hp h xk_2 xs_2 dX2_writeDown_47 (fun h => ?_)
  refine lv_iload_n C.1 C.2.1 dX2_writeDown_48 rfl (lv_at hl 3 rfl) ?_
  refine r_iadd C dX2_writeDown_49 ?_
  refine r_iast C hp h xk_2 xs_2 dX2_writeDown_50 (fun M15 H locs h hp => ?_)
  refine lv_aload_n C.1 C.2.1 dX2_writeDown_51 rfl (lv_at hl 1 rfl) ?_
  refine r_bipush C dX2_writeDown_52 (by decide +kernel) ?_
  refine lv_dup2_11 C.1 C.2.1 dX2_writeDown_54 rfl rfl ?_
  refine r_iald C hp h xk_2 xs_2 dX2_writeDown_55 (fun h => ?_)
  refine r_iconst C dX2_writeDown_56 ?_
  refine r_iadd C dX2_writeDown_57 ?_
  refine r_iast C hp h xk_2 xs_2 dX2_writeDown_58 (fun M16 H locs h hp => ?_)
  cases h
  exact hR _ _ _ _ dX2_writeDown_59 hp
theorem c_X2_writeDown (l : Launch) {V : g_V} (hok : g_ok xG V) {a1 : Int} {M : g_M} {res : g_M} (h : m_X2_writeDown a1 M = some res) : MetV xG V l yX2_writeDown cX2_writeDown 4 none 0 0 [.ref (V.2.2 65), .int (gI a1)] M res :=
  g_metV hok cal_X2_writeDown.2.2.2 rfl (Nat.le_of_ble_eq_true rfl) (@fun p e R s m args below meth c Q ls C hR hp hl => b_X2_writeDown C hR h hp hl)
set_option maxRecDepth 100000 in
set_option maxHeartbeats 4000000 in
theorem w_X2_holdEvening_L19 (C : g_CX xG V p R s m args meth c cX2_holdEvening 3 (some .int) RX2 4 104) {res : Int × g_M} (hR : g_RetI xG V p l e R s m args below meth c Q cX2_holdEvening .int res.1 res.2)  (k17 : Int → g_M → Option (Int × g_M)) (hk17 : ∀ (x22 : Int) (M23 : g_M) (H : Heap) (locs : List Loc) (ls : Array Slot), k17 x22 M23 = some res → g_PT xG V M23 s H locs → lv_has ls 3 [(0, .ref (V.2.2 65)), (1, .int (gI x22))] → W p l e R s m args below meth c H locs 0 0 Q (F0 m 53 ls [])) : ∀ (f : Nat) (x15 : Int) (M16 : g_M) (H : Heap) (locs : List Loc) (ls : Array Slot), m_X2_holdEvening_L19 k17 f x15 M16 = some res → g_PT xG V M16 s H locs → lv_has ls 3 [(0, .ref (V.2.2 65)), (1, .int (gI x15))] → W p l e R s m args below meth c H locs 0 0 Q (F0 m 19 ls []) := by
  intro f
  induction f with
  | zero => intro x15 M16 H locs ls h hp hl; cases h
  | succ f ih =>
    intro x15 M16 H locs ls h hp hl
    rw [m_X2_holdEvening_L19] at h
    refine lv_iload_n C.1 C.2.1 dX2_holdEvening_19 rfl (lv_at hl 1 rfl) ?_
    refine r_bipush C dX2_holdEvening_20 (by decide +kernel) ?_
    refine r_icmp_eq (tgt := 53) C h dX2_holdEvening_22 (by decide) (fun h => ?_) (fun h => ?_)
    · exact hk17 _ _ _ _ _ h hp hl
    · refine lv_aload_n C.1 C.2.1 dX2_holdEvening_25 rfl (lv_at hl 0 rfl) ?_
      refine r_geti (t := 0) C hp xk_65 xs_65 xc_2 xin_2 (j := 3) (by decide) rfl gw_349 rfl dX2_holdEvening_26 ?_
      refine r_bipush C dX2_holdEvening_29 (by decide +kernel) ?_
      refine r_icmp_ge (tgt := 53) C h dX2_holdEvening_31 (by decide) (fun h => ?_) (fun h => ?_)
      · exact hk17 _ _ _ _ _ h hp hl
      · refine lv_aload_n C.1 C.2.1 dX2_holdEvening_34 rfl (lv_at hl 0 rfl) ?_
        refine lv_iload_n C.1 C.2.1 dX2_holdEvening_35 rfl (lv_at hl 1 rfl) ?_
        obtain ⟨x18, M19, hr, h⟩ := bW_of h
        refine r_callVI (As := [.int (gI x15)]) (rest := []) C hl.1 hp (c_X2_showScene l C.2.2.2.2.2.2.2.2.2.2.2 hr) gw_851 gw_853 gw_21 xk_65 xs_65 xc_2 cal_X2_showScene rfl rfl (Nat.le_of_ble_eq_true rfl) ⟨Nat.le_of_ble_eq_true rfl, Nat.le_of_ble_eq_true rfl⟩ dX2_holdEvening_36 (fun H locs hp => ?_)
        refine r_istore_n (lv' := fun x20 => [(1, .int (gI x20)), (0, .ref (V.2.2 65))]) C h dX2_holdEvening_39 rfl hl (by decide) (fun _ => rfl) (fun x20 ls h hl => ?_)
        refine lv_aload_n C.1 C.2.1 dX2_holdEvening_40 rfl (lv_at hl 1 rfl) ?_
        refine lv_dup C.1 C.2.1 dX2_holdEvening_41 rfl ?_
        refine r_geti (t := 0) C hp xk_65 xs_65 xc_2 xin_2 (j := 3) (by decide) rfl gw_349 rfl dX2_holdEvening_42 ?_
        refine r_iconst C dX2_holdEvening_45 ?_
        refine r_iadd C dX2_holdEvening_46 ?_
        refine r_puti C hp h xk_65 xs_65 xc_2 xin_2 tyX2 tyX2_ok nmX2 (j := 3) (by decide) rfl gw_349 rfl rfl rfl dX2_holdEvening_47 (fun M21 H locs h hp => ?_)
        refine r_goto (tgt := 19) C dX2_holdEvening_50 (by decide) ?_
        exact ih _ _ _ _ _ h hp (lv_sub hl [1, 0] rfl)
set_option maxRecDepth 100000 in
set_option maxHeartbeats 4000000 in
theorem b_X2_holdEvening (C : g_CX xG V p R s m args meth c cX2_holdEvening 3 (some .int) RX2 4 104) {res : Int × g_M} (hR : g_RetI xG V p l e R s m args below meth c Q cX2_holdEvening .int res.1 res.2)  {M : g_M} {H : Heap} {locs : List Loc} {ls : Array Slot} (h : m_X2_holdEvening M = some res) (hp : g_PT xG V M s H locs) (hl : lv_has ls 3 [(0, .ref (V.2.2 65))]) : W p l e R s m args below meth c H locs 0 0 Q (F0 m 0 ls []) := by
  unfold m_X2_holdEvening at h
  refine lv_aload_n C.1 C.2.1 dX2_holdEvening_0 rfl (lv_at hl 0 rfl) ?_
  refine r_getr (t := 31) C hp xk_65 xs_65 xc_2 xin_2 (j := 1) (by decide) rfl gw_347 rfl dX2_holdEvening_1 ?_
  obtain ⟨M11, hr, h⟩ := bd_of h
  refine r_callVV (As := []) (rest := []) C hl.1 hp (c_X3_lookAround l C.2.2.2.2.2.2.2.2.2.2.2 hr) gw_828 gw_829 gw_830 xk_31 xs_31 xc_3 cal_X3_lookAround rfl rfl (Nat.le_of_ble_eq_true rfl) ⟨Nat.le_of_ble_eq_true rfl, Nat.le_of_ble_eq_true rfl⟩ dX2_holdEvening_4 (fun H locs hp => ?_)
  refine r_iconst C dX2_holdEvening_7 ?_
  refine r_istore_n (lv' := fun x12 => [(1, .int (gI x12)), (0, .ref (V.2.2 65))]) C h dX2_holdEvening_8 rfl hl (by decide) (fun _ => rfl) (fun x12 ls h hl => ?_)
  refine lv_aload_n C.1 C.2.1 dX2_holdEvening_9 rfl (lv_at hl 1 rfl) ?_
  refine r_iconst C dX2_holdEvening_10 ?_
  refine r_puti C hp h xk_65 xs_65 xc_2 xin_2 tyX2 tyX2_ok nmX2 (j := 3) (by decide) rfl gw_349 rfl rfl rfl dX2_holdEvening_11 (fun M13 H locs h hp => ?_)
  refine lv_aload_n C.1 C.2.1 dX2_holdEvening_14 rfl (lv_at hl 1 rfl) ?_
  refine r_iconst C dX2_holdEvening_15 ?_
  refine r_puti C hp h xk_65 xs_65 xc_2 xin_2 tyX2 tyX2_ok nmX2 (j := 4) (by decide) rfl gw_350 rfl rfl rfl dX2_holdEvening_16 (fun M14 H locs h hp => ?_)
  refine w_X2_holdEvening_L19 C hR _ ?_ _ _ _ H locs ls h hp (lv_sub hl [1, 0] rfl)
  · intro x24 M25 H locs ls h hp hl
    refine r_jn (P := fun J => ∀ (x27 : Int) (H : Heap) (locs : List Loc) (ls : Array Slot), J x27 = some res → g_PT xG V M25 s H locs → lv_has ls 3 [(0, .ref (V.2.2 65))] → W p l e R s m args below meth c H locs 0 0 Q (F0 m 64 ls [.int (gI x27)])) h ?_ (fun J26 hJ26 h => ?_)
    · intro x27 H locs ls h hp hl
      refine r_jn (P := fun J => ∀ (x31 : Int) (M32 : g_M) (H : Heap) (locs : List Loc) (ls : Array Slot), J x31 M32 = some res → g_PT xG V M32 s H locs → lv_has ls 3 [(0, .ref (V.2.2 65)), (2, .int (gI x31))] → W p l e R s m args below meth c H locs 0 0 Q (F0 m 74 ls [])) h ?_ (fun J28 hJ28 h => ?_)
      · intro x31 M32 H locs ls h hp hl
        refine lv_aload_n C.1 C.2.1 dX2_holdEvening_74 rfl (lv_at hl 0 rfl) ?_
        refine lv_iload_n C.1 C.2.1 dX2_holdEvening_75 rfl (lv_at hl 1 rfl) ?_
        obtain ⟨M33, hr, h⟩ := bd_of h
        refine r_callVV (As := [.int (gI x31)]) (rest := []) C hl.1 hp (c_X2_writeDown l C.2.2.2.2.2.2.2.2.2.2.2 hr) gw_902 gw_904 gw_26 xk_65 xs_65 xc_2 cal_X2_writeDown rfl rfl (Nat.le_of_ble_eq_true rfl) ⟨Nat.le_of_ble_eq_true rfl, Nat.le_of_ble_eq_true rfl⟩ dX2_holdEvening_76 (fun H locs hp => ?_)
        refine lv_iload_n C.1 C.2.1 dX2_holdEvening_79 rfl (lv_at hl 1 rfl) ?_
        cases h
        exact hR _ _ _ _ dX2_holdEvening_80 rfl hp
      refine r_istore_n (lv' := fun x29 => [(2, .int (gI x29)), (0, .ref (V.2.2 65))]) C h dX2_holdEvening_64 rfl hl (by decide) (fun _ => rfl) (fun x29 ls h hl => ?_)
      refine lv_iload_n C.1 C.2.1 dX2_holdEvening_65 rfl (lv_at hl 0 rfl) ?_
      refine r_iconst C dX2_holdEvening_66 ?_
      refine r_icmp_ne (tgt := 74) C h dX2_holdEvening_67 (by decide) (fun h => ?_) (fun h => ?_)
      · exact hJ28 _ _ _ _ _ h hp (lv_sub hl [1, 0] rfl)
      · refine lv_aload_n C.1 C.2.1 dX2_holdEvening_70 rfl (lv_at hl 1 rfl) ?_
        obtain ⟨M30, hr, h⟩ := bd_of h
        refine r_callVV (As := []) (rest := []) C hl.1 hp (c_X2_gladdenSeen l C.2.2.2.2.2.2.2.2.2.2.2 hr) gw_893 gw_895 gw_25 xk_65 xs_65 xc_2 cal_X2_gladdenSeen rfl rfl (Nat.le_of_ble_eq_true rfl) ⟨Nat.le_of_ble_eq_true rfl, Nat.le_of_ble_eq_true rfl⟩ dX2_holdEvening_71 (fun H locs hp => ?_)
        exact hJ28 _ _ _ _ _ h hp (lv_sub hl [1, 0] rfl)
    refine lv_iload_n C.1 C.2.1 dX2_holdEvening_53 rfl (lv_at hl 1 rfl) ?_
    refine r_bipush C dX2_holdEvening_54 (by decide +kernel) ?_
    refine r_icmp_ne (tgt := 63) C h dX2_holdEvening_56 (by decide) (fun h => ?_) (fun h => ?_)
    · refine r_iconst C dX2_holdEvening_63 ?_
      exact hJ26 _ _ _ _ h hp (lv_sub hl [0] rfl)
    · refine r_iconst C dX2_holdEvening_59 ?_
      refine r_goto (tgt := 64) C dX2_holdEvening_60 (by decide) ?_
      exact hJ26 _ _ _ _ h hp (lv_sub hl [0] rfl)
theorem c_X2_holdEvening (l : Launch) {V : g_V} (hok : g_ok xG V)  {M : g_M} {x : Int} {M2 : g_M} (h : m_X2_holdEvening M = some (x, M2)) : MetI xG V l yX2_holdEvening cX2_holdEvening 3 (some .int) 4 104 [.ref (V.2.2 65)] M x M2 :=
  g_metI hok cal_X2_holdEvening.2.2.2 rfl (Nat.le_of_ble_eq_true rfl) (@fun p e R s m args below meth c Q ls C hR hp hl => b_X2_holdEvening C hR h hp hl)
set_option maxRecDepth 100000 in
set_option maxHeartbeats 4000000 in
theorem w_X2_holdEvenings_L4 (C : g_CX xG V p R s m args meth c cX2_holdEvenings 4 (some .int) RX2 5 126) {res : Int × g_M} (hR : g_RetI xG V p l e R s m args below meth c Q cX2_holdEvenings .int res.1 res.2) (x13 : Int)   : ∀ (f : Nat) (x14 : Int) (x15 : Int) (M16 : g_M) (H : Heap) (locs : List Loc) (ls : Array Slot), m_X2_holdEvenings_L4 x13  f x14 x15 M16 = some res → g_PT xG V M16 s H locs → lv_has ls 4 [(0, .ref (V.2.2 65)), (1, .int (gI x13)), (2, .int (gI x14)), (3, .int (gI x15))] → W p l e R s m args below meth c H locs 0 0 Q (F0 m 4 ls []) := by
  intro f
  induction f with
  | zero => intro x14 x15 M16 H locs ls h hp hl; cases h
  | succ f ih =>
    intro x14 x15 M16 H locs ls h hp hl
    rw [m_X2_holdEvenings_L4] at h
    refine lv_iload_n C.1 C.2.1 dX2_holdEvenings_4 rfl (lv_at hl 3 rfl) ?_
    refine lv_iload_n C.1 C.2.1 dX2_holdEvenings_5 rfl (lv_at hl 1 rfl) ?_
    refine r_icmp_ge (tgt := 29) C h dX2_holdEvenings_6 (by decide) (fun h => ?_) (fun h => ?_)
    · refine lv_iload_n C.1 C.2.1 dX2_holdEvenings_29 rfl (lv_at hl 2 rfl) ?_
      cases h
      exact hR _ _ _ _ dX2_holdEvenings_30 rfl hp
    · refine lv_aload_n C.1 C.2.1 dX2_holdEvenings_9 rfl (lv_at hl 0 rfl) ?_
      refine r_getr (t := 1) C hp xk_65 xs_65 xc_2 xin_2 (j := 0) (by decide) rfl gw_346 rfl dX2_holdEvenings_10 ?_
      obtain ⟨M17, hr, h⟩ := bd_of h
      refine r_callVV (As := []) (rest := []) C hl.1 hp (c_X1_keepStep l C.2.2.2.2.2.2.2.2.2.2.2 hr) gw_776 gw_777 gw_778 xk_1 xs_1 xc_1 cal_X1_keepStep rfl rfl (Nat.le_of_ble_eq_true rfl) ⟨Nat.le_of_ble_eq_true rfl, Nat.le_of_ble_eq_true rfl⟩ dX2_holdEvenings_13 (fun H locs hp => ?_)
      refine lv_iload_n C.1 C.2.1 dX2_holdEvenings_16 rfl (lv_at hl 2 rfl) ?_
      refine lv_aload_n C.1 C.2.1 dX2_holdEvenings_17 rfl (lv_at hl 0 rfl) ?_
      obtain ⟨x18, M19, hr, h⟩ := bW_of h
      refine r_callVI (As := []) (rest := [.int (gI x14)]) C hl.1 hp (c_X2_holdEvening l C.2.2.2.2.2.2.2.2.2.2.2 hr) gw_824 gw_826 gw_20 xk_65 xs_65 xc_2 cal_X2_holdEvening rfl rfl (Nat.le_of_ble_eq_true rfl) ⟨Nat.le_of_ble_eq_true rfl, Nat.le_of_ble_eq_true rfl⟩ dX2_holdEvenings_18 (fun H locs hp => ?_)
      refine r_iadd C dX2_holdEvenings_21 ?_
      refine r_istore_n (lv' := fun x20 => [(2, .int (gI x20)), (0, .ref (V.2.2 65)), (1, .int (gI x13)), (3, .int (gI x15))]) C h dX2_holdEvenings_22 rfl hl (by decide) (fun _ => rfl) (fun x20 ls h hl => ?_)
      refine r_iinc (lv' := fun x21 => [(3, .int (gI x21)), (2, .int (gI x20)), (0, .ref (V.2.2 65)), (1, .int (gI x13))]) C h dX2_holdEvenings_23 hl (j := 3) rfl (by decide) (fun _ => rfl) (fun x21 ls h hl => ?_)
      refine r_goto (tgt := 4) C dX2_holdEvenings_26 (by decide) ?_
      exact ih _ _ _ _ _ _ h hp (lv_sub hl [2, 3, 1, 0] rfl)
set_option maxRecDepth 100000 in
set_option maxHeartbeats 4000000 in
theorem b_X2_holdEvenings (C : g_CX xG V p R s m args meth c cX2_holdEvenings 4 (some .int) RX2 5 126) {res : Int × g_M} (hR : g_RetI xG V p l e R s m args below meth c Q cX2_holdEvenings .int res.1 res.2) {a1 : Int} {M : g_M} {H : Heap} {locs : List Loc} {ls : Array Slot} (h : m_X2_holdEvenings a1 M = some res) (hp : g_PT xG V M s H locs) (hl : lv_has ls 4 [(0, .ref (V.2.2 65)), (1, .int (gI a1))]) : W p l e R s m args below meth c H locs 0 0 Q (F0 m 0 ls []) := by
  unfold m_X2_holdEvenings at h
  refine r_iconst C dX2_holdEvenings_0 ?_
  refine r_istore_n (lv' := fun x11 => [(2, .int (gI x11)), (0, .ref (V.2.2 65)), (1, .int (gI a1))]) C h dX2_holdEvenings_1 rfl hl (by decide) (fun _ => rfl) (fun x11 ls h hl => ?_)
  refine r_iconst C dX2_holdEvenings_2 ?_
  refine r_istore_n (lv' := fun x12 => [(3, .int (gI x12)), (2, .int (gI x11)), (0, .ref (V.2.2 65)), (1, .int (gI a1))]) C h dX2_holdEvenings_3 rfl hl (by decide) (fun _ => rfl) (fun x12 ls h hl => ?_)
  refine w_X2_holdEvenings_L4 C hR _ _ _ _ _ H locs ls h hp (lv_sub hl [2, 3, 1, 0] rfl)
theorem c_X2_holdEvenings (l : Launch) {V : g_V} (hok : g_ok xG V) {a1 : Int} {M : g_M} {x : Int} {M2 : g_M} (h : m_X2_holdEvenings a1 M = some (x, M2)) : MetI xG V l yX2_holdEvenings cX2_holdEvenings 4 (some .int) 5 126 [.ref (V.2.2 65), .int (gI a1)] M x M2 :=
  g_metI hok cal_X2_holdEvenings.2.2.2 rfl (Nat.le_of_ble_eq_true rfl) (@fun p e R s m args below meth c Q ls C hR hp hl => b_X2_holdEvenings C hR h hp hl)
set_option maxRecDepth 100000 in
set_option maxHeartbeats 4000000 in
theorem b_X2_perform (C : g_CX xG V p R s m args meth c cX2_perform 6 (some .boolean) RX2 6 149) {res : Int × g_M} (hR : g_RetI xG V p l e R s m args below meth c Q cX2_perform .boolean res.1 res.2) {a1 : Int} {a2 : Int} {a3 : Int} {a4 : Int} {M : g_M} {H : Heap} {locs : List Loc} {ls : Array Slot} (h : m_X2_perform a1 a2 a3 a4 M = some res) (hp : g_PT xG V M s H locs) (hl : lv_has ls 6 [(0, .ref (V.2.2 65)), (1, .int (gI a1)), (2, .int (gI a2)), (3, .int (gI a3)), (4, .int (gI a4))]) : W p l e R s m args below meth c H locs 0 0 Q (F0 m 0 ls []) := by
  unfold m_X2_perform at h
  refine lv_iload_n C.1 C.2.1 dX2_perform_0 rfl (lv_at hl 1 rfl) ?_
  refine r_ite h (fun hv h => ?_) (fun hv3 h => ?_)
  · refine r_tswIn (tgt := 117) (v := 3) C hv dX2_perform_1 (by decide) rfl (by decide) ?_
    refine lv_aload_n C.1 C.2.1 dX2_perform_117 rfl (lv_at hl 0 rfl) ?_
    refine r_getr (t := 1) C hp xk_65 xs_65 xc_2 xin_2 (j := 0) (by decide) rfl gw_346 rfl dX2_perform_118 ?_
    refine r_getr (t := 5) C hp xk_1 xs_1 xc_1 xin_1 (j := 5) (by decide) rfl gw_159 rfl dX2_perform_121 ?_
    refine lv_iload_n C.1 C.2.1 dX2_perform_124 rfl (lv_at hl 3 rfl) ?_
    refine lv_iload_n C.1 C.2.1 dX2_perform_125 rfl (lv_at hl 2 rfl) ?_
    refine r_iast C hp h xk_5 xs_5 dX2_perform_126 (fun M11 H locs h hp => ?_)
    refine r_iconst C dX2_perform_127 ?_
    cases h
    exact hR _ _ _ _ dX2_perform_128 g_nz1 hp
  refine r_ite h (fun hv h => ?_) (fun hv4 h => ?_)
  · refine r_tswIn (tgt := 129) (v := 4) C hv dX2_perform_1 (by decide) rfl (by decide) ?_
    refine lv_aload_n C.1 C.2.1 dX2_perform_129 rfl (lv_at hl 0 rfl) ?_
    refine r_getr (t := 1) C hp xk_65 xs_65 xc_2 xin_2 (j := 0) (by decide) rfl gw_346 rfl dX2_perform_130 ?_
    refine lv_iload_n C.1 C.2.1 dX2_perform_133 rfl (lv_at hl 2 rfl) ?_
    refine lv_iload_n C.1 C.2.1 dX2_perform_134 rfl (lv_at hl 3 rfl) ?_
    obtain ⟨x12, M13, hr, h⟩ := bW_of h
    refine r_callVI (As := [.int (gI a2), .int (gI a3)]) (rest := []) C hl.1 hp (c_X1_tellPerson l C.2.2.2.2.2.2.2.2.2.2.2 hr) gw_919 gw_492 gw_493 xk_1 xs_1 xc_1 cal_X1_tellPerson rfl rfl (Nat.le_of_ble_eq_true rfl) ⟨Nat.le_of_ble_eq_true rfl, Nat.le_of_ble_eq_true rfl⟩ dX2_perform_135 (fun H locs hp => ?_)
    refine r_iconst C dX2_perform_138 ?_
    refine r_icmp_eq (tgt := 146) C h dX2_perform_139 (by decide) (fun h => ?_) (fun h => ?_)
    · refine r_iconst C dX2_perform_146 ?_
      cases h
      exact hR _ _ _ _ dX2_perform_147 g_nz0 hp
    · refine r_iconst C dX2_perform_142 ?_
      refine r_goto (tgt := 147) C dX2_perform_143 (by decide) ?_
      cases h
      exact hR _ _ _ _ dX2_perform_147 g_nz1 hp
  refine r_ite h (fun hv h => ?_) (fun hv5 h => ?_)
  · refine r_tswIn (tgt := 148) (v := 5) C hv dX2_perform_1 (by decide) rfl (by decide) ?_
    refine r_jn (P := fun J => ∀ (M19 : g_M) (H : Heap) (locs : List Loc) (ls : Array Slot), J M19 = some res → g_PT xG V M19 s H locs → lv_has ls 6 [] → W p l e R s m args below meth c H locs 0 0 Q (F0 m 181 ls [])) h ?_ (fun J14 hJ14 h => ?_)
    · intro M19 H locs ls h hp hl
      refine r_iconst C dX2_perform_181 ?_
      cases h
      exact hR _ _ _ _ dX2_perform_182 g_nz0 hp
    refine lv_aload_n C.1 C.2.1 dX2_perform_148 rfl (lv_at hl 0 rfl) ?_
    refine r_getr (t := 1) C hp xk_65 xs_65 xc_2 xin_2 (j := 0) (by decide) rfl gw_346 rfl dX2_perform_149 ?_
    refine lv_iload_n C.1 C.2.1 dX2_perform_152 rfl (lv_at hl 2 rfl) ?_
    obtain ⟨x15, hr, h⟩ := bd_of h
    refine r_callVI (As := [.int (gI a2)]) (rest := []) C hl.1 hp (c_X1_isPerson l C.2.2.2.2.2.2.2.2.2.2.2 hr) gw_920 gw_765 gw_766 xk_1 xs_1 xc_1 cal_X1_isPerson rfl rfl (Nat.le_of_ble_eq_true rfl) ⟨Nat.le_of_ble_eq_true rfl, Nat.le_of_ble_eq_true rfl⟩ dX2_perform_153 (fun H locs hp => ?_)
    refine r_if_eq (tgt := 181) C h dX2_perform_156 (by decide) (fun h => ?_) (fun h => ?_)
    · exact hJ14 _ _ _ _ h hp (lv_sub hl [] rfl)
    · refine lv_aload_n C.1 C.2.1 dX2_perform_159 rfl (lv_at hl 0 rfl) ?_
      refine lv_iload_n C.1 C.2.1 dX2_perform_160 rfl (lv_at hl 2 rfl) ?_
      refine lv_iload_n C.1 C.2.1 dX2_perform_161 rfl (lv_at hl 3 rfl) ?_
      obtain ⟨x16, hr, h⟩ := bd_of h
      refine r_callVI (As := [.int (gI a2), .int (gI a3)]) (rest := []) C hl.1 hp (c_X2_canSeat l C.2.2.2.2.2.2.2.2.2.2.2 hr) gw_921 gw_769 gw_770 xk_65 xs_65 xc_2 cal_X2_canSeat rfl rfl (Nat.le_of_ble_eq_true rfl) ⟨Nat.le_of_ble_eq_true rfl, Nat.le_of_ble_eq_true rfl⟩ dX2_perform_162 (fun H locs hp => ?_)
      refine r_if_eq (tgt := 181) C h dX2_perform_165 (by decide) (fun h => ?_) (fun h => ?_)
      · exact hJ14 _ _ _ _ h hp (lv_sub hl [] rfl)
      · refine lv_aload_n C.1 C.2.1 dX2_perform_168 rfl (lv_at hl 0 rfl) ?_
        refine lv_iload_n C.1 C.2.1 dX2_perform_169 rfl (lv_at hl 2 rfl) ?_
        refine lv_iload_n C.1 C.2.1 dX2_perform_170 rfl (lv_at hl 3 rfl) ?_
        obtain ⟨x17, M18, hr, h⟩ := bW_of h
        refine r_callVI (As := [.int (gI a2), .int (gI a3)]) (rest := []) C hl.1 hp (c_X2_seatStep l C.2.2.2.2.2.2.2.2.2.2.2 hr) gw_922 gw_773 gw_774 xk_65 xs_65 xc_2 cal_X2_seatStep rfl rfl (Nat.le_of_ble_eq_true rfl) ⟨Nat.le_of_ble_eq_true rfl, Nat.le_of_ble_eq_true rfl⟩ dX2_perform_171 (fun H locs hp => ?_)
        refine r_if_eq (tgt := 181) C h dX2_perform_174 (by decide) (fun h => ?_) (fun h => ?_)
        · exact hJ14 _ _ _ _ h hp (lv_sub hl [] rfl)
        · refine r_iconst C dX2_perform_177 ?_
          refine r_goto (tgt := 182) C dX2_perform_178 (by decide) ?_
          cases h
          exact hR _ _ _ _ dX2_perform_182 g_nz1 hp
  refine r_ite h (fun hv h => ?_) (fun hv6 h => ?_)
  · refine r_tswIn (tgt := 183) (v := 6) C hv dX2_perform_1 (by decide) rfl (by decide) ?_
    refine r_jn (P := fun J => ∀ (M24 : g_M) (H : Heap) (locs : List Loc) (ls : Array Slot), J M24 = some res → g_PT xG V M24 s H locs → lv_has ls 6 [] → W p l e R s m args below meth c H locs 0 0 Q (F0 m 205 ls [])) h ?_ (fun J20 hJ20 h => ?_)
    · intro M24 H locs ls h hp hl
      refine r_iconst C dX2_perform_205 ?_
      cases h
      exact hR _ _ _ _ dX2_perform_206 g_nz0 hp
    refine lv_aload_n C.1 C.2.1 dX2_perform_183 rfl (lv_at hl 0 rfl) ?_
    refine lv_iload_n C.1 C.2.1 dX2_perform_184 rfl (lv_at hl 2 rfl) ?_
    refine lv_iload_n C.1 C.2.1 dX2_perform_185 rfl (lv_at hl 3 rfl) ?_
    obtain ⟨x21, hr, h⟩ := bd_of h
    refine r_callVI (As := [.int (gI a2), .int (gI a3)]) (rest := []) C hl.1 hp (c_X2_canCall l C.2.2.2.2.2.2.2.2.2.2.2 hr) gw_923 gw_786 gw_787 xk_65 xs_65 xc_2 cal_X2_canCall rfl rfl (Nat.le_of_ble_eq_true rfl) ⟨Nat.le_of_ble_eq_true rfl, Nat.le_of_ble_eq_true rfl⟩ dX2_perform_186 (fun H locs hp => ?_)
    refine r_if_eq (tgt := 205) C h dX2_perform_189 (by decide) (fun h => ?_) (fun h => ?_)
    · exact hJ20 _ _ _ _ h hp (lv_sub hl [] rfl)
    · refine lv_aload_n C.1 C.2.1 dX2_perform_192 rfl (lv_at hl 0 rfl) ?_
      refine lv_iload_n C.1 C.2.1 dX2_perform_193 rfl (lv_at hl 2 rfl) ?_
      refine lv_iload_n C.1 C.2.1 dX2_perform_194 rfl (lv_at hl 3 rfl) ?_
      obtain ⟨x22, M23, hr, h⟩ := bW_of h
      refine r_callVI (As := [.int (gI a2), .int (gI a3)]) (rest := []) C hl.1 hp (c_X2_callStep l C.2.2.2.2.2.2.2.2.2.2.2 hr) gw_924 gw_796 gw_797 xk_65 xs_65 xc_2 cal_X2_callStep rfl rfl (Nat.le_of_ble_eq_true rfl) ⟨Nat.le_of_ble_eq_true rfl, Nat.le_of_ble_eq_true rfl⟩ dX2_perform_195 (fun H locs hp => ?_)
      refine r_if_eq (tgt := 205) C h dX2_perform_198 (by decide) (fun h => ?_) (fun h => ?_)
      · exact hJ20 _ _ _ _ h hp (lv_sub hl [] rfl)
      · refine r_iconst C dX2_perform_201 ?_
        refine r_goto (tgt := 206) C dX2_perform_202 (by decide) ?_
        cases h
        exact hR _ _ _ _ dX2_perform_206 g_nz1 hp
  refine r_ite h (fun hv h => ?_) (fun hv7 h => ?_)
  · refine r_tswIn (tgt := 207) (v := 7) C hv dX2_perform_1 (by decide) rfl (by decide) ?_
    refine r_jn (P := fun J => ∀ (M29 : g_M) (H : Heap) (locs : List Loc) (ls : Array Slot), J M29 = some res → g_PT xG V M29 s H locs → lv_has ls 6 [] → W p l e R s m args below meth c H locs 0 0 Q (F0 m 227 ls [])) h ?_ (fun J25 hJ25 h => ?_)
    · intro M29 H locs ls h hp hl
      refine r_iconst C dX2_perform_227 ?_
      cases h
      exact hR _ _ _ _ dX2_perform_228 g_nz0 hp
    refine lv_aload_n C.1 C.2.1 dX2_perform_207 rfl (lv_at hl 0 rfl) ?_
    refine lv_iload_n C.1 C.2.1 dX2_perform_208 rfl (lv_at hl 2 rfl) ?_
    obtain ⟨x26, hr, h⟩ := bd_of h
    refine r_callVI (As := [.int (gI a2)]) (rest := []) C hl.1 hp (c_X2_canMend l C.2.2.2.2.2.2.2.2.2.2.2 hr) gw_925 gw_804 gw_805 xk_65 xs_65 xc_2 cal_X2_canMend rfl rfl (Nat.le_of_ble_eq_true rfl) ⟨Nat.le_of_ble_eq_true rfl, Nat.le_of_ble_eq_true rfl⟩ dX2_perform_209 (fun H locs hp => ?_)
    refine r_if_eq (tgt := 227) C h dX2_perform_212 (by decide) (fun h => ?_) (fun h => ?_)
    · exact hJ25 _ _ _ _ h hp (lv_sub hl [] rfl)
    · refine lv_aload_n C.1 C.2.1 dX2_perform_215 rfl (lv_at hl 0 rfl) ?_
      refine lv_iload_n C.1 C.2.1 dX2_perform_216 rfl (lv_at hl 2 rfl) ?_
      obtain ⟨x27, M28, hr, h⟩ := bW_of h
      refine r_callVI (As := [.int (gI a2)]) (rest := []) C hl.1 hp (c_X2_mendStep l C.2.2.2.2.2.2.2.2.2.2.2 hr) gw_926 gw_808 gw_809 xk_65 xs_65 xc_2 cal_X2_mendStep rfl rfl (Nat.le_of_ble_eq_true rfl) ⟨Nat.le_of_ble_eq_true rfl, Nat.le_of_ble_eq_true rfl⟩ dX2_perform_217 (fun H locs hp => ?_)
      refine r_if_eq (tgt := 227) C h dX2_perform_220 (by decide) (fun h => ?_) (fun h => ?_)
      · exact hJ25 _ _ _ _ h hp (lv_sub hl [] rfl)
      · refine r_iconst C dX2_perform_223 ?_
        refine r_goto (tgt := 228) C dX2_perform_224 (by decide) ?_
        cases h
        exact hR _ _ _ _ dX2_perform_228 g_nz1 hp
  refine r_ite h (fun hv h => ?_) (fun hv8 h => ?_)
  · refine r_tswIn (tgt := 229) (v := 8) C hv dX2_perform_1 (by decide) rfl (by decide) ?_
    refine lv_aload_n C.1 C.2.1 dX2_perform_229 rfl (lv_at hl 0 rfl) ?_
    refine lv_iload_n C.1 C.2.1 dX2_perform_230 rfl (lv_at hl 2 rfl) ?_
    obtain ⟨x30, hr, h⟩ := bd_of h
    refine r_callVI (As := [.int (gI a2)]) (rest := []) C hl.1 hp (c_X2_possible l C.2.2.2.2.2.2.2.2.2.2.2 hr) gw_927 gw_816 gw_817 xk_65 xs_65 xc_2 cal_X2_possible rfl rfl (Nat.le_of_ble_eq_true rfl) ⟨Nat.le_of_ble_eq_true rfl, Nat.le_of_ble_eq_true rfl⟩ dX2_perform_231 (fun H locs hp => ?_)
    refine r_istore (lv' := fun x31 => [(5, .int (gI x31)), (0, .ref (V.2.2 65)), (1, .int (gI a1)), (2, .int (gI a2)), (3, .int (gI a3)), (4, .int (gI a4))]) C h dX2_perform_234 hl (by decide) (fun _ => rfl) (fun x31 ls h hl => ?_)
    refine lv_aload_n C.1 C.2.1 dX2_perform_236 rfl (lv_at hl 1 rfl) ?_
    refine lv_iload C.1 C.2.1 dX2_perform_237 (lv_at hl 0 rfl) ?_
    obtain ⟨x32, M33, hr, h⟩ := bW_of h
    refine r_callVI (As := [.int (gI x31)]) (rest := []) C hl.1 hp (c_X2_holdEvenings l C.2.2.2.2.2.2.2.2.2.2.2 hr) gw_928 gw_821 gw_822 xk_65 xs_65 xc_2 cal_X2_holdEvenings rfl rfl (Nat.le_of_ble_eq_true rfl) ⟨Nat.le_of_ble_eq_true rfl, Nat.le_of_ble_eq_true rfl⟩ dX2_perform_239 (fun H locs hp => ?_)
    refine lv_pop C.1 C.2.1 dX2_perform_242 rfl ?_
    refine lv_iload C.1 C.2.1 dX2_perform_243 (lv_at hl 0 rfl) ?_
    refine lv_iload_n C.1 C.2.1 dX2_perform_245 rfl (lv_at hl 3 rfl) ?_
    refine r_icmp_ne (tgt := 253) C h dX2_perform_246 (by decide) (fun h => ?_) (fun h => ?_)
    · refine r_iconst C dX2_perform_253 ?_
      cases h
      exact hR _ _ _ _ dX2_perform_254 g_nz0 hp
    · refine r_iconst C dX2_perform_249 ?_
      refine r_goto (tgt := 254) C dX2_perform_250 (by decide) ?_
      cases h
      exact hR _ _ _ _ dX2_perform_254 g_nz1 hp
  refine r_ite h (fun hv h => ?_) (fun hv24 h => ?_)
  · refine r_tswIn (tgt := 104) (v := 24) C hv dX2_perform_1 (by decide) rfl (by decide) ?_
    refine lv_aload_n C.1 C.2.1 dX2_perform_104 rfl (lv_at hl 0 rfl) ?_
    refine r_getr (t := 1) C hp xk_65 xs_65 xc_2 xin_2 (j := 0) (by decide) rfl gw_346 rfl dX2_perform_105 ?_
    refine lv_iload_n C.1 C.2.1 dX2_perform_108 rfl (lv_at hl 2 rfl) ?_
    refine lv_iload_n C.1 C.2.1 dX2_perform_109 rfl (lv_at hl 3 rfl) ?_
    refine lv_iload C.1 C.2.1 dX2_perform_110 (lv_at hl 4 rfl) ?_
    obtain ⟨M34, hr, h⟩ := bd_of h
    refine r_callVV (As := [.int (gI a2), .int (gI a3), .int (gI a4)]) (rest := []) C hl.1 hp (c_X1_tellNext l C.2.2.2.2.2.2.2.2.2.2.2 hr) gw_918 gw_473 gw_474 xk_1 xs_1 xc_1 cal_X1_tellNext rfl rfl (Nat.le_of_ble_eq_true rfl) ⟨Nat.le_of_ble_eq_true rfl, Nat.le_of_ble_eq_true rfl⟩ dX2_perform_112 (fun H locs hp => ?_)
    refine r_iconst C dX2_perform_115 ?_
    cases h
    exact hR _ _ _ _ dX2_perform_116 g_nz1 hp
  have hd : W p l e R s m args below meth c H locs 0 0 Q (F0 m 255 ls []) := by
    refine r_iconst C dX2_perform_255 ?_
    cases h
    exact hR _ _ _ _ dX2_perform_256 g_nz1 hp
  have hz : gs a1 < 3 ∨ 24 < gs a1 ∨ gs a1 = 9 ∨ gs a1 = 10 ∨ gs a1 = 11 ∨ gs a1 = 12 ∨ gs a1 = 13 ∨ gs a1 = 14 ∨ gs a1 = 15 ∨ gs a1 = 16 ∨ gs a1 = 17 ∨ gs a1 = 18 ∨ gs a1 = 19 ∨ gs a1 = 20 ∨ gs a1 = 21 ∨ gs a1 = 22 ∨ gs a1 = 23 := by omega
  rcases hz with hz | hz | hz | hz | hz | hz | hz | hz | hz | hz | hz | hz | hz | hz | hz | hz | hz
  · exact r_tswOut (tgt := 255) C dX2_perform_1 (Or.inl hz) (by decide) hd
  · exact r_tswOut (tgt := 255) C dX2_perform_1 (Or.inr hz) (by decide) hd
  · exact r_tswIn (tgt := 255) (v := 9) C hz dX2_perform_1 (by decide) rfl (by decide) hd
  · exact r_tswIn (tgt := 255) (v := 10) C hz dX2_perform_1 (by decide) rfl (by decide) hd
  · exact r_tswIn (tgt := 255) (v := 11) C hz dX2_perform_1 (by decide) rfl (by decide) hd
  · exact r_tswIn (tgt := 255) (v := 12) C hz dX2_perform_1 (by decide) rfl (by decide) hd
  · exact r_tswIn (tgt := 255) (v := 13) C hz dX2_perform_1 (by decide) rfl (by decide) hd
  · exact r_tswIn (tgt := 255) (v := 14) C hz dX2_perform_1 (by decide) rfl (by decide) hd
  · exact r_tswIn (tgt := 255) (v := 15) C hz dX2_perform_1 (by decide) rfl (by decide) hd
  · exact r_tswIn (tgt := 255) (v := 16) C hz dX2_perform_1 (by decide) rfl (by decide) hd
  · exact r_tswIn (tgt := 255) (v := 17) C hz dX2_perform_1 (by decide) rfl (by decide) hd
  · exact r_tswIn (tgt := 255) (v := 18) C hz dX2_perform_1 (by decide) rfl (by decide) hd
  · exact r_tswIn (tgt := 255) (v := 19) C hz dX2_perform_1 (by decide) rfl (by decide) hd
  · exact r_tswIn (tgt := 255) (v := 20) C hz dX2_perform_1 (by decide) rfl (by decide) hd
  · exact r_tswIn (tgt := 255) (v := 21) C hz dX2_perform_1 (by decide) rfl (by decide) hd
  · exact r_tswIn (tgt := 255) (v := 22) C hz dX2_perform_1 (by decide) rfl (by decide) hd
  · exact r_tswIn (tgt := 255) (v := 23) C hz dX2_perform_1 (by decide) rfl (by decide) hd
theorem c_X2_perform (l : Launch) {V : g_V} (hok : g_ok xG V) {a1 : Int} {a2 : Int} {a3 : Int} {a4 : Int} {M : g_M} {x : Int} {M2 : g_M} (h : m_X2_perform a1 a2 a3 a4 M = some (x, M2)) : MetI xG V l yX2_perform cX2_perform 6 (some .boolean) 6 149 [.ref (V.2.2 65), .int (gI a1), .int (gI a2), .int (gI a3), .int (gI a4)] M x M2 :=
  g_metI hok cal_X2_perform.2.2.2 rfl (Nat.le_of_ble_eq_true rfl) (@fun p e R s m args below meth c Q ls C hR hp hl => b_X2_perform C hR h hp hl)
set_option maxRecDepth 100000 in
set_option maxHeartbeats 4000000 in
theorem b_X2_passYear (C : g_CX xG V p R s m args meth c cX2_passYear 4 none RX2 5 126) {res : g_M} (hR : g_RetV xG V p l e R s m args below meth c Q cX2_passYear res) {a1 : Int} {M : g_M} {H : Heap} {locs : List Loc} {ls : Array Slot} (h : m_X2_passYear a1 M = some res) (hp : g_PT xG V M s H locs) (hl : lv_has ls 4 [(0, .ref (V.2.2 65)), (1, .int (gI a1))]) : W p l e R s m args below meth c H locs 0 0 Q (F0 m 0 ls []) := by
  unfold m_X2_passYear at h
  refine lv_aload_n C.1 C.2.1 dX2_passYear_0 rfl (lv_at hl 0 rfl) ?_
  refine r_getr (t := 1) C hp xk_65 xs_65 xc_2 xin_2 (j := 0) (by decide) rfl gw_346 rfl dX2_passYear_1 ?_
  refine r_getr (t := 2) C hp xk_1 xs_1 xc_1 xin_1 (j := 0) (by decide) rfl gw_145 rfl dX2_passYear_4 ?_
  refine lv_astore_n (lv' := [(2, .ref (V.2.2 2)), (0, .ref (V.2.2 65)), (1, .int (gI a1))]) C.1 C.2.1 dX2_passYear_7 rfl hl (by decide) rfl (fun ls hl => ?_)
  refine lv_iload_n C.1 C.2.1 dX2_passYear_8 rfl (lv_at hl 2 rfl) ?_
  refine r_bipush C dX2_passYear_9 (by decide +kernel) ?_
  refine r_irem C h dX2_passYear_11 (fun h => ?_)
  refine r_istore_n (lv' := fun x11 => [(3, .int (gI x11)), (2, .ref (V.2.2 2)), (0, .ref (V.2.2 65)), (1, .int (gI a1))]) C h dX2_passYear_12 rfl hl (by decide) (fun _ => rfl) (fun x11 ls h hl => ?_)
  refine lv_iload_n C.1 C.2.1 dX2_passYear_13 rfl (lv_at hl 3 rfl) ?_
  refine r_iconst C dX2_passYear_14 ?_
  refine r_irem C h dX2_passYear_15 (fun h => ?_)
  refine r_ite h (fun hv h => ?_) (fun hv0 h => ?_)
  · refine r_tswIn (tgt := 44) (v := 0) C hv dX2_passYear_16 (by decide) rfl (by decide) ?_
    refine lv_aload_n C.1 C.2.1 dX2_passYear_44 rfl (lv_at hl 2 rfl) ?_
    refine r_getr (t := 1) C hp xk_65 xs_65 xc_2 xin_2 (j := 0) (by decide) rfl gw_346 rfl dX2_passYear_45 ?_
    refine r_geti (t := 0) C hp xk_1 xs_1 xc_1 xin_1 (j := 7) (by decide) rfl gw_166 rfl dX2_passYear_48 ?_
    refine r_if_le (tgt := 132) C h dX2_passYear_51 (by decide) (fun h => ?_) (fun h => ?_)
    · cases h
      exact hR _ _ _ _ dX2_passYear_132 hp
    · refine lv_aload_n C.1 C.2.1 dX2_passYear_54 rfl (lv_at hl 1 rfl) ?_
      refine r_iconst C dX2_passYear_55 ?_
      refine lv_iload_n C.1 C.2.1 dX2_passYear_56 rfl (lv_at hl 3 rfl) ?_
      refine lv_aload_n C.1 C.2.1 dX2_passYear_57 rfl (lv_at hl 2 rfl) ?_
      refine r_getr (t := 1) C hp xk_65 xs_65 xc_2 xin_2 (j := 0) (by decide) rfl gw_346 rfl dX2_passYear_58 ?_
      refine r_geti (t := 0) C hp xk_1 xs_1 xc_1 xin_1 (j := 7) (by decide) rfl gw_166 rfl dX2_passYear_61 ?_
      refine r_irem C h dX2_passYear_64 (fun h => ?_)
      refine r_iadd C dX2_passYear_65 ?_
      refine lv_iload_n C.1 C.2.1 dX2_passYear_66 rfl (lv_at hl 3 rfl) ?_
      refine r_iconst C dX2_passYear_67 ?_
      refine r_idiv C h dX2_passYear_68 (fun h => ?_)
      refine r_bipush C dX2_passYear_69 (by decide +kernel) ?_
      refine r_irem C h dX2_passYear_71 (fun h => ?_)
      refine r_iast C hp h xk_2 xs_2 dX2_passYear_72 (fun M12 H locs h hp => ?_)
      refine r_goto (tgt := 132) C dX2_passYear_73 (by decide) ?_
      cases h
      exact hR _ _ _ _ dX2_passYear_132 hp
  refine r_ite h (fun hv h => ?_) (fun hv1 h => ?_)
  · refine r_tswIn (tgt := 76) (v := 1) C hv dX2_passYear_16 (by decide) rfl (by decide) ?_
    refine lv_aload_n C.1 C.2.1 dX2_passYear_76 rfl (lv_at hl 1 rfl) ?_
    refine r_bipush C dX2_passYear_77 (by decide +kernel) ?_
    refine lv_iload_n C.1 C.2.1 dX2_passYear_79 rfl (lv_at hl 0 rfl) ?_
    refine r_iadd C dX2_passYear_80 ?_
    refine lv_aload_n C.1 C.2.1 dX2_passYear_81 rfl (lv_at hl 2 rfl) ?_
    refine r_getr (t := 1) C hp xk_65 xs_65 xc_2 xin_2 (j := 0) (by decide) rfl gw_346 rfl dX2_passYear_82 ?_
    refine lv_iload_n C.1 C.2.1 dX2_passYear_85 rfl (lv_at hl 0 rfl) ?_
    refine r_iconst C dX2_passYear_86 ?_
    refine lv_iload_n C.1 C.2.1 dX2_passYear_87 rfl (lv_at hl 3 rfl) ?_
    refine r_iconst C dX2_passYear_88 ?_
    refine r_irem C h dX2_passYear_89 (fun h => ?_)
    refine r_iadd C dX2_passYear_90 ?_
    obtain ⟨x13, hr, h⟩ := bd_of h
    refine r_callVI (As := [.int (gI x11), .int (gI (1 + (g_rem a1 3)))]) (rest := [.int (gI (16 + x11)), .ref (V.2.2 2)]) C hl.1 hp (c_X1_after l C.2.2.2.2.2.2.2.2.2.2.2 hr) gw_789 gw_790 gw_791 xk_1 xs_1 xc_1 cal_X1_after rfl rfl (Nat.le_of_ble_eq_true rfl) ⟨Nat.le_of_ble_eq_true rfl, Nat.le_of_ble_eq_true rfl⟩ dX2_passYear_91 (fun H locs hp => ?_)
    refine r_iast C hp h xk_2 xs_2 dX2_passYear_94 (fun M14 H locs h hp => ?_)
    refine r_goto (tgt := 132) C dX2_passYear_95 (by decide) ?_
    cases h
    exact hR _ _ _ _ dX2_passYear_132 hp
  refine r_ite h (fun hv h => ?_) (fun hv2 h => ?_)
  · refine r_tswIn (tgt := 98) (v := 2) C hv dX2_passYear_16 (by decide) rfl (by decide) ?_
    refine lv_aload_n C.1 C.2.1 dX2_passYear_98 rfl (lv_at hl 1 rfl) ?_
    refine r_bipush C dX2_passYear_99 (by decide +kernel) ?_
    refine lv_iload_n C.1 C.2.1 dX2_passYear_101 rfl (lv_at hl 0 rfl) ?_
    refine r_iadd C dX2_passYear_102 ?_
    refine lv_aload_n C.1 C.2.1 dX2_passYear_103 rfl (lv_at hl 2 rfl) ?_
    refine r_getr (t := 1) C hp xk_65 xs_65 xc_2 xin_2 (j := 0) (by decide) rfl gw_346 rfl dX2_passYear_104 ?_
    refine r_getr (t := 4) C hp xk_1 xs_1 xc_1 xin_1 (j := 4) (by decide) rfl gw_153 rfl dX2_passYear_107 ?_
    refine lv_iload_n C.1 C.2.1 dX2_passYear_110 rfl (lv_at hl 0 rfl) ?_
    refine r_iconst C dX2_passYear_111 ?_
    refine r_imul C dX2_passYear_112 ?_
    refine r_iald C hp h xk_4 xs_4 dX2_passYear_113 (fun h => ?_)
    refine r_iast C hp h xk_2 xs_2 dX2_passYear_114 (fun M15 H locs h hp => ?_)
    refine r_goto (tgt := 132) C dX2_passYear_115 (by decide) ?_
    cases h
    exact hR _ _ _ _ dX2_passYear_132 hp
  have hd : W p l e R s m args below meth c H locs 0 0 Q (F0 m 118 ls []) := by
    refine lv_aload_n C.1 C.2.1 dX2_passYear_118 rfl (lv_at hl 2 rfl) ?_
    refine r_iconst C dX2_passYear_119 ?_
    obtain ⟨x16, hr, h⟩ := bd_of h
    refine r_callVI (As := [.int (gI 1)]) (rest := []) C hl.1 hp (c_X2_possible l C.2.2.2.2.2.2.2.2.2.2.2 hr) gw_927 gw_816 gw_817 xk_65 xs_65 xc_2 cal_X2_possible rfl rfl (Nat.le_of_ble_eq_true rfl) ⟨Nat.le_of_ble_eq_true rfl, Nat.le_of_ble_eq_true rfl⟩ dX2_passYear_120 (fun H locs hp => ?_)
    refine r_iconst C dX2_passYear_123 ?_
    refine r_icmp_ne (tgt := 132) C h dX2_passYear_124 (by decide) (fun h => ?_) (fun h => ?_)
    · cases h
      exact hR _ _ _ _ dX2_passYear_132 hp
    · refine lv_aload_n C.1 C.2.1 dX2_passYear_127 rfl (lv_at hl 2 rfl) ?_
      obtain ⟨x17, M18, hr, h⟩ := bW_of h
      refine r_callVI (As := []) (rest := []) C hl.1 hp (c_X2_holdEvening l C.2.2.2.2.2.2.2.2.2.2.2 hr) gw_824 gw_826 gw_20 xk_65 xs_65 xc_2 cal_X2_holdEvening rfl rfl (Nat.le_of_ble_eq_true rfl) ⟨Nat.le_of_ble_eq_true rfl, Nat.le_of_ble_eq_true rfl⟩ dX2_passYear_128 (fun H locs hp => ?_)
      refine lv_pop C.1 C.2.1 dX2_passYear_131 rfl ?_
      cases h
      exact hR _ _ _ _ dX2_passYear_132 hp
  exact r_tswOut (tgt := 118) C dX2_passYear_16 (by omega) (by decide) hd
theorem c_X2_passYear (l : Launch) {V : g_V} (hok : g_ok xG V) {a1 : Int} {M : g_M} {res : g_M} (h : m_X2_passYear a1 M = some res) : MetV xG V l yX2_passYear cX2_passYear 4 none 5 126 [.ref (V.2.2 65), .int (gI a1)] M res :=
  g_metV hok cal_X2_passYear.2.2.2 rfl (Nat.le_of_ble_eq_true rfl) (@fun p e R s m args below meth c Q ls C hR hp hl => b_X2_passYear C hR h hp hl)
set_option maxRecDepth 100000 in
set_option maxHeartbeats 4000000 in
theorem w_X2_passYears_L26 (C : g_CX xG V p R s m args meth c cX2_passYears 5 none RX2 6 149) {res : g_M} (hR : g_RetV xG V p l e R s m args below meth c Q cX2_passYears res) (x14 : Int)   : ∀ (f : Nat) (x15 : Int) (M16 : g_M) (H : Heap) (locs : List Loc) (ls : Array Slot), m_X2_passYears_L26 x14  f x15 M16 = some res → g_PT xG V M16 s H locs → lv_has ls 5 [(0, .ref (V.2.2 65)), (2, .int (gI x14)), (3, .int (gI x15))] → W p l e R s m args below meth c H locs 0 0 Q (F0 m 26 ls []) := by
  intro f
  induction f with
  | zero => intro x15 M16 H locs ls h hp hl; cases h
  | succ f ih =>
    intro x15 M16 H locs ls h hp hl
    rw [m_X2_passYears_L26] at h
    refine lv_iload_n C.1 C.2.1 dX2_passYears_26 rfl (lv_at hl 2 rfl) ?_
    refine lv_iload_n C.1 C.2.1 dX2_passYears_27 rfl (lv_at hl 1 rfl) ?_
    refine r_icmp_ge (tgt := 59) C h dX2_passYears_28 (by decide) (fun h => ?_) (fun h => ?_)
    · cases h
      exact hR _ _ _ _ dX2_passYears_59 hp
    · refine lv_aload_n C.1 C.2.1 dX2_passYears_31 rfl (lv_at hl 0 rfl) ?_
      refine r_getr (t := 1) C hp xk_65 xs_65 xc_2 xin_2 (j := 0) (by decide) rfl gw_346 rfl dX2_passYears_32 ?_
      refine r_getr (t := 2) C hp xk_1 xs_1 xc_1 xin_1 (j := 0) (by decide) rfl gw_145 rfl dX2_passYears_35 ?_
      refine r_bipush C dX2_passYears_38 (by decide +kernel) ?_
      refine r_iald C hp h xk_2 xs_2 dX2_passYears_40 (fun h => ?_)
      refine r_istore (lv' := fun x17 => [(4, .int (gI x17)), (0, .ref (V.2.2 65)), (2, .int (gI x14)), (3, .int (gI x15))]) C h dX2_passYears_41 hl (by decide) (fun _ => rfl) (fun x17 ls h hl => ?_)
      refine lv_aload_n C.1 C.2.1 dX2_passYears_43 rfl (lv_at hl 1 rfl) ?_
      obtain ⟨M18, hr, h⟩ := bd_of h
      refine r_callVV (As := []) (rest := []) C hl.1 hp (c_X2_drawAnew l C.2.2.2.2.2.2.2.2.2.2.2 hr) gw_855 gw_857 gw_22 xk_65 xs_65 xc_2 cal_X2_drawAnew rfl rfl (Nat.le_of_ble_eq_true rfl) ⟨Nat.le_of_ble_eq_true rfl, Nat.le_of_ble_eq_true rfl⟩ dX2_passYears_44 (fun H locs hp => ?_)
      refine lv_aload_n C.1 C.2.1 dX2_passYears_47 rfl (lv_at hl 1 rfl) ?_
      refine lv_iload C.1 C.2.1 dX2_passYears_48 (lv_at hl 0 rfl) ?_
      obtain ⟨M19, hr, h⟩ := bd_of h
      refine r_callVV (As := [.int (gI x17)]) (rest := []) C hl.1 hp (c_X2_passYear l C.2.2.2.2.2.2.2.2.2.2.2 hr) gw_937 gw_939 gw_27 xk_65 xs_65 xc_2 cal_X2_passYear rfl rfl (Nat.le_of_ble_eq_true rfl) ⟨Nat.le_of_ble_eq_true rfl, Nat.le_of_ble_eq_true rfl⟩ dX2_passYears_50 (fun H locs hp => ?_)
      refine r_iinc (lv' := fun x20 => [(3, .int (gI x20)), (4, .int (gI x17)), (0, .ref (V.2.2 65)), (2, .int (gI x14))]) C h dX2_passYears_53 hl (j := 3) rfl (by decide) (fun _ => rfl) (fun x20 ls h hl => ?_)
      refine r_goto (tgt := 26) C dX2_passYears_56 (by decide) ?_
      exact ih _ _ _ _ _ h hp (lv_sub hl [2, 3, 0] rfl)
set_option maxRecDepth 100000 in
set_option maxHeartbeats 4000000 in
theorem b_X2_passYears (C : g_CX xG V p R s m args meth c cX2_passYears 5 none RX2 6 149) {res : g_M} (hR : g_RetV xG V p l e R s m args below meth c Q cX2_passYears res) {a1 : Int} {a2 : Int} {M : g_M} {H : Heap} {locs : List Loc} {ls : Array Slot} (h : m_X2_passYears a1 a2 M = some res) (hp : g_PT xG V M s H locs) (hl : lv_has ls 5 [(0, .ref (V.2.2 65)), (1, .int (gI a1)), (2, .int (gI a2))]) : W p l e R s m args below meth c H locs 0 0 Q (F0 m 0 ls []) := by
  unfold m_X2_passYears at h
  refine lv_aload_n C.1 C.2.1 dX2_passYears_0 rfl (lv_at hl 0 rfl) ?_
  refine r_getr (t := 1) C hp xk_65 xs_65 xc_2 xin_2 (j := 0) (by decide) rfl gw_346 rfl dX2_passYears_1 ?_
  obtain ⟨M11, hr, h⟩ := bd_of h
  refine r_callVV (As := []) (rest := []) C hl.1 hp (c_X1_keepStep l C.2.2.2.2.2.2.2.2.2.2.2 hr) gw_776 gw_777 gw_778 xk_1 xs_1 xc_1 cal_X1_keepStep rfl rfl (Nat.le_of_ble_eq_true rfl) ⟨Nat.le_of_ble_eq_true rfl, Nat.le_of_ble_eq_true rfl⟩ dX2_passYears_4 (fun H locs hp => ?_)
  refine lv_aload_n C.1 C.2.1 dX2_passYears_7 rfl (lv_at hl 0 rfl) ?_
  refine r_getr (t := 1) C hp xk_65 xs_65 xc_2 xin_2 (j := 0) (by decide) rfl gw_346 rfl dX2_passYears_8 ?_
  refine r_getr (t := 2) C hp xk_1 xs_1 xc_1 xin_1 (j := 0) (by decide) rfl gw_145 rfl dX2_passYears_11 ?_
  refine r_bipush C dX2_passYears_14 (by decide +kernel) ?_
  refine lv_iload_n C.1 C.2.1 dX2_passYears_16 rfl (lv_at hl 1 rfl) ?_
  refine r_iconst C dX2_passYears_17 ?_
  refine r_imul C dX2_passYears_18 ?_
  refine r_sipush C dX2_passYears_19 (by decide +kernel) ?_
  refine r_iadd C dX2_passYears_22 ?_
  refine r_iast C hp h xk_2 xs_2 dX2_passYears_23 (fun M12 H locs h hp => ?_)
  refine r_iconst C dX2_passYears_24 ?_
  refine r_istore_n (lv' := fun x13 => [(3, .int (gI x13)), (0, .ref (V.2.2 65)), (1, .int (gI a1)), (2, .int (gI a2))]) C h dX2_passYears_25 rfl hl (by decide) (fun _ => rfl) (fun x13 ls h hl => ?_)
  refine w_X2_passYears_L26 C hR _ _ _ _ H locs ls h hp (lv_sub hl [1, 3, 0] rfl)
theorem c_X2_passYears (l : Launch) {V : g_V} (hok : g_ok xG V) {a1 : Int} {a2 : Int} {M : g_M} {res : g_M} (h : m_X2_passYears a1 a2 M = some res) : MetV xG V l yX2_passYears cX2_passYears 5 none 6 149 [.ref (V.2.2 65), .int (gI a1), .int (gI a2)] M res :=
  g_metV hok cal_X2_passYears.2.2.2 rfl (Nat.le_of_ble_eq_true rfl) (@fun p e R s m args below meth c Q ls C hR hp hl => b_X2_passYears C hR h hp hl)
set_option maxRecDepth 100000 in
set_option maxHeartbeats 4000000 in
theorem w_X2_foretell_L39 (C : g_CX xG V p R s m args meth c cX2_foretell 7 (some .int) RX2 5 126) {res : Int × g_M} (hR : g_RetI xG V p l e R s m args below meth c Q cX2_foretell .int res.1 res.2) (x18 : Int) (x19 : Int) (k24 : Int → Int → g_M → Option (Int × g_M)) (hk24 : ∀ (x30 : Int) (x31 : Int) (M32 : g_M) (H : Heap) (locs : List Loc) (ls : Array Slot), k24 x30 x31 M32 = some res → g_PT xG V M32 s H locs → lv_has ls 7 [(0, .ref (V.2.2 65)), (2, .int (gI x18)), (4, .int (gI x30)), (5, .int (gI x31))] → W p l e R s m args below meth c H locs 0 0 Q (F0 m 69 ls [])) : ∀ (f : Nat) (x20 : Int) (x21 : Int) (x22 : Int) (M23 : g_M) (H : Heap) (locs : List Loc) (ls : Array Slot), m_X2_foretell_L39 x18 x19 k24 f x20 x21 x22 M23 = some res → g_PT xG V M23 s H locs → lv_has ls 7 [(0, .ref (V.2.2 65)), (2, .int (gI x18)), (3, .int (gI x19)), (4, .int (gI x20)), (5, .int (gI x21)), (6, .int (gI x22))] → W p l e R s m args below meth c H locs 0 0 Q (F0 m 39 ls []) := by
  intro f
  induction f with
  | zero => intro x20 x21 x22 M23 H locs ls h hp hl; cases h
  | succ f ih =>
    intro x20 x21 x22 M23 H locs ls h hp hl
    rw [m_X2_foretell_L39] at h
    refine lv_iload C.1 C.2.1 dX2_foretell_39 (lv_at hl 5 rfl) ?_
    refine lv_iload_n C.1 C.2.1 dX2_foretell_41 rfl (lv_at hl 2 rfl) ?_
    refine r_icmp_ge (tgt := 69) C h dX2_foretell_42 (by decide) (fun h => ?_) (fun h => ?_)
    · exact hk24 _ _ _ _ _ _ h hp (lv_sub hl [0, 1, 3, 4] rfl)
    · refine lv_iload C.1 C.2.1 dX2_foretell_45 (lv_at hl 3 rfl) ?_
      refine lv_aload_n C.1 C.2.1 dX2_foretell_47 rfl (lv_at hl 0 rfl) ?_
      obtain ⟨x25, M26, hr, h⟩ := bW_of h
      refine r_callVI (As := []) (rest := [.int (gI x20)]) C hl.1 hp (c_X2_holdEvening l C.2.2.2.2.2.2.2.2.2.2.2 hr) gw_824 gw_826 gw_20 xk_65 xs_65 xc_2 cal_X2_holdEvening rfl rfl (Nat.le_of_ble_eq_true rfl) ⟨Nat.le_of_ble_eq_true rfl, Nat.le_of_ble_eq_true rfl⟩ dX2_foretell_48 (fun H locs hp => ?_)
      refine r_iadd C dX2_foretell_51 ?_
      refine r_istore (lv' := fun x27 => [(4, .int (gI x27)), (0, .ref (V.2.2 65)), (2, .int (gI x18)), (3, .int (gI x19)), (5, .int (gI x21)), (6, .int (gI x22))]) C h dX2_foretell_52 hl (by decide) (fun _ => rfl) (fun x27 ls h hl => ?_)
      refine lv_iload C.1 C.2.1 dX2_foretell_54 (lv_at hl 4 rfl) ?_
      refine lv_aload_n C.1 C.2.1 dX2_foretell_56 rfl (lv_at hl 1 rfl) ?_
      refine r_geti (t := 0) C hp xk_65 xs_65 xc_2 xin_2 (j := 4) (by decide) rfl gw_350 rfl dX2_foretell_57 ?_
      refine r_iadd C dX2_foretell_60 ?_
      refine r_istore (lv' := fun x28 => [(5, .int (gI x28)), (4, .int (gI x27)), (0, .ref (V.2.2 65)), (2, .int (gI x18)), (3, .int (gI x19)), (6, .int (gI x22))]) C h dX2_foretell_61 hl (by decide) (fun _ => rfl) (fun x28 ls h hl => ?_)
      refine r_iinc (lv' := fun x29 => [(6, .int (gI x29)), (5, .int (gI x28)), (4, .int (gI x27)), (0, .ref (V.2.2 65)), (2, .int (gI x18)), (3, .int (gI x19))]) C h dX2_foretell_63 hl (j := 5) rfl (by decide) (fun _ => rfl) (fun x29 ls h hl => ?_)
      refine r_goto (tgt := 39) C dX2_foretell_66 (by decide) ?_
      exact ih _ _ _ _ _ _ _ h hp (lv_sub hl [3, 4, 5, 2, 1, 0] rfl)
set_option maxRecDepth 100000 in
set_option maxHeartbeats 4000000 in
theorem b_X2_foretell (C : g_CX xG V p R s m args meth c cX2_foretell 7 (some .int) RX2 5 126) {res : Int × g_M} (hR : g_RetI xG V p l e R s m args below meth c Q cX2_foretell .int res.1 res.2) {a1 : Int} {a2 : Int} {M : g_M} {H : Heap} {locs : List Loc} {ls : Array Slot} (h : m_X2_foretell a1 a2 M = some res) (hp : g_PT xG V M s H locs) (hl : lv_has ls 7 [(0, .ref (V.2.2 65)), (1, .int (gI a1)), (2, .int (gI a2))]) : W p l e R s m args below meth c H locs 0 0 Q (F0 m 0 ls []) := by
  unfold m_X2_foretell at h
  refine lv_aload_n C.1 C.2.1 dX2_foretell_0 rfl (lv_at hl 0 rfl) ?_
  refine r_getr (t := 1) C hp xk_65 xs_65 xc_2 xin_2 (j := 0) (by decide) rfl gw_346 rfl dX2_foretell_1 ?_
  refine r_getr (t := 2) C hp xk_1 xs_1 xc_1 xin_1 (j := 0) (by decide) rfl gw_145 rfl dX2_foretell_4 ?_
  refine r_iconst C dX2_foretell_7 ?_
  refine lv_aload_n C.1 C.2.1 dX2_foretell_8 rfl (lv_at hl 0 rfl) ?_
  refine r_getr (t := 66) C hp xk_65 xs_65 xc_2 xin_2 (j := 2) (by decide) rfl gw_348 rfl dX2_foretell_9 ?_
  refine r_iconst C dX2_foretell_12 ?_
  refine r_sipush C dX2_foretell_13 (by decide +kernel) ?_
  refine r_copyi C hl.1 hp h xk_2 xs_2 xk_66 xs_66 gw_983 gw_746 gw_745 gw_128 (Nat.le_of_ble_eq_true rfl) (Nat.le_of_ble_eq_true rfl) dX2_foretell_16 (fun M11 H locs h hp => ?_)
  refine lv_aload_n C.1 C.2.1 dX2_foretell_19 rfl (lv_at hl 0 rfl) ?_
  refine lv_iload_n C.1 C.2.1 dX2_foretell_20 rfl (lv_at hl 1 rfl) ?_
  obtain ⟨x12, hr, h⟩ := bd_of h
  refine r_callVI (As := [.int (gI a1)]) (rest := []) C hl.1 hp (c_X2_possible l C.2.2.2.2.2.2.2.2.2.2.2 hr) gw_927 gw_816 gw_817 xk_65 xs_65 xc_2 cal_X2_possible rfl rfl (Nat.le_of_ble_eq_true rfl) ⟨Nat.le_of_ble_eq_true rfl, Nat.le_of_ble_eq_true rfl⟩ dX2_foretell_21 (fun H locs hp => ?_)
  refine r_istore_n (lv' := fun x13 => [(3, .int (gI x13)), (0, .ref (V.2.2 65)), (1, .int (gI a1)), (2, .int (gI a2))]) C h dX2_foretell_24 rfl hl (by decide) (fun _ => rfl) (fun x13 ls h hl => ?_)
  refine r_iconst C dX2_foretell_25 ?_
  refine r_istore (lv' := fun x14 => [(4, .int (gI x14)), (3, .int (gI x13)), (0, .ref (V.2.2 65)), (1, .int (gI a1)), (2, .int (gI a2))]) C h dX2_foretell_26 hl (by decide) (fun _ => rfl) (fun x14 ls h hl => ?_)
  refine r_iconst C dX2_foretell_28 ?_
  refine r_istore (lv' := fun x15 => [(5, .int (gI x15)), (4, .int (gI x14)), (3, .int (gI x13)), (0, .ref (V.2.2 65)), (1, .int (gI a1)), (2, .int (gI a2))]) C h dX2_foretell_29 hl (by decide) (fun _ => rfl) (fun x15 ls h hl => ?_)
  refine lv_aload_n C.1 C.2.1 dX2_foretell_31 rfl (lv_at hl 3 rfl) ?_
  refine r_iconst C dX2_foretell_32 ?_
  refine r_puti C hp h xk_65 xs_65 xc_2 xin_2 tyX2 tyX2_ok nmX2 (j := 3) (by decide) rfl gw_349 rfl rfl rfl dX2_foretell_33 (fun M16 H locs h hp => ?_)
  refine r_iconst C dX2_foretell_36 ?_
  refine r_istore (lv' := fun x17 => [(6, .int (gI x17)), (5, .int (gI x15)), (4, .int (gI x14)), (3, .int (gI x13)), (0, .ref (V.2.2 65)), (1, .int (gI a1)), (2, .int (gI a2))]) C h dX2_foretell_37 hl (by decide) (fun _ => rfl) (fun x17 ls h hl => ?_)
  refine w_X2_foretell_L39 C hR _ _ _ ?_ _ _ _ _ _ H locs ls h hp (lv_sub hl [4, 6, 3, 2, 1, 0] rfl)
  · intro x33 x34 M35 H locs ls h hp hl
    refine lv_aload_n C.1 C.2.1 dX2_foretell_69 rfl (lv_at hl 0 rfl) ?_
    refine r_getr (t := 66) C hp xk_65 xs_65 xc_2 xin_2 (j := 2) (by decide) rfl gw_348 rfl dX2_foretell_70 ?_
    refine r_iconst C dX2_foretell_73 ?_
    refine lv_aload_n C.1 C.2.1 dX2_foretell_74 rfl (lv_at hl 0 rfl) ?_
    refine r_getr (t := 1) C hp xk_65 xs_65 xc_2 xin_2 (j := 0) (by decide) rfl gw_346 rfl dX2_foretell_75 ?_
    refine r_getr (t := 2) C hp xk_1 xs_1 xc_1 xin_1 (j := 0) (by decide) rfl gw_145 rfl dX2_foretell_78 ?_
    refine r_iconst C dX2_foretell_81 ?_
    refine r_sipush C dX2_foretell_82 (by decide +kernel) ?_
    refine r_copyi C hl.1 hp h xk_66 xs_66 xk_2 xs_2 gw_983 gw_746 gw_745 gw_128 (Nat.le_of_ble_eq_true rfl) (Nat.le_of_ble_eq_true rfl) dX2_foretell_85 (fun M36 H locs h hp => ?_)
    refine lv_iload_n C.1 C.2.1 dX2_foretell_88 rfl (lv_at hl 1 rfl) ?_
    refine r_if_ne (tgt := 95) C h dX2_foretell_89 (by decide) (fun h => ?_) (fun h => ?_)
    · refine lv_iload_n C.1 C.2.1 dX2_foretell_95 rfl (lv_at hl 1 rfl) ?_
      refine r_iconst C dX2_foretell_96 ?_
      refine r_icmp_ne (tgt := 107) C h dX2_foretell_97 (by decide) (fun h => ?_) (fun h => ?_)
      · refine lv_iload C.1 C.2.1 dX2_foretell_107 (lv_at hl 3 rfl) ?_
        cases h
        exact hR _ _ _ _ dX2_foretell_109 rfl hp
      · refine lv_aload_n C.1 C.2.1 dX2_foretell_100 rfl (lv_at hl 0 rfl) ?_
        refine r_geti (t := 0) C hp xk_65 xs_65 xc_2 xin_2 (j := 3) (by decide) rfl gw_349 rfl dX2_foretell_101 ?_
        refine r_goto (tgt := 109) C dX2_foretell_104 (by decide) ?_
        cases h
        exact hR _ _ _ _ dX2_foretell_109 rfl hp
    · refine lv_iload C.1 C.2.1 dX2_foretell_92 (lv_at hl 2 rfl) ?_
      cases h
      exact hR _ _ _ _ dX2_foretell_94 rfl hp
theorem c_X2_foretell (l : Launch) {V : g_V} (hok : g_ok xG V) {a1 : Int} {a2 : Int} {M : g_M} {x : Int} {M2 : g_M} (h : m_X2_foretell a1 a2 M = some (x, M2)) : MetI xG V l yX2_foretell cX2_foretell 7 (some .int) 5 126 [.ref (V.2.2 65), .int (gI a1), .int (gI a2)] M x M2 :=
  g_metI hok cal_X2_foretell.2.2.2 rfl (Nat.le_of_ble_eq_true rfl) (@fun p e R s m args below meth c Q ls C hR hp hl => b_X2_foretell C hR h hp hl)
end
