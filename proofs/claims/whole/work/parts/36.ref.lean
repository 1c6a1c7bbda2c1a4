theorem dX9_layPlay_0 : decode cX9_layPlay 0 = .ok (.iconst 0, 1) := by decide +kernel
theorem dX9_layPlay_1 : decode cX9_layPlay 1 = .ok (.istore_n 1, 1) := by decide +kernel
theorem dX9_layPlay_2 : decode cX9_layPlay 2 = .ok (.iload_n 1, 1) := by decide +kernel
theorem dX9_layPlay_3 : decode cX9_layPlay 3 = .ok (.bipush 26, 2) := by decide +kernel
theorem dX9_layPlay_5 : decode cX9_layPlay 5 = .ok (.if_icmp .ge 31, 3) := by decide +kernel
theorem dX9_layPlay_8 : decode cX9_layPlay 8 = .ok (.aload_n 0, 1) := by decide +kernel
theorem dX9_layPlay_9 : decode cX9_layPlay 9 = .ok (.getfield 53, 3) := by decide +kernel
theorem dX9_layPlay_12 : decode cX9_layPlay 12 = .ok (.iload_n 1, 1) := by decide +kernel
theorem dX9_layPlay_13 : decode cX9_layPlay 13 = .ok (.iload_n 1, 1) := by decide +kernel
theorem dX9_layPlay_14 : decode cX9_layPlay 14 = .ok (.bipush 13, 2) := by decide +kernel
theorem dX9_layPlay_16 : decode cX9_layPlay 16 = .ok (.irem, 1) := by decide +kernel
theorem dX9_layPlay_17 : decode cX9_layPlay 17 = .ok (.bipush 12, 2) := by decide +kernel
theorem dX9_layPlay_19 : decode cX9_layPlay 19 = .ok (.if_icmp .ne 7, 3) := by decide +kernel
theorem dX9_layPlay_22 : decode cX9_layPlay 22 = .ok (.iconst 0, 1) := by decide +kernel
theorem dX9_layPlay_23 : decode cX9_layPlay 23 = .ok (.goto 6, 3) := by decide +kernel
theorem dX9_layPlay_26 : decode cX9_layPlay 26 = .ok (.ldc_w 418, 3) := by decide +kernel
theorem dX9_layPlay_29 : decode cX9_layPlay 29 = .ok (.iastore, 1) := by decide +kernel
theorem dX9_layPlay_30 : decode cX9_layPlay 30 = .ok (.iinc 1 1, 3) := by decide +kernel
theorem dX9_layPlay_33 : decode cX9_layPlay 33 = .ok (.goto (-31), 3) := by decide +kernel
theorem dX9_layPlay_36 : decode cX9_layPlay 36 = .ok (.iconst 1, 1) := by decide +kernel
theorem dX9_layPlay_37 : decode cX9_layPlay 37 = .ok (.istore_n 1, 1) := by decide +kernel
theorem dX9_layPlay_38 : decode cX9_layPlay 38 = .ok (.iload_n 1, 1) := by decide +kernel
theorem dX9_layPlay_39 : decode cX9_layPlay 39 = .ok (.bipush 26, 2) := by decide +kernel
theorem dX9_layPlay_41 : decode cX9_layPlay 41 = .ok (.if_icmp .gt 73, 3) := by decide +kernel
theorem dX9_layPlay_44 : decode cX9_layPlay 44 = .ok (.iconst 0, 1) := by decide +kernel
theorem dX9_layPlay_45 : decode cX9_layPlay 45 = .ok (.istore_n 2, 1) := by decide +kernel
theorem dX9_layPlay_46 : decode cX9_layPlay 46 = .ok (.iload_n 2, 1) := by decide +kernel
theorem dX9_layPlay_47 : decode cX9_layPlay 47 = .ok (.bipush 26, 2) := by decide +kernel
theorem dX9_layPlay_49 : decode cX9_layPlay 49 = .ok (.if_icmp .ge 59, 3) := by decide +kernel
theorem dX9_layPlay_52 : decode cX9_layPlay 52 = .ok (.aload_n 0, 1) := by decide +kernel
theorem dX9_layPlay_53 : decode cX9_layPlay 53 = .ok (.getfield 53, 3) := by decide +kernel
theorem dX9_layPlay_56 : decode cX9_layPlay 56 = .ok (.iload_n 2, 1) := by decide +kernel
theorem dX9_layPlay_57 : decode cX9_layPlay 57 = .ok (.iaload, 1) := by decide +kernel
theorem dX9_layPlay_58 : decode cX9_layPlay 58 = .ok (.ldc_w 418, 3) := by decide +kernel
theorem dX9_layPlay_61 : decode cX9_layPlay 61 = .ok (.if_icmp .eq 6, 3) := by decide +kernel
theorem dX9_layPlay_64 : decode cX9_layPlay 64 = .ok (.goto 38, 3) := by decide +kernel
theorem dX9_layPlay_67 : decode cX9_layPlay 67 = .ok (.iload_n 2, 1) := by decide +kernel
theorem dX9_layPlay_68 : decode cX9_layPlay 68 = .ok (.bipush 13, 2) := by decide +kernel
theorem dX9_layPlay_70 : decode cX9_layPlay 70 = .ok (.if_icmp .ge 11, 3) := by decide +kernel
theorem dX9_layPlay_73 : decode cX9_layPlay 73 = .ok (.aload_n 0, 1) := by decide +kernel
theorem dX9_layPlay_74 : decode cX9_layPlay 74 = .ok (.iload_n 2, 1) := by decide +kernel
theorem dX9_layPlay_75 : decode cX9_layPlay 75 = .ok (.invokevirtual 422, 3) := by decide +kernel
theorem dX9_layPlay_78 : decode cX9_layPlay 78 = .ok (.goto 11, 3) := by decide +kernel
theorem dX9_layPlay_81 : decode cX9_layPlay 81 = .ok (.aload_n 0, 1) := by decide +kernel
theorem dX9_layPlay_82 : decode cX9_layPlay 82 = .ok (.iload_n 2, 1) := by decide +kernel
theorem dX9_layPlay_83 : decode cX9_layPlay 83 = .ok (.bipush 13, 2) := by decide +kernel
theorem dX9_layPlay_85 : decode cX9_layPlay 85 = .ok (.isub, 1) := by decide +kernel
theorem dX9_layPlay_86 : decode cX9_layPlay 86 = .ok (.invokevirtual 425, 3) := by decide +kernel
theorem dX9_layPlay_89 : decode cX9_layPlay 89 = .ok (.istore_n 3, 1) := by decide +kernel
theorem dX9_layPlay_90 : decode cX9_layPlay 90 = .ok (.iload_n 3, 1) := by decide +kernel
theorem dX9_layPlay_91 : decode cX9_layPlay 91 = .ok (.iload_n 1, 1) := by decide +kernel
theorem dX9_layPlay_92 : decode cX9_layPlay 92 = .ok (.if_icmp .ne 10, 3) := by decide +kernel
theorem dX9_layPlay_95 : decode cX9_layPlay 95 = .ok (.aload_n 0, 1) := by decide +kernel
theorem dX9_layPlay_96 : decode cX9_layPlay 96 = .ok (.getfield 53, 3) := by decide +kernel
theorem dX9_layPlay_99 : decode cX9_layPlay 99 = .ok (.iload_n 2, 1) := by decide +kernel
theorem dX9_layPlay_100 : decode cX9_layPlay 100 = .ok (.iload_n 1, 1) := by decide +kernel
theorem dX9_layPlay_101 : decode cX9_layPlay 101 = .ok (.iastore, 1) := by decide +kernel
theorem dX9_layPlay_102 : decode cX9_layPlay 102 = .ok (.iinc 2 1, 3) := by decide +kernel
theorem dX9_layPlay_105 : decode cX9_layPlay 105 = .ok (.goto (-59), 3) := by decide +kernel
theorem dX9_layPlay_108 : decode cX9_layPlay 108 = .ok (.iinc 1 1, 3) := by decide +kernel
theorem dX9_layPlay_111 : decode cX9_layPlay 111 = .ok (.goto (-73), 3) := by decide +kernel
theorem dX9_layPlay_114 : decode cX9_layPlay 114 = .ok (.return_, 1) := by decide +kernel
theorem dX9_soonestFrom_0 : decode cX9_soonestFrom 0 = .ok (.ldc_w 418, 3) := by decide +kernel
theorem dX9_soonestFrom_3 : decode cX9_soonestFrom 3 = .ok (.istore_n 2, 1) := by decide +kernel
theorem dX9_soonestFrom_4 : decode cX9_soonestFrom 4 = .ok (.iconst 0, 1) := by decide +kernel
theorem dX9_soonestFrom_5 : decode cX9_soonestFrom 5 = .ok (.istore_n 3, 1) := by decide +kernel
theorem dX9_soonestFrom_6 : decode cX9_soonestFrom 6 = .ok (.iload_n 3, 1) := by decide +kernel
theorem dX9_soonestFrom_7 : decode cX9_soonestFrom 7 = .ok (.iconst 4, 1) := by decide +kernel
theorem dX9_soonestFrom_8 : decode cX9_soonestFrom 8 = .ok (.if_icmp .ge 46, 3) := by decide +kernel
theorem dX9_soonestFrom_11 : decode cX9_soonestFrom 11 = .ok (.aload_n 0, 1) := by decide +kernel
theorem dX9_soonestFrom_12 : decode cX9_soonestFrom 12 = .ok (.getfield 53, 3) := by decide +kernel
theorem dX9_soonestFrom_15 : decode cX9_soonestFrom 15 = .ok (.bipush 13, 2) := by decide +kernel
theorem dX9_soonestFrom_17 : decode cX9_soonestFrom 17 = .ok (.aload_n 0, 1) := by decide +kernel
theorem dX9_soonestFrom_18 : decode cX9_soonestFrom 18 = .ok (.iload_n 1, 1) := by decide +kernel
theorem dX9_soonestFrom_19 : decode cX9_soonestFrom 19 = .ok (.iload_n 3, 1) := by decide +kernel
theorem dX9_soonestFrom_20 : decode cX9_soonestFrom 20 = .ok (.invokevirtual 343, 3) := by decide +kernel
theorem dX9_soonestFrom_23 : decode cX9_soonestFrom 23 = .ok (.iadd, 1) := by decide +kernel
theorem dX9_soonestFrom_24 : decode cX9_soonestFrom 24 = .ok (.iaload, 1) := by decide +kernel
theorem dX9_soonestFrom_25 : decode cX9_soonestFrom 25 = .ok (.iload_n 2, 1) := by decide +kernel
theorem dX9_soonestFrom_26 : decode cX9_soonestFrom 26 = .ok (.if_icmp .ge 20, 3) := by decide +kernel
theorem dX9_soonestFrom_29 : decode cX9_soonestFrom 29 = .ok (.aload_n 0, 1) := by decide +kernel
theorem dX9_soonestFrom_30 : decode cX9_soonestFrom 30 = .ok (.getfield 53, 3) := by decide +kernel
theorem dX9_soonestFrom_33 : decode cX9_soonestFrom 33 = .ok (.bipush 13, 2) := by decide +kernel
theorem dX9_soonestFrom_35 : decode cX9_soonestFrom 35 = .ok (.aload_n 0, 1) := by decide +kernel
theorem dX9_soonestFrom_36 : decode cX9_soonestFrom 36 = .ok (.iload_n 1, 1) := by decide +kernel
theorem dX9_soonestFrom_37 : decode cX9_soonestFrom 37 = .ok (.iload_n 3, 1) := by decide +kernel
theorem dX9_soonestFrom_38 : decode cX9_soonestFrom 38 = .ok (.invokevirtual 343, 3) := by decide +kernel
theorem dX9_soonestFrom_41 : decode cX9_soonestFrom 41 = .ok (.iadd, 1) := by decide +kernel
theorem dX9_soonestFrom_42 : decode cX9_soonestFrom 42 = .ok (.iaload, 1) := by decide +kernel
theorem dX9_soonestFrom_43 : decode cX9_soonestFrom 43 = .ok (.goto 4, 3) := by decide +kernel
theorem dX9_soonestFrom_46 : decode cX9_soonestFrom 46 = .ok (.iload_n 2, 1) := by decide +kernel
theorem dX9_soonestFrom_47 : decode cX9_soonestFrom 47 = .ok (.istore_n 2, 1) := by decide +kernel
theorem dX9_soonestFrom_48 : decode cX9_soonestFrom 48 = .ok (.iinc 3 1, 3) := by decide +kernel
theorem dX9_soonestFrom_51 : decode cX9_soonestFrom 51 = .ok (.goto (-45), 3) := by decide +kernel
theorem dX9_soonestFrom_54 : decode cX9_soonestFrom 54 = .ok (.iload_n 2, 1) := by decide +kernel
theorem dX9_soonestFrom_55 : decode cX9_soonestFrom 55 = .ok (.ldc_w 418, 3) := by decide +kernel
theorem dX9_soonestFrom_58 : decode cX9_soonestFrom 58 = .ok (.if_icmp .ne 9, 3) := by decide +kernel
theorem dX9_soonestFrom_61 : decode cX9_soonestFrom 61 = .ok (.ldc_w 418, 3) := by decide +kernel
theorem dX9_soonestFrom_64 : decode cX9_soonestFrom 64 = .ok (.goto 6, 3) := by decide +kernel
theorem dX9_soonestFrom_67 : decode cX9_soonestFrom 67 = .ok (.iload_n 2, 1) := by decide +kernel
theorem dX9_soonestFrom_68 : decode cX9_soonestFrom 68 = .ok (.iconst 1, 1) := by decide +kernel
theorem dX9_soonestFrom_69 : decode cX9_soonestFrom 69 = .ok (.iadd, 1) := by decide +kernel
theorem dX9_soonestFrom_70 : decode cX9_soonestFrom 70 = .ok (.ireturn, 1) := by decide +kernel
theorem dX9_latestFrom_0 : decode cX9_latestFrom 0 = .ok (.iconst 0, 1) := by decide +kernel
theorem dX9_latestFrom_1 : decode cX9_latestFrom 1 = .ok (.istore_n 2, 1) := by decide +kernel
theorem dX9_latestFrom_2 : decode cX9_latestFrom 2 = .ok (.iconst 0, 1) := by decide +kernel
theorem dX9_latestFrom_3 : decode cX9_latestFrom 3 = .ok (.istore_n 3, 1) := by decide +kernel
theorem dX9_latestFrom_4 : decode cX9_latestFrom 4 = .ok (.iload_n 3, 1) := by decide +kernel
theorem dX9_latestFrom_5 : decode cX9_latestFrom 5 = .ok (.iconst 4, 1) := by decide +kernel
theorem dX9_latestFrom_6 : decode cX9_latestFrom 6 = .ok (.if_icmp .ge 40, 3) := by decide +kernel
theorem dX9_latestFrom_9 : decode cX9_latestFrom 9 = .ok (.aload_n 0, 1) := by decide +kernel
theorem dX9_latestFrom_10 : decode cX9_latestFrom 10 = .ok (.getfield 53, 3) := by decide +kernel
theorem dX9_latestFrom_13 : decode cX9_latestFrom 13 = .ok (.aload_n 0, 1) := by decide +kernel
theorem dX9_latestFrom_14 : decode cX9_latestFrom 14 = .ok (.iload_n 1, 1) := by decide +kernel
theorem dX9_latestFrom_15 : decode cX9_latestFrom 15 = .ok (.iload_n 3, 1) := by decide +kernel
theorem dX9_latestFrom_16 : decode cX9_latestFrom 16 = .ok (.invokevirtual 343, 3) := by decide +kernel
theorem dX9_latestFrom_19 : decode cX9_latestFrom 19 = .ok (.iaload, 1) := by decide +kernel
theorem dX9_latestFrom_20 : decode cX9_latestFrom 20 = .ok (.iload_n 2, 1) := by decide +kernel
theorem dX9_latestFrom_21 : decode cX9_latestFrom 21 = .ok (.if_icmp .le 17, 3) := by decide +kernel
theorem dX9_latestFrom_24 : decode cX9_latestFrom 24 = .ok (.aload_n 0, 1) := by decide +kernel
theorem dX9_latestFrom_25 : decode cX9_latestFrom 25 = .ok (.getfield 53, 3) := by decide +kernel
theorem dX9_latestFrom_28 : decode cX9_latestFrom 28 = .ok (.aload_n 0, 1) := by decide +kernel
theorem dX9_latestFrom_29 : decode cX9_latestFrom 29 = .ok (.iload_n 1, 1) := by decide +kernel
theorem dX9_latestFrom_30 : decode cX9_latestFrom 30 = .ok (.iload_n 3, 1) := by decide +kernel
theorem dX9_latestFrom_31 : decode cX9_latestFrom 31 = .ok (.invokevirtual 343, 3) := by decide +kernel
theorem dX9_latestFrom_34 : decode cX9_latestFrom 34 = .ok (.iaload, 1) := by decide +kernel
theorem dX9_latestFrom_35 : decode cX9_latestFrom 35 = .ok (.goto 4, 3) := by decide +kernel
theorem dX9_latestFrom_38 : decode cX9_latestFrom 38 = .ok (.iload_n 2, 1) := by decide +kernel
theorem dX9_latestFrom_39 : decode cX9_latestFrom 39 = .ok (.istore_n 2, 1) := by decide +kernel
theorem dX9_latestFrom_40 : decode cX9_latestFrom 40 = .ok (.iinc 3 1, 3) := by decide +kernel
theorem dX9_latestFrom_43 : decode cX9_latestFrom 43 = .ok (.goto (-39), 3) := by decide +kernel
theorem dX9_latestFrom_46 : decode cX9_latestFrom 46 = .ok (.iload_n 2, 1) := by decide +kernel
theorem dX9_latestFrom_47 : decode cX9_latestFrom 47 = .ok (.ldc_w 418, 3) := by decide +kernel
theorem dX9_latestFrom_50 : decode cX9_latestFrom 50 = .ok (.if_icmp .ne 9, 3) := by decide +kernel
theorem dX9_latestFrom_53 : decode cX9_latestFrom 53 = .ok (.ldc_w 418, 3) := by decide +kernel
theorem dX9_latestFrom_56 : decode cX9_latestFrom 56 = .ok (.goto 6, 3) := by decide +kernel
theorem dX9_latestFrom_59 : decode cX9_latestFrom 59 = .ok (.iload_n 2, 1) := by decide +kernel
theorem dX9_latestFrom_60 : decode cX9_latestFrom 60 = .ok (.iconst 1, 1) := by decide +kernel
theorem dX9_latestFrom_61 : decode cX9_latestFrom 61 = .ok (.iadd, 1) := by decide +kernel
theorem dX9_latestFrom_62 : decode cX9_latestFrom 62 = .ok (.ireturn, 1) := by decide +kernel
theorem dX9_soonest_0 : decode cX9_soonest 0 = .ok (.iload_n 1, 1) := by decide +kernel
theorem dX9_soonest_1 : decode cX9_soonest 1 = .ok (.invokestatic 93, 3) := by decide +kernel
theorem dX9_soonest_4 : decode cX9_soonest 4 = .ok (.ifCond .ne 6, 3) := by decide +kernel
theorem dX9_soonest_7 : decode cX9_soonest 7 = .ok (.bipush (-2), 2) := by decide +kernel
theorem dX9_soonest_9 : decode cX9_soonest 9 = .ok (.ireturn, 1) := by decide +kernel
theorem dX9_soonest_10 : decode cX9_soonest 10 = .ok (.aload_n 0, 1) := by decide +kernel
theorem dX9_soonest_11 : decode cX9_soonest 11 = .ok (.invokevirtual 428, 3) := by decide +kernel
theorem dX9_soonest_14 : decode cX9_soonest 14 = .ok (.aload_n 0, 1) := by decide +kernel
theorem dX9_soonest_15 : decode cX9_soonest 15 = .ok (.getfield 53, 3) := by decide +kernel
theorem dX9_soonest_18 : decode cX9_soonest 18 = .ok (.iload_n 2, 1) := by decide +kernel
theorem dX9_soonest_19 : decode cX9_soonest 19 = .ok (.ifCond .eq 7, 3) := by decide +kernel
theorem dX9_soonest_22 : decode cX9_soonest 22 = .ok (.iload_n 1, 1) := by decide +kernel
theorem dX9_soonest_23 : decode cX9_soonest 23 = .ok (.goto 7, 3) := by decide +kernel
theorem dX9_soonest_26 : decode cX9_soonest 26 = .ok (.bipush 13, 2) := by decide +kernel
theorem dX9_soonest_28 : decode cX9_soonest 28 = .ok (.iload_n 1, 1) := by decide +kernel
theorem dX9_soonest_29 : decode cX9_soonest 29 = .ok (.iadd, 1) := by decide +kernel
theorem dX9_soonest_30 : decode cX9_soonest 30 = .ok (.iaload, 1) := by decide +kernel
theorem dX9_soonest_31 : decode cX9_soonest 31 = .ok (.istore_n 3, 1) := by decide +kernel
theorem dX9_soonest_32 : decode cX9_soonest 32 = .ok (.iload_n 3, 1) := by decide +kernel
theorem dX9_soonest_33 : decode cX9_soonest 33 = .ok (.ldc_w 418, 3) := by decide +kernel
theorem dX9_soonest_36 : decode cX9_soonest 36 = .ok (.if_icmp .ne 7, 3) := by decide +kernel
theorem dX9_soonest_39 : decode cX9_soonest 39 = .ok (.iconst (-1), 1) := by decide +kernel
theorem dX9_soonest_40 : decode cX9_soonest 40 = .ok (.goto 4, 3) := by decide +kernel
theorem dX9_soonest_43 : decode cX9_soonest 43 = .ok (.iload_n 3, 1) := by decide +kernel
theorem dX9_soonest_44 : decode cX9_soonest 44 = .ok (.ireturn, 1) := by decide +kernel
theorem dX9_best_0 : decode cX9_best 0 = .ok (.iload_n 1, 1) := by decide +kernel
theorem dX9_best_1 : decode cX9_best 1 = .ok (.invokestatic 90, 3) := by decide +kernel
theorem dX9_best_4 : decode cX9_best 4 = .ok (.ifCond .ne 5, 3) := by decide +kernel
theorem dX9_best_7 : decode cX9_best 7 = .ok (.iconst (-1), 1) := by decide +kernel
theorem dX9_best_8 : decode cX9_best 8 = .ok (.ireturn, 1) := by decide +kernel
theorem dX9_best_9 : decode cX9_best 9 = .ok (.aload_n 0, 1) := by decide +kernel
theorem dX9_best_10 : decode cX9_best 10 = .ok (.invokevirtual 428, 3) := by decide +kernel
theorem dX9_best_13 : decode cX9_best 13 = .ok (.iload_n 2, 1) := by decide +kernel
theorem dX9_best_14 : decode cX9_best 14 = .ok (.ifCond .eq 17, 3) := by decide +kernel
theorem dX9_best_17 : decode cX9_best 17 = .ok (.aload_n 0, 1) := by decide +kernel
theorem dX9_best_18 : decode cX9_best 18 = .ok (.getfield 53, 3) := by decide +kernel
theorem dX9_best_21 : decode cX9_best 21 = .ok (.iload_n 1, 1) := by decide +kernel
theorem dX9_best_22 : decode cX9_best 22 = .ok (.iaload, 1) := by decide +kernel
theorem dX9_best_23 : decode cX9_best 23 = .ok (.ldc_w 418, 3) := by decide +kernel
theorem dX9_best_26 : decode cX9_best 26 = .ok (.if_icmp .ne 5, 3) := by decide +kernel
theorem dX9_best_29 : decode cX9_best 29 = .ok (.iconst (-1), 1) := by decide +kernel
theorem dX9_best_30 : decode cX9_best 30 = .ok (.ireturn, 1) := by decide +kernel
theorem dX9_best_31 : decode cX9_best 31 = .ok (.iconst 0, 1) := by decide +kernel
theorem dX9_best_32 : decode cX9_best 32 = .ok (.istore_n 3, 1) := by decide +kernel
theorem dX9_best_33 : decode cX9_best 33 = .ok (.iconst 1, 1) := by decide +kernel
theorem dX9_best_34 : decode cX9_best 34 = .ok (.istore 4, 2) := by decide +kernel
theorem dX9_best_36 : decode cX9_best 36 = .ok (.iload 4, 2) := by decide +kernel
theorem dX9_best_38 : decode cX9_best 38 = .ok (.iconst 4, 1) := by decide +kernel
theorem dX9_best_39 : decode cX9_best 39 = .ok (.if_icmp .ge 82, 3) := by decide +kernel
theorem dX9_best_42 : decode cX9_best 42 = .ok (.aload_n 0, 1) := by decide +kernel
theorem dX9_best_43 : decode cX9_best 43 = .ok (.getfield 53, 3) := by decide +kernel
theorem dX9_best_46 : decode cX9_best 46 = .ok (.iload_n 2, 1) := by decide +kernel
theorem dX9_best_47 : decode cX9_best 47 = .ok (.ifCond .eq 8, 3) := by decide +kernel
theorem dX9_best_50 : decode cX9_best 50 = .ok (.bipush 13, 2) := by decide +kernel
theorem dX9_best_52 : decode cX9_best 52 = .ok (.goto 4, 3) := by decide +kernel
theorem dX9_best_55 : decode cX9_best 55 = .ok (.iconst 0, 1) := by decide +kernel
theorem dX9_best_56 : decode cX9_best 56 = .ok (.aload_n 0, 1) := by decide +kernel
theorem dX9_best_57 : decode cX9_best 57 = .ok (.iload_n 1, 1) := by decide +kernel
theorem dX9_best_58 : decode cX9_best 58 = .ok (.iload 4, 2) := by decide +kernel
theorem dX9_best_60 : decode cX9_best 60 = .ok (.invokevirtual 343, 3) := by decide +kernel
theorem dX9_best_63 : decode cX9_best 63 = .ok (.iadd, 1) := by decide +kernel
theorem dX9_best_64 : decode cX9_best 64 = .ok (.iaload, 1) := by decide +kernel
theorem dX9_best_65 : decode cX9_best 65 = .ok (.istore 5, 2) := by decide +kernel
theorem dX9_best_67 : decode cX9_best 67 = .ok (.aload_n 0, 1) := by decide +kernel
theorem dX9_best_68 : decode cX9_best 68 = .ok (.getfield 53, 3) := by decide +kernel
theorem dX9_best_71 : decode cX9_best 71 = .ok (.iload_n 2, 1) := by decide +kernel
theorem dX9_best_72 : decode cX9_best 72 = .ok (.ifCond .eq 8, 3) := by decide +kernel
theorem dX9_best_75 : decode cX9_best 75 = .ok (.bipush 13, 2) := by decide +kernel
theorem dX9_best_77 : decode cX9_best 77 = .ok (.goto 4, 3) := by decide +kernel
theorem dX9_best_80 : decode cX9_best 80 = .ok (.iconst 0, 1) := by decide +kernel
theorem dX9_best_81 : decode cX9_best 81 = .ok (.aload_n 0, 1) := by decide +kernel
theorem dX9_best_82 : decode cX9_best 82 = .ok (.iload_n 1, 1) := by decide +kernel
theorem dX9_best_83 : decode cX9_best 83 = .ok (.iload_n 3, 1) := by decide +kernel
theorem dX9_best_84 : decode cX9_best 84 = .ok (.invokevirtual 343, 3) := by decide +kernel
theorem dX9_best_87 : decode cX9_best 87 = .ok (.iadd, 1) := by decide +kernel
theorem dX9_best_88 : decode cX9_best 88 = .ok (.iaload, 1) := by decide +kernel
theorem dX9_best_89 : decode cX9_best 89 = .ok (.istore 6, 2) := by decide +kernel
theorem dX9_best_91 : decode cX9_best 91 = .ok (.iload_n 2, 1) := by decide +kernel
theorem dX9_best_92 : decode cX9_best 92 = .ok (.ifCond .eq 13, 3) := by decide +kernel
theorem dX9_best_95 : decode cX9_best 95 = .ok (.iload 5, 2) := by decide +kernel
theorem dX9_best_97 : decode cX9_best 97 = .ok (.iload 6, 2) := by decide +kernel
theorem dX9_best_99 : decode cX9_best 99 = .ok (.if_icmp .ge 16, 3) := by decide +kernel
theorem dX9_best_102 : decode cX9_best 102 = .ok (.goto 10, 3) := by decide +kernel
theorem dX9_best_105 : decode cX9_best 105 = .ok (.iload 5, 2) := by decide +kernel
theorem dX9_best_107 : decode cX9_best 107 = .ok (.iload 6, 2) := by decide +kernel
theorem dX9_best_109 : decode cX9_best 109 = .ok (.if_icmp .le 6, 3) := by decide +kernel
theorem dX9_best_112 : decode cX9_best 112 = .ok (.iload 4, 2) := by decide +kernel
theorem dX9_best_114 : decode cX9_best 114 = .ok (.istore_n 3, 1) := by decide +kernel
theorem dX9_best_115 : decode cX9_best 115 = .ok (.iinc 4 1, 3) := by decide +kernel
theorem dX9_best_118 : decode cX9_best 118 = .ok (.goto (-82), 3) := by decide +kernel
theorem dX9_best_121 : decode cX9_best 121 = .ok (.iload_n 3, 1) := by decide +kernel
theorem dX9_best_122 : decode cX9_best 122 = .ok (.ireturn, 1) := by decide +kernel
theorem dX9_goOn_0 : decode cX9_goOn 0 = .ok (.iconst 0, 1) := by decide +kernel
theorem dX9_goOn_1 : decode cX9_goOn 1 = .ok (.istore_n 2, 1) := by decide +kernel
theorem dX9_goOn_2 : decode cX9_goOn 2 = .ok (.iload_n 2, 1) := by decide +kernel
theorem dX9_goOn_3 : decode cX9_goOn 3 = .ok (.bipush 13, 2) := by decide +kernel
theorem dX9_goOn_5 : decode cX9_goOn 5 = .ok (.if_icmp .ge 16, 3) := by decide +kernel
theorem dX9_goOn_8 : decode cX9_goOn 8 = .ok (.aload_n 0, 1) := by decide +kernel
theorem dX9_goOn_9 : decode cX9_goOn 9 = .ok (.getfield 59, 3) := by decide +kernel
theorem dX9_goOn_12 : decode cX9_goOn 12 = .ok (.iload_n 2, 1) := by decide +kernel
theorem dX9_goOn_13 : decode cX9_goOn 13 = .ok (.lconst 0, 1) := by decide +kernel
theorem dX9_goOn_14 : decode cX9_goOn 14 = .ok (.lastore, 1) := by decide +kernel
theorem dX9_goOn_15 : decode cX9_goOn 15 = .ok (.iinc 2 1, 3) := by decide +kernel
theorem dX9_goOn_18 : decode cX9_goOn 18 = .ok (.goto (-16), 3) := by decide +kernel
theorem dX9_goOn_21 : decode cX9_goOn 21 = .ok (.iconst 0, 1) := by decide +kernel
theorem dX9_goOn_22 : decode cX9_goOn 22 = .ok (.istore_n 2, 1) := by decide +kernel
theorem dX9_goOn_23 : decode cX9_goOn 23 = .ok (.iload_n 2, 1) := by decide +kernel
theorem dX9_goOn_24 : decode cX9_goOn 24 = .ok (.bipush 12, 2) := by decide +kernel
theorem dX9_goOn_26 : decode cX9_goOn 26 = .ok (.if_icmp .ge 62, 3) := by decide +kernel
theorem dX9_goOn_29 : decode cX9_goOn 29 = .ok (.iconst 0, 1) := by decide +kernel
theorem dX9_goOn_30 : decode cX9_goOn 30 = .ok (.istore_n 3, 1) := by decide +kernel
theorem dX9_goOn_31 : decode cX9_goOn 31 = .ok (.iload_n 3, 1) := by decide +kernel
theorem dX9_goOn_32 : decode cX9_goOn 32 = .ok (.iconst 4, 1) := by decide +kernel
theorem dX9_goOn_33 : decode cX9_goOn 33 = .ok (.if_icmp .ge 49, 3) := by decide +kernel
theorem dX9_goOn_36 : decode cX9_goOn 36 = .ok (.aload_n 0, 1) := by decide +kernel
theorem dX9_goOn_37 : decode cX9_goOn 37 = .ok (.getfield 59, 3) := by decide +kernel
theorem dX9_goOn_40 : decode cX9_goOn 40 = .ok (.aload_n 0, 1) := by decide +kernel
theorem dX9_goOn_41 : decode cX9_goOn 41 = .ok (.iload_n 2, 1) := by decide +kernel
theorem dX9_goOn_42 : decode cX9_goOn 42 = .ok (.iload_n 3, 1) := by decide +kernel
theorem dX9_goOn_43 : decode cX9_goOn 43 = .ok (.invokevirtual 343, 3) := by decide +kernel
theorem dX9_goOn_46 : decode cX9_goOn 46 = .ok (.dup2, 1) := by decide +kernel
theorem dX9_goOn_47 : decode cX9_goOn 47 = .ok (.laload, 1) := by decide +kernel
theorem dX9_goOn_48 : decode cX9_goOn 48 = .ok (.aload_n 0, 1) := by decide +kernel
theorem dX9_goOn_49 : decode cX9_goOn 49 = .ok (.getfield 56, 3) := by decide +kernel
theorem dX9_goOn_52 : decode cX9_goOn 52 = .ok (.iload_n 2, 1) := by decide +kernel
theorem dX9_goOn_53 : decode cX9_goOn 53 = .ok (.laload, 1) := by decide +kernel
theorem dX9_goOn_54 : decode cX9_goOn 54 = .ok (.iload_n 1, 1) := by decide +kernel
theorem dX9_goOn_55 : decode cX9_goOn 55 = .ok (.ifCond .eq 16, 3) := by decide +kernel
theorem dX9_goOn_58 : decode cX9_goOn 58 = .ok (.aload_n 0, 1) := by decide +kernel
theorem dX9_goOn_59 : decode cX9_goOn 59 = .ok (.getfield 7, 3) := by decide +kernel
theorem dX9_goOn_62 : decode cX9_goOn 62 = .ok (.sipush 138, 3) := by decide +kernel
theorem dX9_goOn_65 : decode cX9_goOn 65 = .ok (.iload_n 3, 1) := by decide +kernel
theorem dX9_goOn_66 : decode cX9_goOn 66 = .ok (.iadd, 1) := by decide +kernel
theorem dX9_goOn_67 : decode cX9_goOn 67 = .ok (.iaload, 1) := by decide +kernel
theorem dX9_goOn_68 : decode cX9_goOn 68 = .ok (.goto 4, 3) := by decide +kernel
theorem dX9_goOn_71 : decode cX9_goOn 71 = .ok (.iconst 1, 1) := by decide +kernel
theorem dX9_goOn_72 : decode cX9_goOn 72 = .ok (.i2l, 1) := by decide +kernel
theorem dX9_goOn_73 : decode cX9_goOn 73 = .ok (.lmul, 1) := by decide +kernel
theorem dX9_goOn_74 : decode cX9_goOn 74 = .ok (.ladd, 1) := by decide +kernel
theorem dX9_goOn_75 : decode cX9_goOn 75 = .ok (.lastore, 1) := by decide +kernel
theorem dX9_goOn_76 : decode cX9_goOn 76 = .ok (.iinc 3 1, 3) := by decide +kernel
theorem dX9_goOn_79 : decode cX9_goOn 79 = .ok (.goto (-48), 3) := by decide +kernel
theorem dX9_goOn_82 : decode cX9_goOn 82 = .ok (.iinc 2 1, 3) := by decide +kernel
theorem dX9_goOn_85 : decode cX9_goOn 85 = .ok (.goto (-62), 3) := by decide +kernel
theorem dX9_goOn_88 : decode cX9_goOn 88 = .ok (.iconst 0, 1) := by decide +kernel
theorem dX9_goOn_89 : decode cX9_goOn 89 = .ok (.istore_n 2, 1) := by decide +kernel
theorem dX9_goOn_90 : decode cX9_goOn 90 = .ok (.iload_n 2, 1) := by decide +kernel
theorem dX9_goOn_91 : decode cX9_goOn 91 = .ok (.bipush 12, 2) := by decide +kernel
theorem dX9_goOn_93 : decode cX9_goOn 93 = .ok (.if_icmp .ge 21, 3) := by decide +kernel
theorem dX9_goOn_96 : decode cX9_goOn 96 = .ok (.aload_n 0, 1) := by decide +kernel
theorem dX9_goOn_97 : decode cX9_goOn 97 = .ok (.getfield 56, 3) := by decide +kernel
theorem dX9_goOn_100 : decode cX9_goOn 100 = .ok (.iload_n 2, 1) := by decide +kernel
theorem dX9_goOn_101 : decode cX9_goOn 101 = .ok (.aload_n 0, 1) := by decide +kernel
theorem dX9_goOn_102 : decode cX9_goOn 102 = .ok (.getfield 59, 3) := by decide +kernel
theorem dX9_goOn_105 : decode cX9_goOn 105 = .ok (.iload_n 2, 1) := by decide +kernel
theorem dX9_goOn_106 : decode cX9_goOn 106 = .ok (.laload, 1) := by decide +kernel
theorem dX9_goOn_107 : decode cX9_goOn 107 = .ok (.lastore, 1) := by decide +kernel
theorem dX9_goOn_108 : decode cX9_goOn 108 = .ok (.iinc 2 1, 3) := by decide +kernel
theorem dX9_goOn_111 : decode cX9_goOn 111 = .ok (.goto (-21), 3) := by decide +kernel
theorem dX9_goOn_114 : decode cX9_goOn 114 = .ok (.aload_n 0, 1) := by decide +kernel
theorem dX9_goOn_115 : decode cX9_goOn 115 = .ok (.getfield 59, 3) := by decide +kernel
theorem dX9_goOn_118 : decode cX9_goOn 118 = .ok (.bipush 12, 2) := by decide +kernel
theorem dX9_goOn_120 : decode cX9_goOn 120 = .ok (.laload, 1) := by decide +kernel
theorem dX9_goOn_121 : decode cX9_goOn 121 = .ok (.lreturn, 1) := by decide +kernel
theorem dX9_beginAt_0 : decode cX9_beginAt 0 = .ok (.iconst 0, 1) := by decide +kernel
theorem dX9_beginAt_1 : decode cX9_beginAt 1 = .ok (.istore_n 2, 1) := by decide +kernel
theorem dX9_beginAt_2 : decode cX9_beginAt 2 = .ok (.iload_n 2, 1) := by decide +kernel
theorem dX9_beginAt_3 : decode cX9_beginAt 3 = .ok (.bipush 13, 2) := by decide +kernel
theorem dX9_beginAt_5 : decode cX9_beginAt 5 = .ok (.if_icmp .ge 25, 3) := by decide +kernel
theorem dX9_beginAt_8 : decode cX9_beginAt 8 = .ok (.aload_n 0, 1) := by decide +kernel
theorem dX9_beginAt_9 : decode cX9_beginAt 9 = .ok (.getfield 56, 3) := by decide +kernel
theorem dX9_beginAt_12 : decode cX9_beginAt 12 = .ok (.iload_n 2, 1) := by decide +kernel
theorem dX9_beginAt_13 : decode cX9_beginAt 13 = .ok (.iload_n 2, 1) := by decide +kernel
theorem dX9_beginAt_14 : decode cX9_beginAt 14 = .ok (.iload_n 1, 1) := by decide +kernel
theorem dX9_beginAt_15 : decode cX9_beginAt 15 = .ok (.if_icmp .ne 7, 3) := by decide +kernel
theorem dX9_beginAt_18 : decode cX9_beginAt 18 = .ok (.lconst 1, 1) := by decide +kernel
theorem dX9_beginAt_19 : decode cX9_beginAt 19 = .ok (.goto 4, 3) := by decide +kernel
theorem dX9_beginAt_22 : decode cX9_beginAt 22 = .ok (.lconst 0, 1) := by decide +kernel
theorem dX9_beginAt_23 : decode cX9_beginAt 23 = .ok (.lastore, 1) := by decide +kernel
theorem dX9_beginAt_24 : decode cX9_beginAt 24 = .ok (.iinc 2 1, 3) := by decide +kernel
theorem dX9_beginAt_27 : decode cX9_beginAt 27 = .ok (.goto (-25), 3) := by decide +kernel
theorem dX9_beginAt_30 : decode cX9_beginAt 30 = .ok (.return_, 1) := by decide +kernel
theorem dX9_divisor_0 : decode cX9_divisor 0 = .ok (.lload_n 0, 1) := by decide +kernel
theorem dX9_divisor_1 : decode cX9_divisor 1 = .ok (.lstore 4, 2) := by decide +kernel
theorem dX9_divisor_3 : decode cX9_divisor 3 = .ok (.lload_n 2, 1) := by decide +kernel
theorem dX9_divisor_4 : decode cX9_divisor 4 = .ok (.lstore 6, 2) := by decide +kernel
theorem dX9_divisor_6 : decode cX9_divisor 6 = .ok (.lload 6, 2) := by decide +kernel
theorem dX9_divisor_8 : decode cX9_divisor 8 = .ok (.lconst 0, 1) := by decide +kernel
theorem dX9_divisor_9 : decode cX9_divisor 9 = .ok (.lcmp, 1) := by decide +kernel
theorem dX9_divisor_10 : decode cX9_divisor 10 = .ok (.ifCond .eq 21, 3) := by decide +kernel
theorem dX9_divisor_13 : decode cX9_divisor 13 = .ok (.lload 4, 2) := by decide +kernel
theorem dX9_divisor_15 : decode cX9_divisor 15 = .ok (.lload 6, 2) := by decide +kernel
theorem dX9_divisor_17 : decode cX9_divisor 17 = .ok (.lrem, 1) := by decide +kernel
theorem dX9_divisor_18 : decode cX9_divisor 18 = .ok (.lstore 8, 2) := by decide +kernel
theorem dX9_divisor_20 : decode cX9_divisor 20 = .ok (.lload 6, 2) := by decide +kernel
theorem dX9_divisor_22 : decode cX9_divisor 22 = .ok (.lstore 4, 2) := by decide +kernel
theorem dX9_divisor_24 : decode cX9_divisor 24 = .ok (.lload 8, 2) := by decide +kernel
theorem dX9_divisor_26 : decode cX9_divisor 26 = .ok (.lstore 6, 2) := by decide +kernel
theorem dX9_divisor_28 : decode cX9_divisor 28 = .ok (.goto (-22), 3) := by decide +kernel
theorem dX9_divisor_31 : decode cX9_divisor 31 = .ok (.lload 4, 2) := by decide +kernel
theorem dX9_divisor_33 : decode cX9_divisor 33 = .ok (.lreturn, 1) := by decide +kernel
theorem dX9_odds_0 : decode cX9_odds 0 = .ok (.iload_n 1, 1) := by decide +kernel
theorem dX9_odds_1 : decode cX9_odds 1 = .ok (.invokestatic 93, 3) := by decide +kernel
theorem dX9_odds_4 : decode cX9_odds 4 = .ok (.ifCond .eq 13, 3) := by decide +kernel
theorem dX9_odds_7 : decode cX9_odds 7 = .ok (.iload_n 2, 1) := by decide +kernel
theorem dX9_odds_8 : decode cX9_odds 8 = .ok (.iconst 0, 1) := by decide +kernel
theorem dX9_odds_9 : decode cX9_odds 9 = .ok (.bipush 9, 2) := by decide +kernel
theorem dX9_odds_11 : decode cX9_odds 11 = .ok (.invokestatic 78, 3) := by decide +kernel
theorem dX9_odds_14 : decode cX9_odds 14 = .ok (.ifCond .ne 7, 3) := by decide +kernel
theorem dX9_odds_17 : decode cX9_odds 17 = .ok (.ldc2_w 431, 3) := by decide +kernel
theorem dX9_odds_20 : decode cX9_odds 20 = .ok (.lreturn, 1) := by decide +kernel
theorem dX9_odds_21 : decode cX9_odds 21 = .ok (.aload_n 0, 1) := by decide +kernel
theorem dX9_odds_22 : decode cX9_odds 22 = .ok (.iload_n 1, 1) := by decide +kernel
theorem dX9_odds_23 : decode cX9_odds 23 = .ok (.invokevirtual 433, 3) := by decide +kernel
theorem dX9_odds_26 : decode cX9_odds 26 = .ok (.aload_n 0, 1) := by decide +kernel
theorem dX9_odds_27 : decode cX9_odds 27 = .ok (.getfield 56, 3) := by decide +kernel
theorem dX9_odds_30 : decode cX9_odds 30 = .ok (.bipush 12, 2) := by decide +kernel
theorem dX9_odds_32 : decode cX9_odds 32 = .ok (.laload, 1) := by decide +kernel
theorem dX9_odds_33 : decode cX9_odds 33 = .ok (.lstore 4, 2) := by decide +kernel
theorem dX9_odds_35 : decode cX9_odds 35 = .ok (.lconst 1, 1) := by decide +kernel
theorem dX9_odds_36 : decode cX9_odds 36 = .ok (.lstore 6, 2) := by decide +kernel
theorem dX9_odds_38 : decode cX9_odds 38 = .ok (.iconst 0, 1) := by decide +kernel
theorem dX9_odds_39 : decode cX9_odds 39 = .ok (.istore 8, 2) := by decide +kernel
theorem dX9_odds_41 : decode cX9_odds 41 = .ok (.iload 8, 2) := by decide +kernel
theorem dX9_odds_43 : decode cX9_odds 43 = .ok (.iload_n 2, 1) := by decide +kernel
theorem dX9_odds_44 : decode cX9_odds 44 = .ok (.if_icmp .ge 31, 3) := by decide +kernel
theorem dX9_odds_47 : decode cX9_odds 47 = .ok (.ldc2_w 436, 3) := by decide +kernel
theorem dX9_odds_50 : decode cX9_odds 50 = .ok (.lload 4, 2) := by decide +kernel
theorem dX9_odds_52 : decode cX9_odds 52 = .ok (.lmul, 1) := by decide +kernel
theorem dX9_odds_53 : decode cX9_odds 53 = .ok (.aload_n 0, 1) := by decide +kernel
theorem dX9_odds_54 : decode cX9_odds 54 = .ok (.iconst 1, 1) := by decide +kernel
theorem dX9_odds_55 : decode cX9_odds 55 = .ok (.invokevirtual 438, 3) := by decide +kernel
theorem dX9_odds_58 : decode cX9_odds 58 = .ok (.ladd, 1) := by decide +kernel
theorem dX9_odds_59 : decode cX9_odds 59 = .ok (.lstore 4, 2) := by decide +kernel
theorem dX9_odds_61 : decode cX9_odds 61 = .ok (.lload 6, 2) := by decide +kernel
theorem dX9_odds_63 : decode cX9_odds 63 = .ok (.ldc2_w 436, 3) := by decide +kernel
theorem dX9_odds_66 : decode cX9_odds 66 = .ok (.lmul, 1) := by decide +kernel
theorem dX9_odds_67 : decode cX9_odds 67 = .ok (.lstore 6, 2) := by decide +kernel
theorem dX9_odds_69 : decode cX9_odds 69 = .ok (.iinc 8 1, 3) := by decide +kernel
theorem dX9_odds_72 : decode cX9_odds 72 = .ok (.goto (-31), 3) := by decide +kernel
theorem dX9_odds_75 : decode cX9_odds 75 = .ok (.iload_n 3, 1) := by decide +kernel
theorem dX9_odds_76 : decode cX9_odds 76 = .ok (.ifCond .eq 8, 3) := by decide +kernel
theorem dX9_odds_79 : decode cX9_odds 79 = .ok (.lload 6, 2) := by decide +kernel
theorem dX9_odds_81 : decode cX9_odds 81 = .ok (.goto 5, 3) := by decide +kernel
theorem dX9_odds_84 : decode cX9_odds 84 = .ok (.lload 4, 2) := by decide +kernel
theorem dX9_odds_86 : decode cX9_odds 86 = .ok (.lload 4, 2) := by decide +kernel
theorem dX9_odds_88 : decode cX9_odds 88 = .ok (.lload 6, 2) := by decide +kernel
theorem dX9_odds_90 : decode cX9_odds 90 = .ok (.invokestatic 442, 3) := by decide +kernel
theorem dX9_odds_93 : decode cX9_odds 93 = .ok (.ldiv, 1) := by decide +kernel
theorem dX9_odds_94 : decode cX9_odds 94 = .ok (.lreturn, 1) := by decide +kernel
theorem dX9_weigh_0 : decode cX9_weigh 0 = .ok (.iload_n 1, 1) := by decide +kernel
theorem dX9_weigh_1 : decode cX9_weigh 1 = .ok (.iconst 0, 1) := by decide +kernel
theorem dX9_weigh_2 : decode cX9_weigh 2 = .ok (.bipush 10, 2) := by decide +kernel
theorem dX9_weigh_4 : decode cX9_weigh 4 = .ok (.invokestatic 78, 3) := by decide +kernel
theorem dX9_weigh_7 : decode cX9_weigh 7 = .ok (.ifCond .eq 47, 3) := by decide +kernel
theorem dX9_weigh_10 : decode cX9_weigh 10 = .ok (.iload_n 2, 1) := by decide +kernel
theorem dX9_weigh_11 : decode cX9_weigh 11 = .ok (.iconst 0, 1) := by decide +kernel
theorem dX9_weigh_12 : decode cX9_weigh 12 = .ok (.bipush 10, 2) := by decide +kernel
theorem dX9_weigh_14 : decode cX9_weigh 14 = .ok (.invokestatic 78, 3) := by decide +kernel
theorem dX9_weigh_17 : decode cX9_weigh 17 = .ok (.ifCond .eq 37, 3) := by decide +kernel
theorem dX9_weigh_20 : decode cX9_weigh 20 = .ok (.iload_n 3, 1) := by decide +kernel
theorem dX9_weigh_21 : decode cX9_weigh 21 = .ok (.iconst 0, 1) := by decide +kernel
theorem dX9_weigh_22 : decode cX9_weigh 22 = .ok (.bipush 10, 2) := by decide +kernel
theorem dX9_weigh_24 : decode cX9_weigh 24 = .ok (.invokestatic 78, 3) := by decide +kernel
theorem dX9_weigh_27 : decode cX9_weigh 27 = .ok (.ifCond .eq 27, 3) := by decide +kernel
theorem dX9_weigh_30 : decode cX9_weigh 30 = .ok (.iload 4, 2) := by decide +kernel
theorem dX9_weigh_32 : decode cX9_weigh 32 = .ok (.iconst 0, 1) := by decide +kernel
theorem dX9_weigh_33 : decode cX9_weigh 33 = .ok (.bipush 10, 2) := by decide +kernel
theorem dX9_weigh_35 : decode cX9_weigh 35 = .ok (.invokestatic 78, 3) := by decide +kernel
theorem dX9_weigh_38 : decode cX9_weigh 38 = .ok (.ifCond .eq 16, 3) := by decide +kernel
theorem dX9_weigh_41 : decode cX9_weigh 41 = .ok (.iload_n 1, 1) := by decide +kernel
theorem dX9_weigh_42 : decode cX9_weigh 42 = .ok (.iload_n 2, 1) := by decide +kernel
theorem dX9_weigh_43 : decode cX9_weigh 43 = .ok (.iadd, 1) := by decide +kernel
theorem dX9_weigh_44 : decode cX9_weigh 44 = .ok (.iload_n 3, 1) := by decide +kernel
theorem dX9_weigh_45 : decode cX9_weigh 45 = .ok (.iadd, 1) := by decide +kernel
theorem dX9_weigh_46 : decode cX9_weigh 46 = .ok (.iload 4, 2) := by decide +kernel
theorem dX9_weigh_48 : decode cX9_weigh 48 = .ok (.iadd, 1) := by decide +kernel
theorem dX9_weigh_49 : decode cX9_weigh 49 = .ok (.bipush 10, 2) := by decide +kernel
theorem dX9_weigh_51 : decode cX9_weigh 51 = .ok (.if_icmp .eq 5, 3) := by decide +kernel
theorem dX9_weigh_54 : decode cX9_weigh 54 = .ok (.iconst 0, 1) := by decide +kernel
theorem dX9_weigh_55 : decode cX9_weigh 55 = .ok (.ireturn, 1) := by decide +kernel
theorem dX9_weigh_56 : decode cX9_weigh 56 = .ok (.aload_n 0, 1) := by decide +kernel
theorem dX9_weigh_57 : decode cX9_weigh 57 = .ok (.getfield 7, 3) := by decide +kernel
theorem dX9_weigh_60 : decode cX9_weigh 60 = .ok (.sipush 138, 3) := by decide +kernel
theorem dX9_weigh_63 : decode cX9_weigh 63 = .ok (.iload_n 1, 1) := by decide +kernel
theorem dX9_weigh_64 : decode cX9_weigh 64 = .ok (.iastore, 1) := by decide +kernel
theorem dX9_weigh_65 : decode cX9_weigh 65 = .ok (.aload_n 0, 1) := by decide +kernel
theorem dX9_weigh_66 : decode cX9_weigh 66 = .ok (.getfield 7, 3) := by decide +kernel
theorem dX9_weigh_69 : decode cX9_weigh 69 = .ok (.sipush 139, 3) := by decide +kernel
theorem dX9_weigh_72 : decode cX9_weigh 72 = .ok (.iload_n 2, 1) := by decide +kernel
theorem dX9_weigh_73 : decode cX9_weigh 73 = .ok (.iastore, 1) := by decide +kernel
theorem dX9_weigh_74 : decode cX9_weigh 74 = .ok (.aload_n 0, 1) := by decide +kernel
theorem dX9_weigh_75 : decode cX9_weigh 75 = .ok (.getfield 7, 3) := by decide +kernel
theorem dX9_weigh_78 : decode cX9_weigh 78 = .ok (.sipush 140, 3) := by decide +kernel
theorem dX9_weigh_81 : decode cX9_weigh 81 = .ok (.iload_n 3, 1) := by decide +kernel
theorem dX9_weigh_82 : decode cX9_weigh 82 = .ok (.iastore, 1) := by decide +kernel
theorem dX9_weigh_83 : decode cX9_weigh 83 = .ok (.aload_n 0, 1) := by decide +kernel
theorem dX9_weigh_84 : decode cX9_weigh 84 = .ok (.getfield 7, 3) := by decide +kernel
theorem dX9_weigh_87 : decode cX9_weigh 87 = .ok (.sipush 141, 3) := by decide +kernel
theorem dX9_weigh_90 : decode cX9_weigh 90 = .ok (.iload 4, 2) := by decide +kernel
theorem dX9_weigh_92 : decode cX9_weigh 92 = .ok (.iastore, 1) := by decide +kernel
theorem dX9_weigh_93 : decode cX9_weigh 93 = .ok (.iconst 1, 1) := by decide +kernel
theorem dX9_weigh_94 : decode cX9_weigh 94 = .ok (.ireturn, 1) := by decide +kernel
theorem dX9_ways_0 : decode cX9_ways 0 = .ok (.iload_n 1, 1) := by decide +kernel
theorem dX9_ways_1 : decode cX9_ways 1 = .ok (.invokestatic 93, 3) := by decide +kernel
theorem dX9_ways_4 : decode cX9_ways 4 = .ok (.ifCond .eq 13, 3) := by decide +kernel
theorem dX9_ways_7 : decode cX9_ways 7 = .ok (.iload_n 2, 1) := by decide +kernel
theorem dX9_ways_8 : decode cX9_ways 8 = .ok (.iconst 0, 1) := by decide +kernel
theorem dX9_ways_9 : decode cX9_ways 9 = .ok (.bipush 12, 2) := by decide +kernel
theorem dX9_ways_11 : decode cX9_ways 11 = .ok (.invokestatic 78, 3) := by decide +kernel
theorem dX9_ways_14 : decode cX9_ways 14 = .ok (.ifCond .ne 7, 3) := by decide +kernel
theorem dX9_ways_17 : decode cX9_ways 17 = .ok (.ldc2_w 431, 3) := by decide +kernel
theorem dX9_ways_20 : decode cX9_ways 20 = .ok (.lreturn, 1) := by decide +kernel
theorem dX9_ways_21 : decode cX9_ways 21 = .ok (.aload_n 0, 1) := by decide +kernel
theorem dX9_ways_22 : decode cX9_ways 22 = .ok (.iload_n 1, 1) := by decide +kernel
theorem dX9_ways_23 : decode cX9_ways 23 = .ok (.invokevirtual 433, 3) := by decide +kernel
theorem dX9_ways_26 : decode cX9_ways 26 = .ok (.aload_n 0, 1) := by decide +kernel
theorem dX9_ways_27 : decode cX9_ways 27 = .ok (.getfield 56, 3) := by decide +kernel
theorem dX9_ways_30 : decode cX9_ways 30 = .ok (.bipush 12, 2) := by decide +kernel
theorem dX9_ways_32 : decode cX9_ways 32 = .ok (.laload, 1) := by decide +kernel
theorem dX9_ways_33 : decode cX9_ways 33 = .ok (.lstore_n 3, 1) := by decide +kernel
theorem dX9_ways_34 : decode cX9_ways 34 = .ok (.aload_n 0, 1) := by decide +kernel
theorem dX9_ways_35 : decode cX9_ways 35 = .ok (.getfield 56, 3) := by decide +kernel
theorem dX9_ways_38 : decode cX9_ways 38 = .ok (.bipush 12, 2) := by decide +kernel
theorem dX9_ways_40 : decode cX9_ways 40 = .ok (.lconst 0, 1) := by decide +kernel
theorem dX9_ways_41 : decode cX9_ways 41 = .ok (.lastore, 1) := by decide +kernel
theorem dX9_ways_42 : decode cX9_ways 42 = .ok (.iconst 0, 1) := by decide +kernel
theorem dX9_ways_43 : decode cX9_ways 43 = .ok (.istore 5, 2) := by decide +kernel
theorem dX9_ways_45 : decode cX9_ways 45 = .ok (.iload 5, 2) := by decide +kernel
theorem dX9_ways_47 : decode cX9_ways 47 = .ok (.iload_n 2, 1) := by decide +kernel
theorem dX9_ways_48 : decode cX9_ways 48 = .ok (.if_icmp .ge 15, 3) := by decide +kernel
theorem dX9_ways_51 : decode cX9_ways 51 = .ok (.aload_n 0, 1) := by decide +kernel
theorem dX9_ways_52 : decode cX9_ways 52 = .ok (.iconst 0, 1) := by decide +kernel
theorem dX9_ways_53 : decode cX9_ways 53 = .ok (.invokevirtual 438, 3) := by decide +kernel
theorem dX9_ways_56 : decode cX9_ways 56 = .ok (.lstore_n 3, 1) := by decide +kernel
theorem dX9_ways_57 : decode cX9_ways 57 = .ok (.iinc 5 1, 3) := by decide +kernel
theorem dX9_ways_60 : decode cX9_ways 60 = .ok (.goto (-15), 3) := by decide +kernel
theorem dX9_ways_63 : decode cX9_ways 63 = .ok (.lload_n 3, 1) := by decide +kernel
theorem dX9_ways_64 : decode cX9_ways 64 = .ok (.lreturn, 1) := by decide +kernel
theorem dX9_kindAt_0 : decode cX9_kindAt 0 = .ok (.iload_n 1, 1) := by decide +kernel
theorem dX9_kindAt_1 : decode cX9_kindAt 1 = .ok (.bipush 12, 2) := by decide +kernel
theorem dX9_kindAt_3 : decode cX9_kindAt 3 = .ok (.if_icmp .ne 7, 3) := by decide +kernel
theorem dX9_kindAt_6 : decode cX9_kindAt 6 = .ok (.iconst 4, 1) := by decide +kernel
theorem dX9_kindAt_7 : decode cX9_kindAt 7 = .ok (.goto 12, 3) := by decide +kernel
theorem dX9_kindAt_10 : decode cX9_kindAt 10 = .ok (.aload_n 0, 1) := by decide +kernel
theorem dX9_kindAt_11 : decode cX9_kindAt 11 = .ok (.getfield 7, 3) := by decide +kernel
theorem dX9_kindAt_14 : decode cX9_kindAt 14 = .ok (.bipush 114, 2) := by decide +kernel
theorem dX9_kindAt_16 : decode cX9_kindAt 16 = .ok (.iload_n 1, 1) := by decide +kernel
theorem dX9_kindAt_17 : decode cX9_kindAt 17 = .ok (.iadd, 1) := by decide +kernel
theorem dX9_kindAt_18 : decode cX9_kindAt 18 = .ok (.iaload, 1) := by decide +kernel
theorem dX9_kindAt_19 : decode cX9_kindAt 19 = .ok (.ireturn, 1) := by decide +kernel
theorem dX9_layParted_0 : decode cX9_layParted 0 = .ok (.iconst 0, 1) := by decide +kernel
theorem dX9_layParted_1 : decode cX9_layParted 1 = .ok (.istore_n 1, 1) := by decide +kernel
theorem dX9_layParted_2 : decode cX9_layParted 2 = .ok (.iload_n 1, 1) := by decide +kernel
theorem dX9_layParted_3 : decode cX9_layParted 3 = .ok (.bipush 13, 2) := by decide +kernel
theorem dX9_layParted_5 : decode cX9_layParted 5 = .ok (.if_icmp .ge 54, 3) := by decide +kernel
theorem dX9_layParted_8 : decode cX9_layParted 8 = .ok (.iconst 0, 1) := by decide +kernel
theorem dX9_layParted_9 : decode cX9_layParted 9 = .ok (.istore_n 2, 1) := by decide +kernel
theorem dX9_layParted_10 : decode cX9_layParted 10 = .ok (.iload_n 2, 1) := by decide +kernel
theorem dX9_layParted_11 : decode cX9_layParted 11 = .ok (.bipush 13, 2) := by decide +kernel
theorem dX9_layParted_13 : decode cX9_layParted 13 = .ok (.if_icmp .ge 40, 3) := by decide +kernel
theorem dX9_layParted_16 : decode cX9_layParted 16 = .ok (.aload_n 0, 1) := by decide +kernel
theorem dX9_layParted_17 : decode cX9_layParted 17 = .ok (.getfield 62, 3) := by decide +kernel
theorem dX9_layParted_20 : decode cX9_layParted 20 = .ok (.bipush 13, 2) := by decide +kernel
theorem dX9_layParted_22 : decode cX9_layParted 22 = .ok (.iload_n 1, 1) := by decide +kernel
theorem dX9_layParted_23 : decode cX9_layParted 23 = .ok (.imul, 1) := by decide +kernel
theorem dX9_layParted_24 : decode cX9_layParted 24 = .ok (.iload_n 2, 1) := by decide +kernel
theorem dX9_layParted_25 : decode cX9_layParted 25 = .ok (.iadd, 1) := by decide +kernel
theorem dX9_layParted_26 : decode cX9_layParted 26 = .ok (.aload_n 0, 1) := by decide +kernel
theorem dX9_layParted_27 : decode cX9_layParted 27 = .ok (.iload_n 1, 1) := by decide +kernel
theorem dX9_layParted_28 : decode cX9_layParted 28 = .ok (.invokevirtual 445, 3) := by decide +kernel
theorem dX9_layParted_31 : decode cX9_layParted 31 = .ok (.aload_n 0, 1) := by decide +kernel
theorem dX9_layParted_32 : decode cX9_layParted 32 = .ok (.iload_n 2, 1) := by decide +kernel
theorem dX9_layParted_33 : decode cX9_layParted 33 = .ok (.invokevirtual 445, 3) := by decide +kernel
theorem dX9_layParted_36 : decode cX9_layParted 36 = .ok (.if_icmp .eq 7, 3) := by decide +kernel
theorem dX9_layParted_39 : decode cX9_layParted 39 = .ok (.iconst 0, 1) := by decide +kernel
theorem dX9_layParted_40 : decode cX9_layParted 40 = .ok (.goto 6, 3) := by decide +kernel
theorem dX9_layParted_43 : decode cX9_layParted 43 = .ok (.ldc_w 418, 3) := by decide +kernel
theorem dX9_layParted_46 : decode cX9_layParted 46 = .ok (.iastore, 1) := by decide +kernel
theorem dX9_layParted_47 : decode cX9_layParted 47 = .ok (.iinc 2 1, 3) := by decide +kernel
theorem dX9_layParted_50 : decode cX9_layParted 50 = .ok (.goto (-40), 3) := by decide +kernel
theorem dX9_layParted_53 : decode cX9_layParted 53 = .ok (.iinc 1 1, 3) := by decide +kernel
theorem dX9_layParted_56 : decode cX9_layParted 56 = .ok (.goto (-54), 3) := by decide +kernel
theorem dX9_layParted_59 : decode cX9_layParted 59 = .ok (.iconst 1, 1) := by decide +kernel
theorem dX9_layParted_60 : decode cX9_layParted 60 = .ok (.istore_n 1, 1) := by decide +kernel
theorem dX9_layParted_61 : decode cX9_layParted 61 = .ok (.iload_n 1, 1) := by decide +kernel
theorem dX9_layParted_62 : decode cX9_layParted 62 = .ok (.bipush 13, 2) := by decide +kernel
theorem dX9_layParted_64 : decode cX9_layParted 64 = .ok (.if_icmp .ge 78, 3) := by decide +kernel
theorem dX9_layParted_67 : decode cX9_layParted 67 = .ok (.iconst 0, 1) := by decide +kernel
theorem dX9_layParted_68 : decode cX9_layParted 68 = .ok (.istore_n 2, 1) := by decide +kernel
theorem dX9_layParted_69 : decode cX9_layParted 69 = .ok (.iload_n 2, 1) := by decide +kernel
theorem dX9_layParted_70 : decode cX9_layParted 70 = .ok (.bipush 13, 2) := by decide +kernel
theorem dX9_layParted_72 : decode cX9_layParted 72 = .ok (.if_icmp .ge 64, 3) := by decide +kernel
theorem dX9_layParted_75 : decode cX9_layParted 75 = .ok (.iconst 0, 1) := by decide +kernel
theorem dX9_layParted_76 : decode cX9_layParted 76 = .ok (.istore_n 3, 1) := by decide +kernel
theorem dX9_layParted_77 : decode cX9_layParted 77 = .ok (.iload_n 3, 1) := by decide +kernel
theorem dX9_layParted_78 : decode cX9_layParted 78 = .ok (.bipush 13, 2) := by decide +kernel
theorem dX9_layParted_80 : decode cX9_layParted 80 = .ok (.if_icmp .ge 50, 3) := by decide +kernel
theorem dX9_layParted_83 : decode cX9_layParted 83 = .ok (.aload_n 0, 1) := by decide +kernel
theorem dX9_layParted_84 : decode cX9_layParted 84 = .ok (.getfield 62, 3) := by decide +kernel
theorem dX9_layParted_87 : decode cX9_layParted 87 = .ok (.bipush 13, 2) := by decide +kernel
theorem dX9_layParted_89 : decode cX9_layParted 89 = .ok (.iload_n 2, 1) := by decide +kernel
theorem dX9_layParted_90 : decode cX9_layParted 90 = .ok (.imul, 1) := by decide +kernel
theorem dX9_layParted_91 : decode cX9_layParted 91 = .ok (.iload_n 3, 1) := by decide +kernel
theorem dX9_layParted_92 : decode cX9_layParted 92 = .ok (.iadd, 1) := by decide +kernel
theorem dX9_layParted_93 : decode cX9_layParted 93 = .ok (.iaload, 1) := by decide +kernel
theorem dX9_layParted_94 : decode cX9_layParted 94 = .ok (.ldc_w 418, 3) := by decide +kernel
theorem dX9_layParted_97 : decode cX9_layParted 97 = .ok (.if_icmp .ne 27, 3) := by decide +kernel
theorem dX9_layParted_100 : decode cX9_layParted 100 = .ok (.aload_n 0, 1) := by decide +kernel
theorem dX9_layParted_101 : decode cX9_layParted 101 = .ok (.iload_n 2, 1) := by decide +kernel
theorem dX9_layParted_102 : decode cX9_layParted 102 = .ok (.iload_n 3, 1) := by decide +kernel
theorem dX9_layParted_103 : decode cX9_layParted 103 = .ok (.iload_n 1, 1) := by decide +kernel
theorem dX9_layParted_104 : decode cX9_layParted 104 = .ok (.iconst 1, 1) := by decide +kernel
theorem dX9_layParted_105 : decode cX9_layParted 105 = .ok (.isub, 1) := by decide +kernel
theorem dX9_layParted_106 : decode cX9_layParted 106 = .ok (.invokevirtual 448, 3) := by decide +kernel
theorem dX9_layParted_109 : decode cX9_layParted 109 = .ok (.ifCond .eq 15, 3) := by decide +kernel
theorem dX9_layParted_112 : decode cX9_layParted 112 = .ok (.aload_n 0, 1) := by decide +kernel
theorem dX9_layParted_113 : decode cX9_layParted 113 = .ok (.getfield 62, 3) := by decide +kernel
theorem dX9_layParted_116 : decode cX9_layParted 116 = .ok (.bipush 13, 2) := by decide +kernel
theorem dX9_layParted_118 : decode cX9_layParted 118 = .ok (.iload_n 2, 1) := by decide +kernel
theorem dX9_layParted_119 : decode cX9_layParted 119 = .ok (.imul, 1) := by decide +kernel
theorem dX9_layParted_120 : decode cX9_layParted 120 = .ok (.iload_n 3, 1) := by decide +kernel
theorem dX9_layParted_121 : decode cX9_layParted 121 = .ok (.iadd, 1) := by decide +kernel
theorem dX9_layParted_122 : decode cX9_layParted 122 = .ok (.iload_n 1, 1) := by decide +kernel
theorem dX9_layParted_123 : decode cX9_layParted 123 = .ok (.iastore, 1) := by decide +kernel
theorem dX9_layParted_124 : decode cX9_layParted 124 = .ok (.iinc 3 1, 3) := by decide +kernel
theorem dX9_layParted_127 : decode cX9_layParted 127 = .ok (.goto (-50), 3) := by decide +kernel
theorem dX9_layParted_130 : decode cX9_layParted 130 = .ok (.iinc 2 1, 3) := by decide +kernel
theorem dX9_layParted_133 : decode cX9_layParted 133 = .ok (.goto (-64), 3) := by decide +kernel
theorem dX9_layParted_136 : decode cX9_layParted 136 = .ok (.iinc 1 1, 3) := by decide +kernel
theorem dX9_layParted_139 : decode cX9_layParted 139 = .ok (.goto (-78), 3) := by decide +kernel
theorem dX9_layParted_142 : decode cX9_layParted 142 = .ok (.return_, 1) := by decide +kernel
theorem dX9_isPartedBehind_0 : decode cX9_isPartedBehind 0 = .ok (.iconst 0, 1) := by decide +kernel
theorem dX9_isPartedBehind_1 : decode cX9_isPartedBehind 1 = .ok (.istore 4, 2) := by decide +kernel
theorem dX9_isPartedBehind_3 : decode cX9_isPartedBehind 3 = .ok (.iload 4, 2) := by decide +kernel
theorem dX9_isPartedBehind_5 : decode cX9_isPartedBehind 5 = .ok (.iconst 4, 1) := by decide +kernel
theorem dX9_isPartedBehind_6 : decode cX9_isPartedBehind 6 = .ok (.if_icmp .ge 38, 3) := by decide +kernel
theorem dX9_isPartedBehind_9 : decode cX9_isPartedBehind 9 = .ok (.aload_n 0, 1) := by decide +kernel
theorem dX9_isPartedBehind_10 : decode cX9_isPartedBehind 10 = .ok (.getfield 62, 3) := by decide +kernel
theorem dX9_isPartedBehind_13 : decode cX9_isPartedBehind 13 = .ok (.bipush 13, 2) := by decide +kernel
theorem dX9_isPartedBehind_15 : decode cX9_isPartedBehind 15 = .ok (.aload_n 0, 1) := by decide +kernel
theorem dX9_isPartedBehind_16 : decode cX9_isPartedBehind 16 = .ok (.iload_n 1, 1) := by decide +kernel
theorem dX9_isPartedBehind_17 : decode cX9_isPartedBehind 17 = .ok (.iload 4, 2) := by decide +kernel
theorem dX9_isPartedBehind_19 : decode cX9_isPartedBehind 19 = .ok (.invokevirtual 343, 3) := by decide +kernel
theorem dX9_isPartedBehind_22 : decode cX9_isPartedBehind 22 = .ok (.imul, 1) := by decide +kernel
theorem dX9_isPartedBehind_23 : decode cX9_isPartedBehind 23 = .ok (.aload_n 0, 1) := by decide +kernel
theorem dX9_isPartedBehind_24 : decode cX9_isPartedBehind 24 = .ok (.iload_n 2, 1) := by decide +kernel
theorem dX9_isPartedBehind_25 : decode cX9_isPartedBehind 25 = .ok (.iload 4, 2) := by decide +kernel
theorem dX9_isPartedBehind_27 : decode cX9_isPartedBehind 27 = .ok (.invokevirtual 343, 3) := by decide +kernel
theorem dX9_isPartedBehind_30 : decode cX9_isPartedBehind 30 = .ok (.iadd, 1) := by decide +kernel
theorem dX9_isPartedBehind_31 : decode cX9_isPartedBehind 31 = .ok (.iaload, 1) := by decide +kernel
theorem dX9_isPartedBehind_32 : decode cX9_isPartedBehind 32 = .ok (.iload_n 3, 1) := by decide +kernel
theorem dX9_isPartedBehind_33 : decode cX9_isPartedBehind 33 = .ok (.if_icmp .ne 5, 3) := by decide +kernel
theorem dX9_isPartedBehind_36 : decode cX9_isPartedBehind 36 = .ok (.iconst 1, 1) := by decide +kernel
theorem dX9_isPartedBehind_37 : decode cX9_isPartedBehind 37 = .ok (.ireturn, 1) := by decide +kernel
theorem dX9_isPartedBehind_38 : decode cX9_isPartedBehind 38 = .ok (.iinc 4 1, 3) := by decide +kernel
theorem dX9_isPartedBehind_41 : decode cX9_isPartedBehind 41 = .ok (.goto (-38), 3) := by decide +kernel
theorem dX9_isPartedBehind_44 : decode cX9_isPartedBehind 44 = .ok (.iconst 0, 1) := by decide +kernel
theorem dX9_isPartedBehind_45 : decode cX9_isPartedBehind 45 = .ok (.ireturn, 1) := by decide +kernel
theorem dX9_lowestLike_0 : decode cX9_lowestLike 0 = .ok (.iconst 0, 1) := by decide +kernel
theorem dX9_lowestLike_1 : decode cX9_lowestLike 1 = .ok (.istore_n 2, 1) := by decide +kernel
theorem dX9_lowestLike_2 : decode cX9_lowestLike 2 = .ok (.aload_n 0, 1) := by decide +kernel
theorem dX9_lowestLike_3 : decode cX9_lowestLike 3 = .ok (.getfield 62, 3) := by decide +kernel
theorem dX9_lowestLike_6 : decode cX9_lowestLike 6 = .ok (.bipush 13, 2) := by decide +kernel
theorem dX9_lowestLike_8 : decode cX9_lowestLike 8 = .ok (.iload_n 2, 1) := by decide +kernel
theorem dX9_lowestLike_9 : decode cX9_lowestLike 9 = .ok (.imul, 1) := by decide +kernel
theorem dX9_lowestLike_10 : decode cX9_lowestLike 10 = .ok (.iload_n 1, 1) := by decide +kernel
theorem dX9_lowestLike_11 : decode cX9_lowestLike 11 = .ok (.iadd, 1) := by decide +kernel
theorem dX9_lowestLike_12 : decode cX9_lowestLike 12 = .ok (.iaload, 1) := by decide +kernel
theorem dX9_lowestLike_13 : decode cX9_lowestLike 13 = .ok (.ldc_w 418, 3) := by decide +kernel
theorem dX9_lowestLike_16 : decode cX9_lowestLike 16 = .ok (.if_icmp .eq 9, 3) := by decide +kernel
theorem dX9_lowestLike_19 : decode cX9_lowestLike 19 = .ok (.iinc 2 1, 3) := by decide +kernel
theorem dX9_lowestLike_22 : decode cX9_lowestLike 22 = .ok (.goto (-20), 3) := by decide +kernel
theorem dX9_lowestLike_25 : decode cX9_lowestLike 25 = .ok (.iload_n 2, 1) := by decide +kernel
theorem dX9_lowestLike_26 : decode cX9_lowestLike 26 = .ok (.ireturn, 1) := by decide +kernel
theorem dX9_kinds_0 : decode cX9_kinds 0 = .ok (.iload_n 1, 1) := by decide +kernel
theorem dX9_kinds_1 : decode cX9_kinds 1 = .ok (.iconst (-1), 1) := by decide +kernel
theorem dX9_kinds_2 : decode cX9_kinds 2 = .ok (.bipush 12, 2) := by decide +kernel
theorem dX9_kinds_4 : decode cX9_kinds 4 = .ok (.invokestatic 78, 3) := by decide +kernel
theorem dX9_kinds_7 : decode cX9_kinds 7 = .ok (.ifCond .ne 6, 3) := by decide +kernel
theorem dX9_kinds_10 : decode cX9_kinds 10 = .ok (.bipush (-2), 2) := by decide +kernel
theorem dX9_kinds_12 : decode cX9_kinds 12 = .ok (.ireturn, 1) := by decide +kernel
theorem dX9_kinds_13 : decode cX9_kinds 13 = .ok (.aload_n 0, 1) := by decide +kernel
theorem dX9_kinds_14 : decode cX9_kinds 14 = .ok (.invokevirtual 451, 3) := by decide +kernel
theorem dX9_kinds_17 : decode cX9_kinds 17 = .ok (.iconst 0, 1) := by decide +kernel
theorem dX9_kinds_18 : decode cX9_kinds 18 = .ok (.istore_n 2, 1) := by decide +kernel
theorem dX9_kinds_19 : decode cX9_kinds 19 = .ok (.iload_n 1, 1) := by decide +kernel
theorem dX9_kinds_20 : decode cX9_kinds 20 = .ok (.iconst (-1), 1) := by decide +kernel
theorem dX9_kinds_21 : decode cX9_kinds 21 = .ok (.if_icmp .ne 8, 3) := by decide +kernel
theorem dX9_kinds_24 : decode cX9_kinds 24 = .ok (.bipush 13, 2) := by decide +kernel
theorem dX9_kinds_26 : decode cX9_kinds 26 = .ok (.goto 8, 3) := by decide +kernel
theorem dX9_kinds_29 : decode cX9_kinds 29 = .ok (.aload_n 0, 1) := by decide +kernel
theorem dX9_kinds_30 : decode cX9_kinds 30 = .ok (.iload_n 1, 1) := by decide +kernel
theorem dX9_kinds_31 : decode cX9_kinds 31 = .ok (.invokevirtual 454, 3) := by decide +kernel
theorem dX9_kinds_34 : decode cX9_kinds 34 = .ok (.istore_n 3, 1) := by decide +kernel
theorem dX9_kinds_35 : decode cX9_kinds 35 = .ok (.iconst 0, 1) := by decide +kernel
theorem dX9_kinds_36 : decode cX9_kinds 36 = .ok (.istore 4, 2) := by decide +kernel
theorem dX9_kinds_38 : decode cX9_kinds 38 = .ok (.iload 4, 2) := by decide +kernel
theorem dX9_kinds_40 : decode cX9_kinds 40 = .ok (.iload_n 3, 1) := by decide +kernel
theorem dX9_kinds_41 : decode cX9_kinds 41 = .ok (.if_icmp .ge 28, 3) := by decide +kernel
theorem dX9_kinds_44 : decode cX9_kinds 44 = .ok (.iload_n 2, 1) := by decide +kernel
theorem dX9_kinds_45 : decode cX9_kinds 45 = .ok (.aload_n 0, 1) := by decide +kernel
theorem dX9_kinds_46 : decode cX9_kinds 46 = .ok (.iload 4, 2) := by decide +kernel
theorem dX9_kinds_48 : decode cX9_kinds 48 = .ok (.invokevirtual 454, 3) := by decide +kernel
theorem dX9_kinds_51 : decode cX9_kinds 51 = .ok (.iload 4, 2) := by decide +kernel
theorem dX9_kinds_53 : decode cX9_kinds 53 = .ok (.if_icmp .ne 7, 3) := by decide +kernel
theorem dX9_kinds_56 : decode cX9_kinds 56 = .ok (.iconst 1, 1) := by decide +kernel
theorem dX9_kinds_57 : decode cX9_kinds 57 = .ok (.goto 4, 3) := by decide +kernel
theorem dX9_kinds_60 : decode cX9_kinds 60 = .ok (.iconst 0, 1) := by decide +kernel
theorem dX9_kinds_61 : decode cX9_kinds 61 = .ok (.iadd, 1) := by decide +kernel
theorem dX9_kinds_62 : decode cX9_kinds 62 = .ok (.istore_n 2, 1) := by decide +kernel
theorem dX9_kinds_63 : decode cX9_kinds 63 = .ok (.iinc 4 1, 3) := by decide +kernel
theorem dX9_kinds_66 : decode cX9_kinds 66 = .ok (.goto (-28), 3) := by decide +kernel
theorem dX9_kinds_69 : decode cX9_kinds 69 = .ok (.iload_n 2, 1) := by decide +kernel
theorem dX9_kinds_70 : decode cX9_kinds 70 = .ok (.ireturn, 1) := by decide +kernel
theorem dX9_parts_0 : decode cX9_parts 0 = .ok (.iload_n 1, 1) := by decide +kernel
theorem dX9_parts_1 : decode cX9_parts 1 = .ok (.invokestatic 93, 3) := by decide +kernel
theorem dX9_parts_4 : decode cX9_parts 4 = .ok (.ifCond .eq 10, 3) := by decide +kernel
theorem dX9_parts_7 : decode cX9_parts 7 = .ok (.iload_n 2, 1) := by decide +kernel
theorem dX9_parts_8 : decode cX9_parts 8 = .ok (.invokestatic 93, 3) := by decide +kernel
theorem dX9_parts_11 : decode cX9_parts 11 = .ok (.ifCond .ne 5, 3) := by decide +kernel
theorem dX9_parts_14 : decode cX9_parts 14 = .ok (.iconst (-1), 1) := by decide +kernel
theorem dX9_parts_15 : decode cX9_parts 15 = .ok (.ireturn, 1) := by decide +kernel
theorem dX9_parts_16 : decode cX9_parts 16 = .ok (.aload_n 0, 1) := by decide +kernel
theorem dX9_parts_17 : decode cX9_parts 17 = .ok (.invokevirtual 451, 3) := by decide +kernel
theorem dX9_parts_20 : decode cX9_parts 20 = .ok (.aload_n 0, 1) := by decide +kernel
theorem dX9_parts_21 : decode cX9_parts 21 = .ok (.getfield 62, 3) := by decide +kernel
theorem dX9_parts_24 : decode cX9_parts 24 = .ok (.bipush 13, 2) := by decide +kernel
theorem dX9_parts_26 : decode cX9_parts 26 = .ok (.iload_n 1, 1) := by decide +kernel
theorem dX9_parts_27 : decode cX9_parts 27 = .ok (.imul, 1) := by decide +kernel
theorem dX9_parts_28 : decode cX9_parts 28 = .ok (.iload_n 2, 1) := by decide +kernel
theorem dX9_parts_29 : decode cX9_parts 29 = .ok (.iadd, 1) := by decide +kernel
theorem dX9_parts_30 : decode cX9_parts 30 = .ok (.iaload, 1) := by decide +kernel
theorem dX9_parts_31 : decode cX9_parts 31 = .ok (.ldc_w 418, 3) := by decide +kernel
theorem dX9_parts_34 : decode cX9_parts 34 = .ok (.if_icmp .ne 7, 3) := by decide +kernel
theorem dX9_parts_37 : decode cX9_parts 37 = .ok (.iconst (-1), 1) := by decide +kernel
theorem dX9_parts_38 : decode cX9_parts 38 = .ok (.goto 14, 3) := by decide +kernel
theorem dX9_parts_41 : decode cX9_parts 41 = .ok (.aload_n 0, 1) := by decide +kernel
theorem dX9_parts_42 : decode cX9_parts 42 = .ok (.getfield 62, 3) := by decide +kernel
theorem dX9_parts_45 : decode cX9_parts 45 = .ok (.bipush 13, 2) := by decide +kernel
theorem dX9_parts_47 : decode cX9_parts 47 = .ok (.iload_n 1, 1) := by decide +kernel
theorem dX9_parts_48 : decode cX9_parts 48 = .ok (.imul, 1) := by decide +kernel
theorem dX9_parts_49 : decode cX9_parts 49 = .ok (.iload_n 2, 1) := by decide +kernel
theorem dX9_parts_50 : decode cX9_parts 50 = .ok (.iadd, 1) := by decide +kernel
theorem dX9_parts_51 : decode cX9_parts 51 = .ok (.iaload, 1) := by decide +kernel
theorem dX9_parts_52 : decode cX9_parts 52 = .ok (.ireturn, 1) := by decide +kernel
section
variable {p : Program} {l : Launch} {e : Env} {R : Room} {s : State} {m : MethodId} {args : Array Value} {below : List Frame} {meth : Method} {c : Code} {Q : State → Prop} {V : g_V} {nf nl : Nat}
set_option maxRecDepth 100000 in
set_option maxHeartbeats 4000000 in
theorem w_X9_latestFrom_L4 (C : g_CX mG V p R s m args meth c cX9_latestFrom 4 (some .int) RX9 1 22) {res : Int} {M16 : g_M} (hR : g_RetI mG V p l e R s m args below meth c Q cX9_latestFrom .int res M16) (x13 : Int) (k17 : Int → Option (Int)) (hk17 : ∀ (x24 : Int) (H : Heap) (locs : List Loc) (ls : Array Slot), k17 x24 = some res → g_PT mG V M16 s H locs → lv_has ls 4 [(2, .int (gI x24))] → W p l e R s m args below meth c H locs 0 0 Q (F0 m 46 ls [])) : ∀ (f : Nat) (x14 : Int) (x15 : Int) (H : Heap) (locs : List Loc) (ls : Array Slot), m_X9_latestFrom_L4 x13 M16 k17 f x14 x15 = some res → g_PT mG V M16 s H locs → lv_has ls 4 [(0, .ref (V.2.2 0)), (1, .int (gI x13)), (2, .int (gI x14)), (3, .int (gI x15))] → W p l e R s m args below meth c H locs 0 0 Q (F0 m 4 ls []) := by
  intro f
  induction f with
  | zero => intro x14 x15 H locs ls h hp hl; cases h
  | succ f ih =>
    intro x14 x15 H locs ls h hp hl
    rw [m_X9_latestFrom_L4] at h
    refine lv_iload_n C.1 C.2.1 dX9_latestFrom_4 rfl (lv_at hl 3 rfl) ?_
    refine r_iconst C dX9_latestFrom_5 ?_
    refine r_icmp_ge (tgt := 46) C h dX9_latestFrom_6 (by decide) (fun h => ?_) (fun h => ?_)
    · exact hk17 _ _ _ _ h hp (lv_sub hl [2] rfl)
    · refine r_jn (P := fun J => ∀ (x21 : Int) (H : Heap) (locs : List Loc) (ls : Array Slot), J x21 = some res → g_PT mG V M16 s H locs → lv_has ls 4 [(0, .ref (V.2.2 0)), (1, .int (gI x13)), (3, .int (gI x15))] → W p l e R s m args below meth c H locs 0 0 Q (F0 m 39 ls [.int (gI x21)])) h ?_ (fun J18 hJ18 h => ?_)
      · intro x21 H locs ls h hp hl
        refine r_istore_n (lv' := fun x22 => [(2, .int (gI x22)), (0, .ref (V.2.2 0)), (1, .int (gI x13)), (3, .int (gI x15))]) C h dX9_latestFrom_39 rfl hl (by decide) (fun _ => rfl) (fun x22 ls h hl => ?_)
        refine r_iinc (lv' := fun x23 => [(3, .int (gI x23)), (2, .int (gI x22)), (0, .ref (V.2.2 0)), (1, .int (gI x13))]) C h dX9_latestFrom_40 hl (j := 3) rfl (by decide) (fun _ => rfl) (fun x23 ls h hl => ?_)
        refine r_goto (tgt := 4) C dX9_latestFrom_43 (by decide) ?_
        exact ih _ _ _ _ _ h hp (lv_sub hl [2, 3, 1, 0] rfl)
      refine lv_aload_n C.1 C.2.1 dX9_latestFrom_9 rfl (lv_at hl 0 rfl) ?_
      refine r_getr (t := 11) C hp mk_0 ms_0 mc_0 min_0 (j := 29) (by decide) rfl gw_1285 rfl dX9_latestFrom_10 ?_
      refine lv_aload_n C.1 C.2.1 dX9_latestFrom_13 rfl (lv_at hl 0 rfl) ?_
      refine lv_iload_n C.1 C.2.1 dX9_latestFrom_14 rfl (lv_at hl 1 rfl) ?_
      refine lv_iload_n C.1 C.2.1 dX9_latestFrom_15 rfl (lv_at hl 3 rfl) ?_
      obtain ⟨x19, hr, h⟩ := bd_of h
      refine r_callVI (As := [.int (gI x13), .int (gI x15)]) (rest := [.ref (V.2.2 11)]) C hl.1 hp (c_X9_nextOf l C.2.2.2.2.2.2.2.2.2.2.2 hr) gw_1603 gw_1605 gw_81 mk_0 ms_0 mc_0 cal_X9_nextOf rfl rfl (Nat.le_of_ble_eq_true rfl) ⟨Nat.le_of_ble_eq_true rfl, Nat.le_of_ble_eq_true rfl⟩ dX9_latestFrom_16 (fun H locs hp => ?_)
      refine r_iald C hp h mk_11 ms_11 dX9_latestFrom_19 (fun h => ?_)
      refine lv_iload_n C.1 C.2.1 dX9_latestFrom_20 rfl (lv_at hl 2 rfl) ?_
      refine r_icmp_le (tgt := 38) C h dX9_latestFrom_21 (by decide) (fun h => ?_) (fun h => ?_)
      · refine lv_iload_n C.1 C.2.1 dX9_latestFrom_38 rfl (lv_at hl 2 rfl) ?_
        exact hJ18 _ _ _ _ h hp (lv_sub hl [0, 1, 3] rfl)
      · refine lv_aload_n C.1 C.2.1 dX9_latestFrom_24 rfl (lv_at hl 0 rfl) ?_
        refine r_getr (t := 11) C hp mk_0 ms_0 mc_0 min_0 (j := 29) (by decide) rfl gw_1285 rfl dX9_latestFrom_25 ?_
        refine lv_aload_n C.1 C.2.1 dX9_latestFrom_28 rfl (lv_at hl 0 rfl) ?_
        refine lv_iload_n C.1 C.2.1 dX9_latestFrom_29 rfl (lv_at hl 1 rfl) ?_
        refine lv_iload_n C.1 C.2.1 dX9_latestFrom_30 rfl (lv_at hl 3 rfl) ?_
        obtain ⟨x20, hr, h⟩ := bd_of h
        refine r_callVI (As := [.int (gI x13), .int (gI x15)]) (rest := [.ref (V.2.2 11)]) C hl.1 hp (c_X9_nextOf l C.2.2.2.2.2.2.2.2.2.2.2 hr) gw_1603 gw_1605 gw_81 mk_0 ms_0 mc_0 cal_X9_nextOf rfl rfl (Nat.le_of_ble_eq_true rfl) ⟨Nat.le_of_ble_eq_true rfl, Nat.le_of_ble_eq_true rfl⟩ dX9_latestFrom_31 (fun H locs hp => ?_)
        refine r_iald C hp h mk_11 ms_11 dX9_latestFrom_34 (fun h => ?_)
        refine r_goto (tgt := 39) C dX9_latestFrom_35 (by decide) ?_
        exact hJ18 _ _ _ _ h hp (lv_sub hl [0, 1, 3] rfl)
set_option maxRecDepth 100000 in
set_option maxHeartbeats 4000000 in
theorem b_X9_latestFrom (C : g_CX mG V p R s m args meth c cX9_latestFrom 4 (some .int) RX9 1 22) {res : Int} {M : g_M} (hR : g_RetI mG V p l e R s m args below meth c Q cX9_latestFrom .int res M) {a1 : Int} {H : Heap} {locs : List Loc} {ls : Array Slot} (h : m_X9_latestFrom a1 M = some res) (hp : g_PT mG V M s H locs) (hl : lv_has ls 4 [(0, .ref (V.2.2 0)), (1, .int (gI a1))]) : W p l e R s m args below meth c H locs 0 0 Q (F0 m 0 ls []) := by
  unfold m_X9_latestFrom at h
  refine r_iconst C dX9_latestFrom_0 ?_
  refine r_istore_n (lv' := fun x11 => [(2, .int (gI x11)), (0, .ref (V.2.2 0)), (1, .int (gI a1))]) C h dX9_latestFrom_1 rfl hl (by decide) (fun _ => rfl) (fun x11 ls h hl => ?_)
  refine r_iconst C dX9_latestFrom_2 ?_
  refine r_istore_n (lv' := fun x12 => [(3, .int (gI x12)), (2, .int (gI x11)), (0, .ref (V.2.2 0)), (1, .int (gI a1))]) C h dX9_latestFrom_3 rfl hl (by decide) (fun _ => rfl) (fun x12 ls h hl => ?_)
  refine w_X9_latestFrom_L4 C hR _ _ ?_ _ _ _ H locs ls h hp (lv_sub hl [2, 3, 1, 0] rfl)
  · intro x25 H locs ls h hp hl
    refine lv_iload_n C.1 C.2.1 dX9_latestFrom_46 rfl (lv_at hl 0 rfl) ?_
    refine r_ldcw (n := 1000000) C gw_1778 (by decide +kernel) dX9_latestFrom_47 ?_
    refine r_icmp_ne (tgt := 59) C h dX9_latestFrom_50 (by decide) (fun h => ?_) (fun h => ?_)
    · refine lv_iload_n C.1 C.2.1 dX9_latestFrom_59 rfl (lv_at hl 0 rfl) ?_
      refine r_iconst C dX9_latestFrom_60 ?_
      refine r_iadd C dX9_latestFrom_61 ?_
      cases h
      exact hR _ _ _ _ dX9_latestFrom_62 rfl hp
    · refine r_ldcw (n := 1000000) C gw_1778 (by decide +kernel) dX9_latestFrom_53 ?_
      refine r_goto (tgt := 62) C dX9_latestFrom_56 (by decide) ?_
      cases h
      exact hR _ _ _ _ dX9_latestFrom_62 rfl hp
theorem c_X9_latestFrom (l : Launch) {V : g_V} (hok : g_ok mG V) {a1 : Int} {M : g_M} {x : Int} (h : m_X9_latestFrom a1 M = some x) : MetI mG V l yX9_latestFrom cX9_latestFrom 4 (some .int) 1 22 [.ref (V.2.2 0), .int (gI a1)] M x M :=
  g_metI hok cal_X9_latestFrom.2.2.2 rfl (Nat.le_of_ble_eq_true rfl) (@fun p e R s m args below meth c Q ls C hR hp hl => b_X9_latestFrom C hR h hp hl)
set_option maxRecDepth 100000 in
set_option maxHeartbeats 4000000 in
theorem w_X9_soonestFrom_L6 (C : g_CX mG V p R s m args meth c cX9_soonestFrom 4 (some .int) RX9 1 22) {res : Int} {M16 : g_M} (hR : g_RetI mG V p l e R s m args below meth c Q cX9_soonestFrom .int res M16) (x13 : Int) (k17 : Int → Option (Int)) (hk17 : ∀ (x24 : Int) (H : Heap) (locs : List Loc) (ls : Array Slot), k17 x24 = some res → g_PT mG V M16 s H locs → lv_has ls 4 [(2, .int (gI x24))] → W p l e R s m args below meth c H locs 0 0 Q (F0 m 54 ls [])) : ∀ (f : Nat) (x14 : Int) (x15 : Int) (H : Heap) (locs : List Loc) (ls : Array Slot), m_X9_soonestFrom_L6 x13 M16 k17 f x14 x15 = some res → g_PT mG V M16 s H locs → lv_has ls 4 [(0, .ref (V.2.2 0)), (1, .int (gI x13)), (2, .int (gI x14)), (3, .int (gI x15))] → W p l e R s m args below meth c H locs 0 0 Q (F0 m 6 ls []) := by
  intro f
  induction f with
  | zero => intro x14 x15 H locs ls h hp hl; cases h
  | succ f ih =>
    intro x14 x15 H locs ls h hp hl
    rw [m_X9_soonestFrom_L6] at h
    refine lv_iload_n C.1 C.2.1 dX9_soonestFrom_6 rfl (lv_at hl 3 rfl) ?_
    refine r_iconst C dX9_soonestFrom_7 ?_
    refine r_icmp_ge (tgt := 54) C h dX9_soonestFrom_8 (by decide) (fun h => ?_) (fun h => ?_)
    · exact hk17 _ _ _ _ h hp (lv_sub hl [2] rfl)
    · refine r_jn (P := fun J => ∀ (x21 : Int) (H : Heap) (locs : List Loc) (ls : Array Slot), J x21 = some res → g_PT mG V M16 s H locs → lv_has ls 4 [(0, .ref (V.2.2 0)), (1, .int (gI x13)), (3, .int (gI x15))] → W p l e R s m args below meth c H locs 0 0 Q (F0 m 47 ls [.int (gI x21)])) h ?_ (fun J18 hJ18 h => ?_)
      · intro x21 H locs ls h hp hl
        refine r_istore_n (lv' := fun x22 => [(2, .int (gI x22)), (0, .ref (V.2.2 0)), (1, .int (gI x13)), (3, .int (gI x15))]) C h dX9_soonestFrom_47 rfl hl (by decide) (fun _ => rfl) (fun x22 ls h hl => ?_)
        refine r_iinc (lv' := fun x23 => [(3, .int (gI x23)), (2, .int (gI x22)), (0, .ref (V.2.2 0)), (1, .int (gI x13))]) C h dX9_soonestFrom_48 hl (j := 3) rfl (by decide) (fun _ => rfl) (fun x23 ls h hl => ?_)
        refine r_goto (tgt := 6) C dX9_soonestFrom_51 (by decide) ?_
        exact ih _ _ _ _ _ h hp (lv_sub hl [2, 3, 1, 0] rfl)
      refine lv_aload_n C.1 C.2.1 dX9_soonestFrom_11 rfl (lv_at hl 0 rfl) ?_
      refine r_getr (t := 11) C hp mk_0 ms_0 mc_0 min_0 (j := 29) (by decide) rfl gw_1285 rfl dX9_soonestFrom_12 ?_
      refine r_bipush C dX9_soonestFrom_15 (by decide +kernel) ?_
      refine lv_aload_n C.1 C.2.1 dX9_soonestFrom_17 rfl (lv_at hl 0 rfl) ?_
      refine lv_iload_n C.1 C.2.1 dX9_soonestFrom_18 rfl (lv_at hl 1 rfl) ?_
      refine lv_iload_n C.1 C.2.1 dX9_soonestFrom_19 rfl (lv_at hl 3 rfl) ?_
      obtain ⟨x19, hr, h⟩ := bd_of h
      refine r_callVI (As := [.int (gI x13), .int (gI x15)]) (rest := [.int (gI 13), .ref (V.2.2 11)]) C hl.1 hp (c_X9_nextOf l C.2.2.2.2.2.2.2.2.2.2.2 hr) gw_1603 gw_1605 gw_81 mk_0 ms_0 mc_0 cal_X9_nextOf rfl rfl (Nat.le_of_ble_eq_true rfl) ⟨Nat.le_of_ble_eq_true rfl, Nat.le_of_ble_eq_true rfl⟩ dX9_soonestFrom_20 (fun H locs hp => ?_)
      refine r_iadd C dX9_soonestFrom_23 ?_
      refine r_iald C hp h mk_11 ms_11 dX9_soonestFrom_24 (fun h => ?_)
      refine lv_iload_n C.1 C.2.1 dX9_soonestFrom_25 rfl (lv_at hl 2 rfl) ?_
      refine r_icmp_ge (tgt := 46) C h dX9_soonestFrom_26 (by decide) (fun h => ?_) (fun h => ?_)
      · refine lv_iload_n C.1 C.2.1 dX9_soonestFrom_46 rfl (lv_at hl 2 rfl) ?_
        exact hJ18 _ _ _ _ h hp (lv_sub hl [0, 1, 3] rfl)
      · refine lv_aload_n C.1 C.2.1 dX9_soonestFrom_29 rfl (lv_at hl 0 rfl) ?_
        refine r_getr (t := 11) C hp mk_0 ms_0 mc_0 min_0 (j := 29) (by decide) rfl gw_1285 rfl dX9_soonestFrom_30 ?_
        refine r_bipush C dX9_soonestFrom_33 (by decide +kernel) ?_
        refine lv_aload_n C.1 C.2.1 dX9_soonestFrom_35 rfl (lv_at hl 0 rfl) ?_
        refine lv_iload_n C.1 C.2.1 dX9_soonestFrom_36 rfl (lv_at hl 1 rfl) ?_
        refine lv_iload_n C.1 C.2.1 dX9_soonestFrom_37 rfl (lv_at hl 3 rfl) ?_
        obtain ⟨x20, hr, h⟩ := bd_of h
        refine r_callVI (As := [.int (gI x13), .int (gI x15)]) (rest := [.int (gI 13), .ref (V.2.2 11)]) C hl.1 hp (c_X9_nextOf l C.2.2.2.2.2.2.2.2.2.2.2 hr) gw_1603 gw_1605 gw_81 mk_0 ms_0 mc_0 cal_X9_nextOf rfl rfl (Nat.le_of_ble_eq_true rfl) ⟨Nat.le_of_ble_eq_true rfl, Nat.le_of_ble_eq_true rfl⟩ dX9_soonestFrom_38 (fun H locs hp => ?_)
        refine r_iadd C dX9_soonestFrom_41 ?_
        refine r_iald C hp h mk_11 ms_11 dX9_soonestFrom_42 (fun h => ?_)
        refine r_goto (tgt := 47) C dX9_soonestFrom_43 (by decide) ?_
        exact hJ18 _ _ _ _ h hp (lv_sub hl [0, 1, 3] rfl)
set_option maxRecDepth 100000 in
set_option maxHeartbeats 4000000 in
theorem b_X9_soonestFrom (C : g_CX mG V p R s m args meth c cX9_soonestFrom 4 (some .int) RX9 1 22) {res : Int} {M : g_M} (hR : g_RetI mG V p l e R s m args below meth c Q cX9_soonestFrom .int res M) {a1 : Int} {H : Heap} {locs : List Loc} {ls : Array Slot} (h : m_X9_soonestFrom a1 M = some res) (hp : g_PT mG V M s H locs) (hl : lv_has ls 4 [(0, .ref (V.2.2 0)), (1, .int (gI a1))]) : W p l e R s m args below meth c H locs 0 0 Q (F0 m 0 ls []) := by
  unfold m_X9_soonestFrom at h
  refine r_ldcw (n := 1000000) C gw_1778 (by decide +kernel) dX9_soonestFrom_0 ?_
  refine r_istore_n (lv' := fun x11 => [(2, .int (gI x11)), (0, .ref (V.2.2 0)), (1, .int (gI a1))]) C h dX9_soonestFrom_3 rfl hl (by decide) (fun _ => rfl) (fun x11 ls h hl => ?_)
  refine r_iconst C dX9_soonestFrom_4 ?_
  refine r_istore_n (lv' := fun x12 => [(3, .int (gI x12)), (2, .int (gI x11)), (0, .ref (V.2.2 0)), (1, .int (gI a1))]) C h dX9_soonestFrom_5 rfl hl (by decide) (fun _ => rfl) (fun x12 ls h hl => ?_)
  refine w_X9_soonestFrom_L6 C hR _ _ ?_ _ _ _ H locs ls h hp (lv_sub hl [2, 3, 1, 0] rfl)
  · intro x25 H locs ls h hp hl
    refine lv_iload_n C.1 C.2.1 dX9_soonestFrom_54 rfl (lv_at hl 0 rfl) ?_
    refine r_ldcw (n := 1000000) C gw_1778 (by decide +kernel) dX9_soonestFrom_55 ?_
    refine r_icmp_ne (tgt := 67) C h dX9_soonestFrom_58 (by decide) (fun h => ?_) (fun h => ?_)
    · refine lv_iload_n C.1 C.2.1 dX9_soonestFrom_67 rfl (lv_at hl 0 rfl) ?_
      refine r_iconst C dX9_soonestFrom_68 ?_
      refine r_iadd C dX9_soonestFrom_69 ?_
      cases h
      exact hR _ _ _ _ dX9_soonestFrom_70 rfl hp
    · refine r_ldcw (n := 1000000) C gw_1778 (by decide +kernel) dX9_soonestFrom_61 ?_
      refine r_goto (tgt := 70) C dX9_soonestFrom_64 (by decide) ?_
      cases h
      exact hR _ _ _ _ dX9_soonestFrom_70 rfl hp
theorem c_X9_soonestFrom (l : Launch) {V : g_V} (hok : g_ok mG V) {a1 : Int} {M : g_M} {x : Int} (h : m_X9_soonestFrom a1 M = some x) : MetI mG V l yX9_soonestFrom cX9_soonestFrom 4 (some .int) 1 22 [.ref (V.2.2 0), .int (gI a1)] M x M :=
  g_metI hok cal_X9_soonestFrom.2.2.2 rfl (Nat.le_of_ble_eq_true rfl) (@fun p e R s m args below meth c Q ls C hR hp hl => b_X9_soonestFrom C hR h hp hl)
set_option maxRecDepth 100000 in
set_option maxHeartbeats 4000000 in
theorem w_X9_layPlay_L2 (C : g_CX mG V p R s m args meth c cX9_layPlay 4 none RX9 2 45) {res : g_M} (hR : g_RetV mG V p l e R s m args below meth c Q cX9_layPlay res)  (k14 : g_M → Option (g_M)) (hk14 : ∀ (M20 : g_M) (H : Heap) (locs : List Loc) (ls : Array Slot), k14 M20 = some res → g_PT mG V M20 s H locs → lv_has ls 4 [(0, .ref (V.2.2 0))] → W p l e R s m args below meth c H locs 0 0 Q (F0 m 36 ls [])) : ∀ (f : Nat) (x12 : Int) (M13 : g_M) (H : Heap) (locs : List Loc) (ls : Array Slot), m_X9_layPlay_L2 k14 f x12 M13 = some res → g_PT mG V M13 s H locs → lv_has ls 4 [(0, .ref (V.2.2 0)), (1, .int (gI x12))] → W p l e R s m args below meth c H locs 0 0 Q (F0 m 2 ls []) := by
  intro f
  induction f with
  | zero => intro x12 M13 H locs ls h hp hl; cases h
  | succ f ih =>
    intro x12 M13 H locs ls h hp hl
    rw [m_X9_layPlay_L2] at h
    refine lv_iload_n C.1 C.2.1 dX9_layPlay_2 rfl (lv_at hl 1 rfl) ?_
    refine r_bipush C dX9_layPlay_3 (by decide +kernel) ?_
    refine r_icmp_ge (tgt := 36) C h dX9_layPlay_5 (by decide) (fun h => ?_) (fun h => ?_)
    · exact hk14 _ _ _ _ h hp (lv_sub hl [0] rfl)
    · refine r_jn (P := fun J => ∀ (x16 : Int) (x17 : Int) (H : Heap) (locs : List Loc) (ls : Array Slot), J x16 x17 = some res → g_PT mG V M13 s H locs → lv_has ls 4 [(0, .ref (V.2.2 0)), (1, .int (gI x12))] → W p l e R s m args below meth c H locs 0 0 Q (F0 m 29 ls [.int (gI x16), .int (gI x17), .ref (V.2.2 11)])) h ?_ (fun J15 hJ15 h => ?_)
      · intro x16 x17 H locs ls h hp hl
        refine r_iast C hp h mk_11 ms_11 dX9_layPlay_29 (fun M18 H locs h hp => ?_)
        refine r_iinc (lv' := fun x19 => [(1, .int (gI x19)), (0, .ref (V.2.2 0))]) C h dX9_layPlay_30 hl (j := 1) rfl (by decide) (fun _ => rfl) (fun x19 ls h hl => ?_)
        refine r_goto (tgt := 2) C dX9_layPlay_33 (by decide) ?_
        exact ih _ _ _ _ _ h hp (lv_sub hl [1, 0] rfl)
      refine lv_aload_n C.1 C.2.1 dX9_layPlay_8 rfl (lv_at hl 0 rfl) ?_
      refine r_getr (t := 11) C hp mk_0 ms_0 mc_0 min_0 (j := 29) (by decide) rfl gw_1285 rfl dX9_layPlay_9 ?_
      refine lv_iload_n C.1 C.2.1 dX9_layPlay_12 rfl (lv_at hl 1 rfl) ?_
      refine lv_iload_n C.1 C.2.1 dX9_layPlay_13 rfl (lv_at hl 1 rfl) ?_
      refine r_bipush C dX9_layPlay_14 (by decide +kernel) ?_
      refine r_irem C h dX9_layPlay_16 (fun h => ?_)
      refine r_bipush C dX9_layPlay_17 (by decide +kernel) ?_
      refine r_icmp_ne (tgt := 26) C h dX9_layPlay_19 (by decide) (fun h => ?_) (fun h => ?_)
      · refine r_ldcw (n := 1000000) C gw_1778 (by decide +kernel) dX9_layPlay_26 ?_
        exact hJ15 _ _ _ _ _ h hp hl
      · refine r_iconst C dX9_layPlay_22 ?_
        refine r_goto (tgt := 29) C dX9_layPlay_23 (by decide) ?_
        exact hJ15 _ _ _ _ _ h hp hl
set_option maxRecDepth 100000 in
set_option maxHeartbeats 4000000 in
theorem w_X9_layPlay_L46 (C : g_CX mG V p R s m args meth c cX9_layPlay 4 none RX9 2 45) {res : g_M} (hR : g_RetV mG V p l e R s m args below meth c Q cX9_layPlay res) (x26 : Int) (k29 : g_M → Option (g_M)) (hk29 : ∀ (M39 : g_M) (H : Heap) (locs : List Loc) (ls : Array Slot), k29 M39 = some res → g_PT mG V M39 s H locs → lv_has ls 4 [(0, .ref (V.2.2 0)), (1, .int (gI x26))] → W p l e R s m args below meth c H locs 0 0 Q (F0 m 108 ls [])) : ∀ (f : Nat) (x27 : Int) (M28 : g_M) (H : Heap) (locs : List Loc) (ls : Array Slot), m_X9_layPlay_L46 x26 k29 f x27 M28 = some res → g_PT mG V M28 s H locs → lv_has ls 4 [(0, .ref (V.2.2 0)), (1, .int (gI x26)), (2, .int (gI x27))] → W p l e R s m args below meth c H locs 0 0 Q (F0 m 46 ls []) := by
  intro f
  induction f with
  | zero => intro x27 M28 H locs ls h hp hl; cases h
  | succ f ih =>
    intro x27 M28 H locs ls h hp hl
    rw [m_X9_layPlay_L46] at h
    refine lv_iload_n C.1 C.2.1 dX9_layPlay_46 rfl (lv_at hl 2 rfl) ?_
    refine r_bipush C dX9_layPlay_47 (by decide +kernel) ?_
    refine r_icmp_ge (tgt := 108) C h dX9_layPlay_49 (by decide) (fun h => ?_) (fun h => ?_)
    · exact hk29 _ _ _ _ h hp (lv_sub hl [0, 1] rfl)
    · refine r_jn (P := fun J => ∀ (M37 : g_M) (H : Heap) (locs : List Loc) (ls : Array Slot), J M37 = some res → g_PT mG V M37 s H locs → lv_has ls 4 [(0, .ref (V.2.2 0)), (1, .int (gI x26)), (2, .int (gI x27))] → W p l e R s m args below meth c H locs 0 0 Q (F0 m 102 ls [])) h ?_ (fun J30 hJ30 h => ?_)
      · intro M37 H locs ls h hp hl
        refine r_iinc (lv' := fun x38 => [(2, .int (gI x38)), (0, .ref (V.2.2 0)), (1, .int (gI x26))]) C h dX9_layPlay_102 hl (j := 2) rfl (by decide) (fun _ => rfl) (fun x38 ls h hl => ?_)
        refine r_goto (tgt := 46) C dX9_layPlay_105 (by decide) ?_
        exact ih _ _ _ _ _ h hp (lv_sub hl [1, 2, 0] rfl)
      refine lv_aload_n C.1 C.2.1 dX9_layPlay_52 rfl (lv_at hl 0 rfl) ?_
      refine r_getr (t := 11) C hp mk_0 ms_0 mc_0 min_0 (j := 29) (by decide) rfl gw_1285 rfl dX9_layPlay_53 ?_
      refine lv_iload_n C.1 C.2.1 dX9_layPlay_56 rfl (lv_at hl 2 rfl) ?_
      refine r_iald C hp h mk_11 ms_11 dX9_layPlay_57 (fun h => ?_)
      refine r_ldcw (n := 1000000) C gw_1778 (by decide +kernel) dX9_layPlay_58 ?_
      refine r_icmp_eq (tgt := 67) C h dX9_layPlay_61 (by decide) (fun h => ?_) (fun h => ?_)
      · refine r_jn (P := fun J => ∀ (x34 : Int) (H : Heap) (locs : List Loc) (ls : Array Slot), J x34 = some res → g_PT mG V M28 s H locs → lv_has ls 4 [(0, .ref (V.2.2 0)), (1, .int (gI x26)), (2, .int (gI x27))] → W p l e R s m args below meth c H locs 0 0 Q (F0 m 89 ls [.int (gI x34)])) h ?_ (fun J31 hJ31 h => ?_)
        · intro x34 H locs ls h hp hl
          refine r_istore_n (lv' := fun x35 => [(3, .int (gI x35)), (0, .ref (V.2.2 0)), (1, .int (gI x26)), (2, .int (gI x27))]) C h dX9_layPlay_89 rfl hl (by decide) (fun _ => rfl) (fun x35 ls h hl => ?_)
          refine lv_iload_n C.1 C.2.1 dX9_layPlay_90 rfl (lv_at hl 0 rfl) ?_
          refine lv_iload_n C.1 C.2.1 dX9_layPlay_91 rfl (lv_at hl 2 rfl) ?_
          refine r_icmp_ne (tgt := 102) C h dX9_layPlay_92 (by decide) (fun h => ?_) (fun h => ?_)
          · exact hJ30 _ _ _ _ h hp (lv_sub hl [1, 2, 3] rfl)
          · refine lv_aload_n C.1 C.2.1 dX9_layPlay_95 rfl (lv_at hl 1 rfl) ?_
            refine r_getr (t := 11) C hp mk_0 ms_0 mc_0 min_0 (j := 29) (by decide) rfl gw_1285 rfl dX9_layPlay_96 ?_
            refine lv_iload_n C.1 C.2.1 dX9_layPlay_99 rfl (lv_at hl 3 rfl) ?_
            refine lv_iload_n C.1 C.2.1 dX9_layPlay_100 rfl (lv_at hl 2 rfl) ?_
            refine r_iast C hp h mk_11 ms_11 dX9_layPlay_101 (fun M36 H locs h hp => ?_)
            exact hJ30 _ _ _ _ h hp (lv_sub hl [1, 2, 3] rfl)
        refine lv_iload_n C.1 C.2.1 dX9_layPlay_67 rfl (lv_at hl 2 rfl) ?_
        refine r_bipush C dX9_layPlay_68 (by decide +kernel) ?_
        refine r_icmp_ge (tgt := 81) C h dX9_layPlay_70 (by decide) (fun h => ?_) (fun h => ?_)
        · refine lv_aload_n C.1 C.2.1 dX9_layPlay_81 rfl (lv_at hl 0 rfl) ?_
          refine lv_iload_n C.1 C.2.1 dX9_layPlay_82 rfl (lv_at hl 2 rfl) ?_
          refine r_bipush C dX9_layPlay_83 (by decide +kernel) ?_
          refine r_isub C dX9_layPlay_85 ?_
          obtain ⟨x32, hr, h⟩ := bd_of h
          refine r_callVI (As := [.int (gI (x27 - 13))]) (rest := []) C hl.1 hp (c_X9_latestFrom l C.2.2.2.2.2.2.2.2.2.2.2 hr) gw_1791 gw_1793 gw_102 mk_0 ms_0 mc_0 cal_X9_latestFrom rfl rfl (Nat.le_of_ble_eq_true rfl) ⟨Nat.le_of_ble_eq_true rfl, Nat.le_of_ble_eq_true rfl⟩ dX9_layPlay_86 (fun H locs hp => ?_)
          exact hJ31 _ _ _ _ h hp hl
        · refine lv_aload_n C.1 C.2.1 dX9_layPlay_73 rfl (lv_at hl 0 rfl) ?_
          refine lv_iload_n C.1 C.2.1 dX9_layPlay_74 rfl (lv_at hl 2 rfl) ?_
          obtain ⟨x33, hr, h⟩ := bd_of h
          refine r_callVI (As := [.int (gI x27)]) (rest := []) C hl.1 hp (c_X9_soonestFrom l C.2.2.2.2.2.2.2.2.2.2.2 hr) gw_1787 gw_1789 gw_101 mk_0 ms_0 mc_0 cal_X9_soonestFrom rfl rfl (Nat.le_of_ble_eq_true rfl) ⟨Nat.le_of_ble_eq_true rfl, Nat.le_of_ble_eq_true rfl⟩ dX9_layPlay_75 (fun H locs hp => ?_)
          refine r_goto (tgt := 89) C dX9_layPlay_78 (by decide) ?_
          exact hJ31 _ _ _ _ h hp hl
      · refine r_goto (tgt := 102) C dX9_layPlay_64 (by decide) ?_
        exact hJ30 _ _ _ _ h hp hl
set_option maxRecDepth 100000 in
set_option maxHeartbeats 4000000 in
theorem w_X9_layPlay_L38 (C : g_CX mG V p R s m args meth c cX9_layPlay 4 none RX9 2 45) {res : g_M} (hR : g_RetV mG V p l e R s m args below meth c Q cX9_layPlay res)    : ∀ (f : Nat) (x23 : Int) (M24 : g_M) (H : Heap) (locs : List Loc) (ls : Array Slot), m_X9_layPlay_L38  f x23 M24 = some res → g_PT mG V M24 s H locs → lv_has ls 4 [(0, .ref (V.2.2 0)), (1, .int (gI x23))] → W p l e R s m args below meth c H locs 0 0 Q (F0 m 38 ls []) := by
  intro f
  induction f with
  | zero => intro x23 M24 H locs ls h hp hl; cases h
  | succ f ih =>
    intro x23 M24 H locs ls h hp hl
    rw [m_X9_layPlay_L38] at h
    refine lv_iload_n C.1 C.2.1 dX9_layPlay_38 rfl (lv_at hl 1 rfl) ?_
    refine r_bipush C dX9_layPlay_39 (by decide +kernel) ?_
    refine r_icmp_gt (tgt := 114) C h dX9_layPlay_41 (by decide) (fun h => ?_) (fun h => ?_)
    · cases h
      exact hR _ _ _ _ dX9_layPlay_114 hp
    · refine r_iconst C dX9_layPlay_44 ?_
      refine r_istore_n (lv' := fun x25 => [(2, .int (gI x25)), (0, .ref (V.2.2 0)), (1, .int (gI x23))]) C h dX9_layPlay_45 rfl hl (by decide) (fun _ => rfl) (fun x25 ls h hl => ?_)
      refine w_X9_layPlay_L46 C hR _ _ ?_ _ _ _ H locs ls h hp (lv_sub hl [1, 2, 0] rfl)
      · intro M40 H locs ls h hp hl
        refine r_iinc (lv' := fun x41 => [(1, .int (gI x41)), (0, .ref (V.2.2 0))]) C h dX9_layPlay_108 hl (j := 1) rfl (by decide) (fun _ => rfl) (fun x41 ls h hl => ?_)
        refine r_goto (tgt := 38) C dX9_layPlay_111 (by decide) ?_
        exact ih _ _ _ _ _ h hp (lv_sub hl [1, 0] rfl)
set_option maxRecDepth 100000 in
set_option maxHeartbeats 4000000 in
theorem b_X9_layPlay (C : g_CX mG V p R s m args meth c cX9_layPlay 4 none RX9 2 45) {res : g_M} (hR : g_RetV mG V p l e R s m args below meth c Q cX9_layPlay res)  {M : g_M} {H : Heap} {locs : List Loc} {ls : Array Slot} (h : m_X9_layPlay M = some res) (hp : g_PT mG V M s H locs) (hl : lv_has ls 4 [(0, .ref (V.2.2 0))]) : W p l e R s m args below meth c H locs 0 0 Q (F0 m 0 ls []) := by
  unfold m_X9_layPlay at h
  refine r_iconst C dX9_layPlay_0 ?_
  refine r_istore_n (lv' := fun x11 => [(1, .int (gI x11)), (0, .ref (V.2.2 0))]) C h dX9_layPlay_1 rfl hl (by decide) (fun _ => rfl) (fun x11 ls h hl => ?_)
  refine w_X9_layPlay_L2 C hR _ ?_ _ _ _ H locs ls h hp (lv_sub hl [1, 0] rfl)
  · intro M21 H locs ls h hp hl
    refine r_iconst C dX9_layPlay_36 ?_
    refine r_istore_n (lv' := fun x22 => [(1, .int (gI x22)), (0, .ref (V.2.2 0))]) C h dX9_layPlay_37 rfl hl (by decide) (fun _ => rfl) (fun x22 ls h hl => ?_)
    refine w_X9_layPlay_L38 C hR _ _ _ H locs ls h hp (lv_sub hl [1, 0] rfl)
theorem c_X9_layPlay (l : Launch) {V : g_V} (hok : g_ok mG V)  {M : g_M} {res : g_M} (h : m_X9_layPlay M = some res) : MetV mG V l yX9_layPlay cX9_layPlay 4 none 2 45 [.ref (V.2.2 0)] M res :=
  g_metV hok cal_X9_layPlay.2.2.2 rfl (Nat.le_of_ble_eq_true rfl) (@fun p e R s m args below meth c Q ls C hR hp hl => b_X9_layPlay C hR h hp hl)
set_option maxRecDepth 100000 in
set_option maxHeartbeats 4000000 in
theorem b_X9_soonest (C : g_CX mG V p R s m args meth c cX9_soonest 4 (some .int) RX9 3 68) {res : Int × g_M} (hR : g_RetI mG V p l e R s m args below meth c Q cX9_soonest .int res.1 res.2) {a1 : Int} {a2 : Int} {M : g_M} {H : Heap} {locs : List Loc} {ls : Array Slot} (h : m_X9_soonest a1 a2 M = some res) (hp : g_PT mG V M s H locs) (hl : lv_has ls 4 [(0, .ref (V.2.2 0)), (1, .int (gI a1)), (2, .int (gI a2))]) : W p l e R s m args below meth c H locs 0 0 Q (F0 m 0 ls []) := by
  unfold m_X9_soonest at h
  refine lv_iload_n C.1 C.2.1 dX9_soonest_0 rfl (lv_at hl 1 rfl) ?_
  obtain ⟨x11, hr, h⟩ := bd_of h
  refine r_callSI (As := [.int (gI a1)]) (rest := []) C hl.1 hp (c_X9_isAny l C.2.2.2.2.2.2.2.2.2.2.2 hr) gw_1388 gw_1389 cal_X9_isAny rfl rfl (Nat.le_of_ble_eq_true rfl) ⟨Nat.le_of_ble_eq_true rfl, Nat.le_of_ble_eq_true rfl⟩ dX9_soonest_1 (fun H locs hp => ?_)
  refine r_if_ne (tgt := 10) C h dX9_soonest_4 (by decide) (fun h => ?_) (fun h => ?_)
  · refine r_jn (P := fun J => ∀ (x14 : Int) (M15 : g_M) (H : Heap) (locs : List Loc) (ls : Array Slot), J x14 M15 = some res → g_PT mG V M15 s H locs → lv_has ls 4 [] → W p l e R s m args below meth c H locs 0 0 Q (F0 m 30 ls [.int (gI x14), .ref (V.2.2 11)])) h ?_ (fun J12 hJ12 h => ?_)
    · intro x14 M15 H locs ls h hp hl
      refine r_iald C hp h mk_11 ms_11 dX9_soonest_30 (fun h => ?_)
      refine r_istore_n (lv' := fun x16 => [(3, .int (gI x16))]) C h dX9_soonest_31 rfl hl (by decide) (fun _ => rfl) (fun x16 ls h hl => ?_)
      refine lv_iload_n C.1 C.2.1 dX9_soonest_32 rfl (lv_at hl 0 rfl) ?_
      refine r_ldcw (n := 1000000) C gw_1778 (by decide +kernel) dX9_soonest_33 ?_
      refine r_icmp_ne (tgt := 43) C h dX9_soonest_36 (by decide) (fun h => ?_) (fun h => ?_)
      · refine lv_iload_n C.1 C.2.1 dX9_soonest_43 rfl (lv_at hl 0 rfl) ?_
        cases h
        exact hR _ _ _ _ dX9_soonest_44 rfl hp
      · refine r_iconst C dX9_soonest_39 ?_
        refine r_goto (tgt := 44) C dX9_soonest_40 (by decide) ?_
        cases h
        exact hR _ _ _ _ dX9_soonest_44 rfl hp
    refine lv_aload_n C.1 C.2.1 dX9_soonest_10 rfl (lv_at hl 0 rfl) ?_
    obtain ⟨M13, hr, h⟩ := bd_of h
    refine r_callVV (As := []) (rest := []) C hl.1 hp (c_X9_layPlay l C.2.2.2.2.2.2.2.2.2.2.2 hr) gw_1783 gw_1785 gw_100 mk_0 ms_0 mc_0 cal_X9_layPlay rfl rfl (Nat.le_of_ble_eq_true rfl) ⟨Nat.le_of_ble_eq_true rfl, Nat.le_of_ble_eq_true rfl⟩ dX9_soonest_11 (fun H locs hp => ?_)
    refine lv_aload_n C.1 C.2.1 dX9_soonest_14 rfl (lv_at hl 0 rfl) ?_
    refine r_getr (t := 11) C hp mk_0 ms_0 mc_0 min_0 (j := 29) (by decide) rfl gw_1285 rfl dX9_soonest_15 ?_
    refine lv_iload_n C.1 C.2.1 dX9_soonest_18 rfl (lv_at hl 2 rfl) ?_
    refine r_if_eq (tgt := 26) C h dX9_soonest_19 (by decide) (fun h => ?_) (fun h => ?_)
    · refine r_bipush C dX9_soonest_26 (by decide +kernel) ?_
      refine lv_iload_n C.1 C.2.1 dX9_soonest_28 rfl (lv_at hl 1 rfl) ?_
      refine r_iadd C dX9_soonest_29 ?_
      exact hJ12 _ _ _ _ _ h hp (lv_sub hl [] rfl)
    · refine lv_iload_n C.1 C.2.1 dX9_soonest_22 rfl (lv_at hl 1 rfl) ?_
      refine r_goto (tgt := 30) C dX9_soonest_23 (by decide) ?_
      exact hJ12 _ _ _ _ _ h hp (lv_sub hl [] rfl)
  · refine r_bipush C dX9_soonest_7 (by decide +kernel) ?_
    cases h
    exact hR _ _ _ _ dX9_soonest_9 rfl hp
theorem c_X9_soonest (l : Launch) {V : g_V} (hok : g_ok mG V) {a1 : Int} {a2 : Int} {M : g_M} {x : Int} {M2 : g_M} (h : m_X9_soonest a1 a2 M = some (x, M2)) : MetI mG V l yX9_soonest cX9_soonest 4 (some .int) 3 68 [.ref (V.2.2 0), .int (gI a1), .int (gI a2)] M x M2 :=
  g_metI hok cal_X9_soonest.2.2.2 rfl (Nat.le_of_ble_eq_true rfl) (@fun p e R s m args below meth c Q ls C hR hp hl => b_X9_soonest C hR h hp hl)
set_option maxRecDepth 100000 in
set_option maxHeartbeats 4000000 in
theorem w_X9_best_L36 (C : g_CX mG V p R s m args meth c cX9_best 7 (some .int) RX9 3 68) {res : Int × g_M} (hR : g_RetI mG V p l e R s m args below meth c Q cX9_best .int res.1 res.2) (x17 : Int) (x18 : Int) (M21 : g_M)   : ∀ (f : Nat) (x19 : Int) (x20 : Int) (H : Heap) (locs : List Loc) (ls : Array Slot), m_X9_best_L36 x17 x18 M21  f x19 x20 = some res → g_PT mG V M21 s H locs → lv_has ls 7 [(0, .ref (V.2.2 0)), (1, .int (gI x17)), (2, .int (gI x18)), (3, .int (gI x19)), (4, .int (gI x20))] → W p l e R s m args below meth c H locs 0 0 Q (F0 m 36 ls []) := by
  intro f
  induction f with
  | zero => intro x19 x20 H locs ls h hp hl; cases h
  | succ f ih =>
    intro x19 x20 H locs ls h hp hl
    rw [m_X9_best_L36] at h
    refine lv_iload C.1 C.2.1 dX9_best_36 (lv_at hl 4 rfl) ?_
    refine r_iconst C dX9_best_38 ?_
    refine r_icmp_ge (tgt := 121) C h dX9_best_39 (by decide) (fun h => ?_) (fun h => ?_)
    · refine lv_iload_n C.1 C.2.1 dX9_best_121 rfl (lv_at hl 3 rfl) ?_
      cases h
      exact hR _ _ _ _ dX9_best_122 rfl hp
    · refine r_jn (P := fun J => ∀ (x23 : Int) (H : Heap) (locs : List Loc) (ls : Array Slot), J x23 = some res → g_PT mG V M21 s H locs → lv_has ls 7 [(0, .ref (V.2.2 0)), (1, .int (gI x17)), (2, .int (gI x18)), (3, .int (gI x19)), (4, .int (gI x20))] → W p l e R s m args below meth c H locs 0 0 Q (F0 m 56 ls [.int (gI x23), .ref (V.2.2 11)])) h ?_ (fun J22 hJ22 h => ?_)
      · intro x23 H locs ls h hp hl
        refine r_jn (P := fun J => ∀ (x27 : Int) (x28 : Int) (H : Heap) (locs : List Loc) (ls : Array Slot), J x27 x28 = some res → g_PT mG V M21 s H locs → lv_has ls 7 [(0, .ref (V.2.2 0)), (1, .int (gI x17)), (2, .int (gI x18)), (3, .int (gI x19)), (4, .int (gI x20)), (5, .int (gI x27))] → W p l e R s m args below meth c H locs 0 0 Q (F0 m 81 ls [.int (gI x28), .ref (V.2.2 11)])) h ?_ (fun J24 hJ24 h => ?_)
        · intro x27 x28 H locs ls h hp hl
          refine r_jn (P := fun J => ∀ (x33 : Int) (H : Heap) (locs : List Loc) (ls : Array Slot), J x33 = some res → g_PT mG V M21 s H locs → lv_has ls 7 [(0, .ref (V.2.2 0)), (1, .int (gI x17)), (2, .int (gI x18)), (3, .int (gI x33)), (4, .int (gI x20))] → W p l e R s m args below meth c H locs 0 0 Q (F0 m 115 ls [])) h ?_ (fun J30 hJ30 h => ?_)
          · intro x33 H locs ls h hp hl
            refine r_iinc (lv' := fun x35 => [(4, .int (gI x35)), (0, .ref (V.2.2 0)), (1, .int (gI x17)), (2, .int (gI x18)), (3, .int (gI x33))]) C h dX9_best_115 hl (j := 4) rfl (by decide) (fun _ => rfl) (fun x35 ls h hl => ?_)
            refine r_goto (tgt := 36) C dX9_best_118 (by decide) ?_
            exact ih _ _ _ _ _ h hp (lv_sub hl [1, 2, 3, 4, 0] rfl)
          refine r_jn (P := fun J => ∀  (H : Heap) (locs : List Loc) (ls : Array Slot), J  = some res → g_PT mG V M21 s H locs → lv_has ls 7 [(0, .ref (V.2.2 0)), (1, .int (gI x17)), (2, .int (gI x18)), (4, .int (gI x20))] → W p l e R s m args below meth c H locs 0 0 Q (F0 m 112 ls [])) h ?_ (fun J29 hJ29 h => ?_)
          · intro  H locs ls h hp hl
            refine lv_iload C.1 C.2.1 dX9_best_112 (lv_at hl 3 rfl) ?_
            refine r_istore_n (lv' := fun x34 => [(3, .int (gI x34)), (0, .ref (V.2.2 0)), (1, .int (gI x17)), (2, .int (gI x18)), (4, .int (gI x20))]) C h dX9_best_114 rfl hl (by decide) (fun _ => rfl) (fun x34 ls h hl => ?_)
            exact hJ30 _ _ _ _ h hp (lv_sub hl [1, 2, 3, 0, 4] rfl)
          refine lv_aload_n C.1 C.2.1 dX9_best_81 rfl (lv_at hl 0 rfl) ?_
          refine lv_iload_n C.1 C.2.1 dX9_best_82 rfl (lv_at hl 1 rfl) ?_
          refine lv_iload_n C.1 C.2.1 dX9_best_83 rfl (lv_at hl 3 rfl) ?_
          obtain ⟨x31, hr, h⟩ := bd_of h
          refine r_callVI (As := [.int (gI x17), .int (gI x19)]) (rest := [.int (gI x28), .ref (V.2.2 11)]) C hl.1 hp (c_X9_nextOf l C.2.2.2.2.2.2.2.2.2.2.2 hr) gw_1603 gw_1605 gw_81 mk_0 ms_0 mc_0 cal_X9_nextOf rfl rfl (Nat.le_of_ble_eq_true rfl) ⟨Nat.le_of_ble_eq_true rfl, Nat.le_of_ble_eq_true rfl⟩ dX9_best_84 (fun H locs hp => ?_)
          refine r_iadd C dX9_best_87 ?_
          refine r_iald C hp h mk_11 ms_11 dX9_best_88 (fun h => ?_)
          refine r_istore (lv' := fun x32 => [(6, .int (gI x32)), (0, .ref (V.2.2 0)), (1, .int (gI x17)), (2, .int (gI x18)), (3, .int (gI x19)), (4, .int (gI x20)), (5, .int (gI x27))]) C h dX9_best_89 hl (by decide) (fun _ => rfl) (fun x32 ls h hl => ?_)
          refine lv_iload_n C.1 C.2.1 dX9_best_91 rfl (lv_at hl 3 rfl) ?_
          refine r_if_eq (tgt := 105) C h dX9_best_92 (by decide) (fun h => ?_) (fun h => ?_)
          · refine lv_iload C.1 C.2.1 dX9_best_105 (lv_at hl 6 rfl) ?_
            refine lv_iload C.1 C.2.1 dX9_best_107 (lv_at hl 0 rfl) ?_
            refine r_icmp_le (tgt := 115) C h dX9_best_109 (by decide) (fun h => ?_) (fun h => ?_)
            · exact hJ30 _ _ _ _ h hp (lv_sub hl [1, 2, 3, 4, 5] rfl)
            · exact hJ29  _ _ _ h hp (lv_sub hl [1, 2, 3, 5] rfl)
          · refine lv_iload C.1 C.2.1 dX9_best_95 (lv_at hl 6 rfl) ?_
            refine lv_iload C.1 C.2.1 dX9_best_97 (lv_at hl 0 rfl) ?_
            refine r_icmp_ge (tgt := 115) C h dX9_best_99 (by decide) (fun h => ?_) (fun h => ?_)
            · exact hJ30 _ _ _ _ h hp (lv_sub hl [1, 2, 3, 4, 5] rfl)
            · refine r_goto (tgt := 112) C dX9_best_102 (by decide) ?_
              exact hJ29  _ _ _ h hp (lv_sub hl [1, 2, 3, 5] rfl)
        refine lv_aload_n C.1 C.2.1 dX9_best_56 rfl (lv_at hl 0 rfl) ?_
        refine lv_iload_n C.1 C.2.1 dX9_best_57 rfl (lv_at hl 1 rfl) ?_
        refine lv_iload C.1 C.2.1 dX9_best_58 (lv_at hl 4 rfl) ?_
        obtain ⟨x25, hr, h⟩ := bd_of h
        refine r_callVI (As := [.int (gI x17), .int (gI x20)]) (rest := [.int (gI x23), .ref (V.2.2 11)]) C hl.1 hp (c_X9_nextOf l C.2.2.2.2.2.2.2.2.2.2.2 hr) gw_1603 gw_1605 gw_81 mk_0 ms_0 mc_0 cal_X9_nextOf rfl rfl (Nat.le_of_ble_eq_true rfl) ⟨Nat.le_of_ble_eq_true rfl, Nat.le_of_ble_eq_true rfl⟩ dX9_best_60 (fun H locs hp => ?_)
        refine r_iadd C dX9_best_63 ?_
        refine r_iald C hp h mk_11 ms_11 dX9_best_64 (fun h => ?_)
        refine r_istore (lv' := fun x26 => [(5, .int (gI x26)), (0, .ref (V.2.2 0)), (1, .int (gI x17)), (2, .int (gI x18)), (3, .int (gI x19)), (4, .int (gI x20))]) C h dX9_best_65 hl (by decide) (fun _ => rfl) (fun x26 ls h hl => ?_)
        refine lv_aload_n C.1 C.2.1 dX9_best_67 rfl (lv_at hl 1 rfl) ?_
        refine r_getr (t := 11) C hp mk_0 ms_0 mc_0 min_0 (j := 29) (by decide) rfl gw_1285 rfl dX9_best_68 ?_
        refine lv_iload_n C.1 C.2.1 dX9_best_71 rfl (lv_at hl 3 rfl) ?_
        refine r_if_eq (tgt := 80) C h dX9_best_72 (by decide) (fun h => ?_) (fun h => ?_)
        · refine r_iconst C dX9_best_80 ?_
          exact hJ24 _ _ _ _ _ h hp (lv_sub hl [1, 2, 3, 4, 5, 0] rfl)
        · refine r_bipush C dX9_best_75 (by decide +kernel) ?_
          refine r_goto (tgt := 81) C dX9_best_77 (by decide) ?_
          exact hJ24 _ _ _ _ _ h hp (lv_sub hl [1, 2, 3, 4, 5, 0] rfl)
      refine lv_aload_n C.1 C.2.1 dX9_best_42 rfl (lv_at hl 0 rfl) ?_
      refine r_getr (t := 11) C hp mk_0 ms_0 mc_0 min_0 (j := 29) (by decide) rfl gw_1285 rfl dX9_best_43 ?_
      refine lv_iload_n C.1 C.2.1 dX9_best_46 rfl (lv_at hl 2 rfl) ?_
      refine r_if_eq (tgt := 55) C h dX9_best_47 (by decide) (fun h => ?_) (fun h => ?_)
      · refine r_iconst C dX9_best_55 ?_
        exact hJ22 _ _ _ _ h hp hl
      · refine r_bipush C dX9_best_50 (by decide +kernel) ?_
        refine r_goto (tgt := 56) C dX9_best_52 (by decide) ?_
        exact hJ22 _ _ _ _ h hp hl
set_option maxRecDepth 100000 in
set_option maxHeartbeats 4000000 in
theorem b_X9_best (C : g_CX mG V p R s m args meth c cX9_best 7 (some .int) RX9 3 68) {res : Int × g_M} (hR : g_RetI mG V p l e R s m args below meth c Q cX9_best .int res.1 res.2) {a1 : Int} {a2 : Int} {M : g_M} {H : Heap} {locs : List Loc} {ls : Array Slot} (h : m_X9_best a1 a2 M = some res) (hp : g_PT mG V M s H locs) (hl : lv_has ls 7 [(0, .ref (V.2.2 0)), (1, .int (gI a1)), (2, .int (gI a2))]) : W p l e R s m args below meth c H locs 0 0 Q (F0 m 0 ls []) := by
  unfold m_X9_best at h
  refine lv_iload_n C.1 C.2.1 dX9_best_0 rfl (lv_at hl 1 rfl) ?_
  obtain ⟨x11, hr, h⟩ := bd_of h
  refine r_callSI (As := [.int (gI a1)]) (rest := []) C hl.1 hp (c_X9_isScene l C.2.2.2.2.2.2.2.2.2.2.2 hr) gw_1385 gw_1386 cal_X9_isScene rfl rfl (Nat.le_of_ble_eq_true rfl) ⟨Nat.le_of_ble_eq_true rfl, Nat.le_of_ble_eq_true rfl⟩ dX9_best_1 (fun H locs hp => ?_)
  refine r_if_ne (tgt := 9) C h dX9_best_4 (by decide) (fun h => ?_) (fun h => ?_)
  · refine r_jn (P := fun J => ∀ (M14 : g_M) (H : Heap) (locs : List Loc) (ls : Array Slot), J M14 = some res → g_PT mG V M14 s H locs → lv_has ls 7 [(0, .ref (V.2.2 0)), (1, .int (gI a1)), (2, .int (gI a2))] → W p l e R s m args below meth c H locs 0 0 Q (F0 m 31 ls [])) h ?_ (fun J12 hJ12 h => ?_)
    · intro M14 H locs ls h hp hl
      refine r_iconst C dX9_best_31 ?_
      refine r_istore_n (lv' := fun x15 => [(3, .int (gI x15)), (0, .ref (V.2.2 0)), (1, .int (gI a1)), (2, .int (gI a2))]) C h dX9_best_32 rfl hl (by decide) (fun _ => rfl) (fun x15 ls h hl => ?_)
      refine r_iconst C dX9_best_33 ?_
      refine r_istore (lv' := fun x16 => [(4, .int (gI x16)), (3, .int (gI x15)), (0, .ref (V.2.2 0)), (1, .int (gI a1)), (2, .int (gI a2))]) C h dX9_best_34 hl (by decide) (fun _ => rfl) (fun x16 ls h hl => ?_)
      refine w_X9_best_L36 C hR _ _ _ _ _ _ H locs ls h hp (lv_sub hl [2, 3, 4, 1, 0] rfl)
    refine lv_aload_n C.1 C.2.1 dX9_best_9 rfl (lv_at hl 0 rfl) ?_
    obtain ⟨M13, hr, h⟩ := bd_of h
    refine r_callVV (As := []) (rest := []) C hl.1 hp (c_X9_layPlay l C.2.2.2.2.2.2.2.2.2.2.2 hr) gw_1783 gw_1785 gw_100 mk_0 ms_0 mc_0 cal_X9_layPlay rfl rfl (Nat.le_of_ble_eq_true rfl) ⟨Nat.le_of_ble_eq_true rfl, Nat.le_of_ble_eq_true rfl⟩ dX9_best_10 (fun H locs hp => ?_)
    refine lv_iload_n C.1 C.2.1 dX9_best_13 rfl (lv_at hl 2 rfl) ?_
    refine r_if_eq (tgt := 31) C h dX9_best_14 (by decide) (fun h => ?_) (fun h => ?_)
    · exact hJ12 _ _ _ _ h hp hl
    · refine lv_aload_n C.1 C.2.1 dX9_best_17 rfl (lv_at hl 0 rfl) ?_
      refine r_getr (t := 11) C hp mk_0 ms_0 mc_0 min_0 (j := 29) (by decide) rfl gw_1285 rfl dX9_best_18 ?_
      refine lv_iload_n C.1 C.2.1 dX9_best_21 rfl (lv_at hl 1 rfl) ?_
      refine r_iald C hp h mk_11 ms_11 dX9_best_22 (fun h => ?_)
      refine r_ldcw (n := 1000000) C gw_1778 (by decide +kernel) dX9_best_23 ?_
      refine r_icmp_ne (tgt := 31) C h dX9_best_26 (by decide) (fun h => ?_) (fun h => ?_)
      · exact hJ12 _ _ _ _ h hp hl
      · refine r_iconst C dX9_best_29 ?_
        cases h
        exact hR _ _ _ _ dX9_best_30 rfl hp
  · refine r_iconst C dX9_best_7 ?_
    cases h
    exact hR _ _ _ _ dX9_best_8 rfl hp
theorem c_X9_best (l : Launch) {V : g_V} (hok : g_ok mG V) {a1 : Int} {a2 : Int} {M : g_M} {x : Int} {M2 : g_M} (h : m_X9_best a1 a2 M = some (x, M2)) : MetI mG V l yX9_best cX9_best 7 (some .int) 3 68 [.ref (V.2.2 0), .int (gI a1), .int (gI a2)] M x M2 :=
  g_metI hok cal_X9_best.2.2.2 rfl (Nat.le_of_ble_eq_true rfl) (@fun p e R s m args below meth c Q ls C hR hp hl => b_X9_best C hR h hp hl)
set_option maxRecDepth 100000 in
set_option maxHeartbeats 4000000 in
theorem w_X9_goOn_L2 (C : g_CX mG V p R s m args meth c cX9_goOn 4 (some .long) RX9 1 22) {res : Int × g_M} (hR : g_RetL mG V p l e R s m args below meth c Q cX9_goOn res.1 res.2) (x12 : Int) (k15 : g_M → Option (Int × g_M)) (hk15 : ∀ (M18 : g_M) (H : Heap) (locs : List Loc) (ls : Array Slot), k15 M18 = some res → g_PT mG V M18 s H locs → lv_has ls 4 [(0, .ref (V.2.2 0)), (1, .int (gI x12))] → W p l e R s m args below meth c H locs 0 0 Q (F0 m 21 ls [])) : ∀ (f : Nat) (x13 : Int) (M14 : g_M) (H : Heap) (locs : List Loc) (ls : Array Slot), m_X9_goOn_L2 x12 k15 f x13 M14 = some res → g_PT mG V M14 s H locs → lv_has ls 4 [(0, .ref (V.2.2 0)), (1, .int (gI x12)), (2, .int (gI x13))] → W p l e R s m args below meth c H locs 0 0 Q (F0 m 2 ls []) := by
  intro f
  induction f with
  | zero => intro x13 M14 H locs ls h hp hl; cases h
  | succ f ih =>
    intro x13 M14 H locs ls h hp hl
    rw [m_X9_goOn_L2] at h
    refine lv_iload_n C.1 C.2.1 dX9_goOn_2 rfl (lv_at hl 2 rfl) ?_
    refine r_bipush C dX9_goOn_3 (by decide +kernel) ?_
    refine r_icmp_ge (tgt := 21) C h dX9_goOn_5 (by decide) (fun h => ?_) (fun h => ?_)
    · exact hk15 _ _ _ _ h hp (lv_sub hl [0, 1] rfl)
    · refine lv_aload_n C.1 C.2.1 dX9_goOn_8 rfl (lv_at hl 0 rfl) ?_
      refine r_getr (t := 13) C hp mk_0 ms_0 mc_0 min_0 (j := 31) (by decide) rfl gw_1287 rfl dX9_goOn_9 ?_
      refine lv_iload_n C.1 C.2.1 dX9_goOn_12 rfl (lv_at hl 2 rfl) ?_
      refine r_lconst (z := 0) C dX9_goOn_13 rfl ?_
      refine r_last C hp h mk_13 ms_13 dX9_goOn_14 (fun M16 H locs h hp => ?_)
      refine r_iinc (lv' := fun x17 => [(2, .int (gI x17)), (0, .ref (V.2.2 0)), (1, .int (gI x12))]) C h dX9_goOn_15 hl (j := 2) rfl (by decide) (fun _ => rfl) (fun x17 ls h hl => ?_)
      refine r_goto (tgt := 2) C dX9_goOn_18 (by decide) ?_
      exact ih _ _ _ _ _ h hp (lv_sub hl [1, 2, 0] rfl)
set_option maxRecDepth 100000 in
set_option maxHeartbeats 4000000 in
theorem w_X9_goOn_L31 (C : g_CX mG V p R s m args meth c cX9_goOn 4 (some .long) RX9 1 22) {res : Int × g_M} (hR : g_RetL mG V p l e R s m args below meth c Q cX9_goOn res.1 res.2) (x26 : Int) (x27 : Int) (k30 : g_M → Option (Int × g_M)) (hk30 : ∀ (M39 : g_M) (H : Heap) (locs : List Loc) (ls : Array Slot), k30 M39 = some res → g_PT mG V M39 s H locs → lv_has ls 4 [(0, .ref (V.2.2 0)), (1, .int (gI x26)), (2, .int (gI x27))] → W p l e R s m args below meth c H locs 0 0 Q (F0 m 82 ls [])) : ∀ (f : Nat) (x28 : Int) (M29 : g_M) (H : Heap) (locs : List Loc) (ls : Array Slot), m_X9_goOn_L31 x26 x27 k30 f x28 M29 = some res → g_PT mG V M29 s H locs → lv_has ls 4 [(0, .ref (V.2.2 0)), (1, .int (gI x26)), (2, .int (gI x27)), (3, .int (gI x28))] → W p l e R s m args below meth c H locs 0 0 Q (F0 m 31 ls []) := by
  intro f
  induction f with
  | zero => intro x28 M29 H locs ls h hp hl; cases h
  | succ f ih =>
    intro x28 M29 H locs ls h hp hl
    rw [m_X9_goOn_L31] at h
    refine lv_iload_n C.1 C.2.1 dX9_goOn_31 rfl (lv_at hl 3 rfl) ?_
    refine r_iconst C dX9_goOn_32 ?_
    refine r_icmp_ge (tgt := 82) C h dX9_goOn_33 (by decide) (fun h => ?_) (fun h => ?_)
    · exact hk30 _ _ _ _ h hp (lv_sub hl [0, 1, 2] rfl)
    · refine r_jn (P := fun J => ∀ (x33 : Int) (x34 : Int) (x35 : Int) (x36 : Int) (H : Heap) (locs : List Loc) (ls : Array Slot), J x33 x34 x35 x36 = some res → g_PT mG V M29 s H locs → lv_has ls 4 [(0, .ref (V.2.2 0)), (1, .int (gI x26)), (2, .int (gI x27)), (3, .int (gI x28))] → W p l e R s m args below meth c H locs 0 0 Q (F0 m 72 ls [.int (gI x33), .long (gJ x34), .long (gJ x35), .int (gI x36), .ref (V.2.2 13)])) h ?_ (fun J31 hJ31 h => ?_)
      · intro x33 x34 x35 x36 H locs ls h hp hl
        refine r_i2l C dX9_goOn_72 ?_
        refine r_lmul C dX9_goOn_73 ?_
        refine r_ladd C dX9_goOn_74 ?_
        refine r_last C hp h mk_13 ms_13 dX9_goOn_75 (fun M37 H locs h hp => ?_)
        refine r_iinc (lv' := fun x38 => [(3, .int (gI x38)), (0, .ref (V.2.2 0)), (1, .int (gI x26)), (2, .int (gI x27))]) C h dX9_goOn_76 hl (j := 3) rfl (by decide) (fun _ => rfl) (fun x38 ls h hl => ?_)
        refine r_goto (tgt := 31) C dX9_goOn_79 (by decide) ?_
        exact ih _ _ _ _ _ h hp (lv_sub hl [1, 2, 3, 0] rfl)
      refine lv_aload_n C.1 C.2.1 dX9_goOn_36 rfl (lv_at hl 0 rfl) ?_
      refine r_getr (t := 13) C hp mk_0 ms_0 mc_0 min_0 (j := 31) (by decide) rfl gw_1287 rfl dX9_goOn_37 ?_
      refine lv_aload_n C.1 C.2.1 dX9_goOn_40 rfl (lv_at hl 0 rfl) ?_
      refine lv_iload_n C.1 C.2.1 dX9_goOn_41 rfl (lv_at hl 2 rfl) ?_
      refine lv_iload_n C.1 C.2.1 dX9_goOn_42 rfl (lv_at hl 3 rfl) ?_
      obtain ⟨x32, hr, h⟩ := bd_of h
      refine r_callVI (As := [.int (gI x27), .int (gI x28)]) (rest := [.ref (V.2.2 13)]) C hl.1 hp (c_X9_nextOf l C.2.2.2.2.2.2.2.2.2.2.2 hr) gw_1603 gw_1605 gw_81 mk_0 ms_0 mc_0 cal_X9_nextOf rfl rfl (Nat.le_of_ble_eq_true rfl) ⟨Nat.le_of_ble_eq_true rfl, Nat.le_of_ble_eq_true rfl⟩ dX9_goOn_43 (fun H locs hp => ?_)
      refine lv_dup2_11 C.1 C.2.1 dX9_goOn_46 rfl rfl ?_
      refine r_lald C hp h mk_13 ms_13 dX9_goOn_47 (fun h => ?_)
      refine lv_aload_n C.1 C.2.1 dX9_goOn_48 rfl (lv_at hl 0 rfl) ?_
      refine r_getr (t := 12) C hp mk_0 ms_0 mc_0 min_0 (j := 30) (by decide) rfl gw_1286 rfl dX9_goOn_49 ?_
      refine lv_iload_n C.1 C.2.1 dX9_goOn_52 rfl (lv_at hl 2 rfl) ?_
      refine r_lald C hp h mk_12 ms_12 dX9_goOn_53 (fun h => ?_)
      refine lv_iload_n C.1 C.2.1 dX9_goOn_54 rfl (lv_at hl 1 rfl) ?_
      refine r_if_eq (tgt := 71) C h dX9_goOn_55 (by decide) (fun h => ?_) (fun h => ?_)
      · refine r_iconst C dX9_goOn_71 ?_
        exact hJ31 _ _ _ _ _ _ _ h hp hl
      · refine lv_aload_n C.1 C.2.1 dX9_goOn_58 rfl (lv_at hl 0 rfl) ?_
        refine r_getr (t := 1) C hp mk_0 ms_0 mc_0 min_0 (j := 0) (by decide) rfl gw_1256 rfl dX9_goOn_59 ?_
        refine r_sipush C dX9_goOn_62 (by decide +kernel) ?_
        refine lv_iload_n C.1 C.2.1 dX9_goOn_65 rfl (lv_at hl 3 rfl) ?_
        refine r_iadd C dX9_goOn_66 ?_
        refine r_iald C hp h mk_1 ms_1 dX9_goOn_67 (fun h => ?_)
        refine r_goto (tgt := 72) C dX9_goOn_68 (by decide) ?_
        exact hJ31 _ _ _ _ _ _ _ h hp hl
set_option maxRecDepth 100000 in
set_option maxHeartbeats 4000000 in
theorem w_X9_goOn_L23 (C : g_CX mG V p R s m args meth c cX9_goOn 4 (some .long) RX9 1 22) {res : Int × g_M} (hR : g_RetL mG V p l e R s m args below meth c Q cX9_goOn res.1 res.2) (x21 : Int) (k24 : g_M → Option (Int × g_M)) (hk24 : ∀ (M42 : g_M) (H : Heap) (locs : List Loc) (ls : Array Slot), k24 M42 = some res → g_PT mG V M42 s H locs → lv_has ls 4 [(0, .ref (V.2.2 0))] → W p l e R s m args below meth c H locs 0 0 Q (F0 m 88 ls [])) : ∀ (f : Nat) (x22 : Int) (M23 : g_M) (H : Heap) (locs : List Loc) (ls : Array Slot), m_X9_goOn_L23 x21 k24 f x22 M23 = some res → g_PT mG V M23 s H locs → lv_has ls 4 [(0, .ref (V.2.2 0)), (1, .int (gI x21)), (2, .int (gI x22))] → W p l e R s m args below meth c H locs 0 0 Q (F0 m 23 ls []) := by
  intro f
  induction f with
  | zero => intro x22 M23 H locs ls h hp hl; cases h
  | succ f ih =>
    intro x22 M23 H locs ls h hp hl
    rw [m_X9_goOn_L23] at h
    refine lv_iload_n C.1 C.2.1 dX9_goOn_23 rfl (lv_at hl 2 rfl) ?_
    refine r_bipush C dX9_goOn_24 (by decide +kernel) ?_
    refine r_icmp_ge (tgt := 88) C h dX9_goOn_26 (by decide) (fun h => ?_) (fun h => ?_)
    · exact hk24 _ _ _ _ h hp (lv_sub hl [0] rfl)
    · refine r_iconst C dX9_goOn_29 ?_
      refine r_istore_n (lv' := fun x25 => [(3, .int (gI x25)), (0, .ref (V.2.2 0)), (1, .int (gI x21)), (2, .int (gI x22))]) C h dX9_goOn_30 rfl hl (by decide) (fun _ => rfl) (fun x25 ls h hl => ?_)
      refine w_X9_goOn_L31 C hR _ _ _ ?_ _ _ _ H locs ls h hp (lv_sub hl [1, 2, 3, 0] rfl)
      · intro M40 H locs ls h hp hl
        refine r_iinc (lv' := fun x41 => [(2, .int (gI x41)), (0, .ref (V.2.2 0)), (1, .int (gI x21))]) C h dX9_goOn_82 hl (j := 2) rfl (by decide) (fun _ => rfl) (fun x41 ls h hl => ?_)
        refine r_goto (tgt := 23) C dX9_goOn_85 (by decide) ?_
        exact ih _ _ _ _ _ h hp (lv_sub hl [1, 2, 0] rfl)
set_option maxRecDepth 100000 in
set_option maxHeartbeats 4000000 in
theorem w_X9_goOn_L90 (C : g_CX mG V p R s m args meth c cX9_goOn 4 (some .long) RX9 1 22) {res : Int × g_M} (hR : g_RetL mG V p l e R s m args below meth c Q cX9_goOn res.1 res.2)  (k47 : g_M → Option (Int × g_M)) (hk47 : ∀ (M50 : g_M) (H : Heap) (locs : List Loc) (ls : Array Slot), k47 M50 = some res → g_PT mG V M50 s H locs → lv_has ls 4 [(0, .ref (V.2.2 0))] → W p l e R s m args below meth c H locs 0 0 Q (F0 m 114 ls [])) : ∀ (f : Nat) (x45 : Int) (M46 : g_M) (H : Heap) (locs : List Loc) (ls : Array Slot), m_X9_goOn_L90 k47 f x45 M46 = some res → g_PT mG V M46 s H locs → lv_has ls 4 [(0, .ref (V.2.2 0)), (2, .int (gI x45))] → W p l e R s m args below meth c H locs 0 0 Q (F0 m 90 ls []) := by
  intro f
  induction f with
  | zero => intro x45 M46 H locs ls h hp hl; cases h
  | succ f ih =>
    intro x45 M46 H locs ls h hp hl
    rw [m_X9_goOn_L90] at h
    refine lv_iload_n C.1 C.2.1 dX9_goOn_90 rfl (lv_at hl 1 rfl) ?_
    refine r_bipush C dX9_goOn_91 (by decide +kernel) ?_
    refine r_icmp_ge (tgt := 114) C h dX9_goOn_93 (by decide) (fun h => ?_) (fun h => ?_)
    · exact hk47 _ _ _ _ h hp (lv_sub hl [0] rfl)
    · refine lv_aload_n C.1 C.2.1 dX9_goOn_96 rfl (lv_at hl 0 rfl) ?_
      refine r_getr (t := 12) C hp mk_0 ms_0 mc_0 min_0 (j := 30) (by decide) rfl gw_1286 rfl dX9_goOn_97 ?_
      refine lv_iload_n C.1 C.2.1 dX9_goOn_100 rfl (lv_at hl 1 rfl) ?_
      refine lv_aload_n C.1 C.2.1 dX9_goOn_101 rfl (lv_at hl 0 rfl) ?_
      refine r_getr (t := 13) C hp mk_0 ms_0 mc_0 min_0 (j := 31) (by decide) rfl gw_1287 rfl dX9_goOn_102 ?_
      refine lv_iload_n C.1 C.2.1 dX9_goOn_105 rfl (lv_at hl 1 rfl) ?_
      refine r_lald C hp h mk_13 ms_13 dX9_goOn_106 (fun h => ?_)
      refine r_last C hp h mk_12 ms_12 dX9_goOn_107 (fun M48 H locs h hp => ?_)
      refine r_iinc (lv' := fun x49 => [(2, .int (gI x49)), (0, .ref (V.2.2 0))]) C h dX9_goOn_108 hl (j := 1) rfl (by decide) (fun _ => rfl) (fun x49 ls h hl => ?_)
      refine r_goto (tgt := 90) C dX9_goOn_111 (by decide) ?_
      exact ih _ _ _ _ _ h hp (lv_sub hl [1, 0] rfl)
set_option maxRecDepth 100000 in
set_option maxHeartbeats 4000000 in
theorem b_X9_goOn (C : g_CX mG V p R s m args meth c cX9_goOn 4 (some .long) RX9 1 22) {res : Int × g_M} (hR : g_RetL mG V p l e R s m args below meth c Q cX9_goOn res.1 res.2) {a1 : Int} {M : g_M} {H : Heap} {locs : List Loc} {ls : Array Slot} (h : m_X9_goOn a1 M = some res) (hp : g_PT mG V M s H locs) (hl : lv_has ls 4 [(0, .ref (V.2.2 0)), (1, .int (gI a1))]) : W p l e R s m args below meth c H locs 0 0 Q (F0 m 0 ls []) := by
  unfold m_X9_goOn at h
  refine r_iconst C dX9_goOn_0 ?_
  refine r_istore_n (lv' := fun x11 => [(2, .int (gI x11)), (0, .ref (V.2.2 0)), (1, .int (gI a1))]) C h dX9_goOn_1 rfl hl (by decide) (fun _ => rfl) (fun x11 ls h hl => ?_)
  refine w_X9_goOn_L2 C hR _ _ ?_ _ _ _ H locs ls h hp (lv_sub hl [1, 2, 0] rfl)
  · intro M19 H locs ls h hp hl
    refine r_iconst C dX9_goOn_21 ?_
    refine r_istore_n (lv' := fun x20 => [(2, .int (gI x20)), (0, .ref (V.2.2 0)), (1, .int (gI a1))]) C h dX9_goOn_22 rfl hl (by decide) (fun _ => rfl) (fun x20 ls h hl => ?_)
    refine w_X9_goOn_L23 C hR _ _ ?_ _ _ _ H locs ls h hp (lv_sub hl [1, 2, 0] rfl)
    · intro M43 H locs ls h hp hl
      refine r_iconst C dX9_goOn_88 ?_
      refine r_istore_n (lv' := fun x44 => [(2, .int (gI x44)), (0, .ref (V.2.2 0))]) C h dX9_goOn_89 rfl hl (by decide) (fun _ => rfl) (fun x44 ls h hl => ?_)
      refine w_X9_goOn_L90 C hR _ ?_ _ _ _ H locs ls h hp (lv_sub hl [1, 0] rfl)
      · intro M51 H locs ls h hp hl
        refine lv_aload_n C.1 C.2.1 dX9_goOn_114 rfl (lv_at hl 0 rfl) ?_
        refine r_getr (t := 13) C hp mk_0 ms_0 mc_0 min_0 (j := 31) (by decide) rfl gw_1287 rfl dX9_goOn_115 ?_
        refine r_bipush C dX9_goOn_118 (by decide +kernel) ?_
        refine r_lald C hp h mk_13 ms_13 dX9_goOn_120 (fun h => ?_)
        cases h
        exact hR _ _ _ _ dX9_goOn_121 hp
theorem c_X9_goOn (l : Launch) {V : g_V} (hok : g_ok mG V) {a1 : Int} {M : g_M} {x : Int} {M2 : g_M} (h : m_X9_goOn a1 M = some (x, M2)) : MetL mG V l yX9_goOn cX9_goOn 4 (some .long) 1 22 [.ref (V.2.2 0), .int (gI a1)] M x M2 :=
  g_metL hok cal_X9_goOn.2.2.2 rfl (Nat.le_of_ble_eq_true rfl) (@fun p e R s m args below meth c Q ls C hR hp hl => b_X9_goOn C hR h hp hl)
set_option maxRecDepth 100000 in
set_option maxHeartbeats 4000000 in
theorem w_X9_beginAt_L2 (C : g_CX mG V p R s m args meth c cX9_beginAt 3 none RX9 0 0) {res : g_M} (hR : g_RetV mG V p l e R s m args below meth c Q cX9_beginAt res) (x12 : Int)   : ∀ (f : Nat) (x13 : Int) (M14 : g_M) (H : Heap) (locs : List Loc) (ls : Array Slot), m_X9_beginAt_L2 x12  f x13 M14 = some res → g_PT mG V M14 s H locs → lv_has ls 3 [(0, .ref (V.2.2 0)), (1, .int (gI x12)), (2, .int (gI x13))] → W p l e R s m args below meth c H locs 0 0 Q (F0 m 2 ls []) := by
  intro f
  induction f with
  | zero => intro x13 M14 H locs ls h hp hl; cases h
  | succ f ih =>
    intro x13 M14 H locs ls h hp hl
    rw [m_X9_beginAt_L2] at h
    refine lv_iload_n C.1 C.2.1 dX9_beginAt_2 rfl (lv_at hl 2 rfl) ?_
    refine r_bipush C dX9_beginAt_3 (by decide +kernel) ?_
    refine r_icmp_ge (tgt := 30) C h dX9_beginAt_5 (by decide) (fun h => ?_) (fun h => ?_)
    · cases h
      exact hR _ _ _ _ dX9_beginAt_30 hp
    · refine r_jn (P := fun J => ∀ (x16 : Int) (x17 : Int) (H : Heap) (locs : List Loc) (ls : Array Slot), J x16 x17 = some res → g_PT mG V M14 s H locs → lv_has ls 3 [(0, .ref (V.2.2 0)), (1, .int (gI x12)), (2, .int (gI x13))] → W p l e R s m args below meth c H locs 0 0 Q (F0 m 23 ls [.long (gJ x16), .int (gI x17), .ref (V.2.2 12)])) h ?_ (fun J15 hJ15 h => ?_)
      · intro x16 x17 H locs ls h hp hl
        refine r_last C hp h mk_12 ms_12 dX9_beginAt_23 (fun M18 H locs h hp => ?_)
        refine r_iinc (lv' := fun x19 => [(2, .int (gI x19)), (0, .ref (V.2.2 0)), (1, .int (gI x12))]) C h dX9_beginAt_24 hl (j := 2) rfl (by decide) (fun _ => rfl) (fun x19 ls h hl => ?_)
        refine r_goto (tgt := 2) C dX9_beginAt_27 (by decide) ?_
        exact ih _ _ _ _ _ h hp (lv_sub hl [1, 2, 0] rfl)
      refine lv_aload_n C.1 C.2.1 dX9_beginAt_8 rfl (lv_at hl 0 rfl) ?_
      refine r_getr (t := 12) C hp mk_0 ms_0 mc_0 min_0 (j := 30) (by decide) rfl gw_1286 rfl dX9_beginAt_9 ?_
      refine lv_iload_n C.1 C.2.1 dX9_beginAt_12 rfl (lv_at hl 2 rfl) ?_
      refine lv_iload_n C.1 C.2.1 dX9_beginAt_13 rfl (lv_at hl 2 rfl) ?_
      refine lv_iload_n C.1 C.2.1 dX9_beginAt_14 rfl (lv_at hl 1 rfl) ?_
      refine r_icmp_ne (tgt := 22) C h dX9_beginAt_15 (by decide) (fun h => ?_) (fun h => ?_)
      · refine r_lconst (z := 0) C dX9_beginAt_22 rfl ?_
        exact hJ15 _ _ _ _ _ h hp hl
      · refine r_lconst (z := 1) C dX9_beginAt_18 rfl ?_
        refine r_goto (tgt := 23) C dX9_beginAt_19 (by decide) ?_
        exact hJ15 _ _ _ _ _ h hp hl
set_option maxRecDepth 100000 in
set_option maxHeartbeats 4000000 in
theorem b_X9_beginAt (C : g_CX mG V p R s m args meth c cX9_beginAt 3 none RX9 0 0) {res : g_M} (hR : g_RetV mG V p l e R s m args below meth c Q cX9_beginAt res) {a1 : Int} {M : g_M} {H : Heap} {locs : List Loc} {ls : Array Slot} (h : m_X9_beginAt a1 M = some res) (hp : g_PT mG V M s H locs) (hl : lv_has ls 3 [(0, .ref (V.2.2 0)), (1, .int (gI a1))]) : W p l e R s m args below meth c H locs 0 0 Q (F0 m 0 ls []) := by
  unfold m_X9_beginAt at h
  refine r_iconst C dX9_beginAt_0 ?_
  refine r_istore_n (lv' := fun x11 => [(2, .int (gI x11)), (0, .ref (V.2.2 0)), (1, .int (gI a1))]) C h dX9_beginAt_1 rfl hl (by decide) (fun _ => rfl) (fun x11 ls h hl => ?_)
  refine w_X9_beginAt_L2 C hR _ _ _ _ H locs ls h hp (lv_sub hl [1, 2, 0] rfl)
theorem c_X9_beginAt (l : Launch) {V : g_V} (hok : g_ok mG V) {a1 : Int} {M : g_M} {res : g_M} (h : m_X9_beginAt a1 M = some res) : MetV mG V l yX9_beginAt cX9_beginAt 3 none 0 0 [.ref (V.2.2 0), .int (gI a1)] M res :=
  g_metV hok cal_X9_beginAt.2.2.2 rfl (Nat.le_of_ble_eq_true rfl) (@fun p e R s m args below meth c Q ls C hR hp hl => b_X9_beginAt C hR h hp hl)
set_option maxRecDepth 100000 in
set_option maxHeartbeats 4000000 in
theorem w_X9_divisor_L6 (C : g_CX mG V p R s m args meth c cX9_divisor 10 (some .long) RX9 0 0) {res : Int} {M : g_M} (hR : g_RetL mG V p l e R s m args below meth c Q cX9_divisor res M)    : ∀ (f : Nat) (x13 : Int) (x14 : Int) (H : Heap) (locs : List Loc) (ls : Array Slot), m_X9_divisor_L6  f x13 x14 = some res → g_PT mG V M s H locs → lv_has ls 10 [(4, .long (gJ x13)), (6, .long (gJ x14))] → W p l e R s m args below meth c H locs 0 0 Q (F0 m 6 ls []) := by
  intro f
  induction f with
  | zero => intro x13 x14 H locs ls h hp hl; cases h
  | succ f ih =>
    intro x13 x14 H locs ls h hp hl
    rw [m_X9_divisor_L6] at h
    refine lv_lload C.1 C.2.1 dX9_divisor_6 (lv_at hl 1 rfl) ?_
    refine r_lconst (z := 0) C dX9_divisor_8 rfl ?_
    refine r_lcmp C dX9_divisor_9 ?_
    refine r_if_eq (tgt := 31) C h dX9_divisor_10 (by decide) (fun h => ?_) (fun h => ?_)
    · refine lv_lload C.1 C.2.1 dX9_divisor_31 (lv_at hl 0 rfl) ?_
      cases h
      exact hR _ _ _ _ dX9_divisor_33 hp
    · refine lv_lload C.1 C.2.1 dX9_divisor_13 (lv_at hl 0 rfl) ?_
      refine lv_lload C.1 C.2.1 dX9_divisor_15 (lv_at hl 1 rfl) ?_
      refine r_lrem C h dX9_divisor_17 (fun h => ?_)
      refine r_lstore (lv' := fun x15 => [(8, .long (gJ x15)), (4, .long (gJ x13)), (6, .long (gJ x14))]) C h dX9_divisor_18 hl (by decide) (fun _ => rfl) (fun x15 ls h hl => ?_)
      refine lv_lload C.1 C.2.1 dX9_divisor_20 (lv_at hl 2 rfl) ?_
      refine r_lstore (lv' := fun x16 => [(4, .long (gJ x16)), (8, .long (gJ x15)), (6, .long (gJ x14))]) C h dX9_divisor_22 hl (by decide) (fun _ => rfl) (fun x16 ls h hl => ?_)
      refine lv_lload C.1 C.2.1 dX9_divisor_24 (lv_at hl 1 rfl) ?_
      refine r_lstore (lv' := fun x17 => [(6, .long (gJ x17)), (4, .long (gJ x16)), (8, .long (gJ x15))]) C h dX9_divisor_26 hl (by decide) (fun _ => rfl) (fun x17 ls h hl => ?_)
      refine r_goto (tgt := 6) C dX9_divisor_28 (by decide) ?_
      exact ih _ _ _ _ _ h hp (lv_sub hl [1, 0] rfl)
set_option maxRecDepth 100000 in
set_option maxHeartbeats 4000000 in
theorem b_X9_divisor (C : g_CX mG V p R s m args meth c cX9_divisor 10 (some .long) RX9 0 0) {res : Int} {M : g_M} (hR : g_RetL mG V p l e R s m args below meth c Q cX9_divisor res M) {a1 : Int} {a2 : Int} {H : Heap} {locs : List Loc} {ls : Array Slot} (h : m_X9_divisor a1 a2 = some res) (hp : g_PT mG V M s H locs) (hl : lv_has ls 10 [(0, .long (gJ a1)), (2, .long (gJ a2))]) : W p l e R s m args below meth c H locs 0 0 Q (F0 m 0 ls []) := by
  unfold m_X9_divisor at h
  refine lv_lload_n C.1 C.2.1 dX9_divisor_0 rfl (lv_at hl 0 rfl) ?_
  refine r_lstore (lv' := fun x11 => [(4, .long (gJ x11)), (0, .long (gJ a1)), (2, .long (gJ a2))]) C h dX9_divisor_1 hl (by decide) (fun _ => rfl) (fun x11 ls h hl => ?_)
  refine lv_lload_n C.1 C.2.1 dX9_divisor_3 rfl (lv_at hl 2 rfl) ?_
  refine r_lstore (lv' := fun x12 => [(6, .long (gJ x12)), (4, .long (gJ x11)), (0, .long (gJ a1)), (2, .long (gJ a2))]) C h dX9_divisor_4 hl (by decide) (fun _ => rfl) (fun x12 ls h hl => ?_)
  refine w_X9_divisor_L6 C hR _ _ _ H locs ls h hp (lv_sub hl [1, 0] rfl)
theorem c_X9_divisor (l : Launch) {V : g_V} (hok : g_ok mG V) {a1 : Int} {a2 : Int} {M : g_M} {x : Int} (h : m_X9_divisor a1 a2 = some x) : MetL mG V l yX9_divisor cX9_divisor 10 (some .long) 0 0 [.long (gJ a1), .long (gJ a2)] M x M :=
  g_metL hok cal_X9_divisor.2.2.2 rfl (Nat.le_of_ble_eq_true rfl) (@fun p e R s m args below meth c Q ls C hR hp hl => b_X9_divisor C hR h hp hl)
set_option maxRecDepth 100000 in
set_option maxHeartbeats 4000000 in
theorem w_X9_odds_L41 (C : g_CX mG V p R s m args meth c cX9_odds 9 (some .long) RX9 2 45) {res : Int × g_M} (hR : g_RetL mG V p l e R s m args below meth c Q cX9_odds res.1 res.2) (x17 : Int) (x18 : Int) (k23 : Int → Int → g_M → Option (Int × g_M)) (hk23 : ∀ (x29 : Int) (x30 : Int) (M31 : g_M) (H : Heap) (locs : List Loc) (ls : Array Slot), k23 x29 x30 M31 = some res → g_PT mG V M31 s H locs → lv_has ls 9 [(3, .int (gI x18)), (4, .long (gJ x29)), (6, .long (gJ x30))] → W p l e R s m args below meth c H locs 0 0 Q (F0 m 75 ls [])) : ∀ (f : Nat) (x19 : Int) (x20 : Int) (x21 : Int) (M22 : g_M) (H : Heap) (locs : List Loc) (ls : Array Slot), m_X9_odds_L41 x17 x18 k23 f x19 x20 x21 M22 = some res → g_PT mG V M22 s H locs → lv_has ls 9 [(0, .ref (V.2.2 0)), (2, .int (gI x17)), (3, .int (gI x18)), (4, .long (gJ x19)), (6, .long (gJ x20)), (8, .int (gI x21))] → W p l e R s m args below meth c H locs 0 0 Q (F0 m 41 ls []) := by
  intro f
  induction f with
  | zero => intro x19 x20 x21 M22 H locs ls h hp hl; cases h
  | succ f ih =>
    intro x19 x20 x21 M22 H locs ls h hp hl
    rw [m_X9_odds_L41] at h
    refine lv_iload C.1 C.2.1 dX9_odds_41 (lv_at hl 5 rfl) ?_
    refine lv_iload_n C.1 C.2.1 dX9_odds_43 rfl (lv_at hl 1 rfl) ?_
    refine r_icmp_ge (tgt := 75) C h dX9_odds_44 (by decide) (fun h => ?_) (fun h => ?_)
    · exact hk23 _ _ _ _ _ _ h hp (lv_sub hl [2, 3, 4] rfl)
    · refine r_ldc2 (n := 10) C gw_1808 (by decide +kernel) dX9_odds_47 ?_
      refine lv_lload C.1 C.2.1 dX9_odds_50 (lv_at hl 3 rfl) ?_
      refine r_lmul C dX9_odds_52 ?_
      refine lv_aload_n C.1 C.2.1 dX9_odds_53 rfl (lv_at hl 0 rfl) ?_
      refine r_iconst C dX9_odds_54 ?_
      obtain ⟨x24, M25, hr, h⟩ := bW_of h
      refine r_callVL (As := [.int (gI 1)]) (rest := [.long (gJ (10 * x19))]) C hl.1 hp (c_X9_goOn l C.2.2.2.2.2.2.2.2.2.2.2 hr) gw_1809 gw_1811 gw_104 mk_0 ms_0 mc_0 cal_X9_goOn rfl rfl (Nat.le_of_ble_eq_true rfl) ⟨Nat.le_of_ble_eq_true rfl, Nat.le_of_ble_eq_true rfl⟩ dX9_odds_55 (fun H locs hp => ?_)
      refine r_ladd C dX9_odds_58 ?_
      refine r_lstore (lv' := fun x26 => [(4, .long (gJ x26)), (0, .ref (V.2.2 0)), (2, .int (gI x17)), (3, .int (gI x18)), (6, .long (gJ x20)), (8, .int (gI x21))]) C h dX9_odds_59 hl (by decide) (fun _ => rfl) (fun x26 ls h hl => ?_)
      refine lv_lload C.1 C.2.1 dX9_odds_61 (lv_at hl 4 rfl) ?_
      refine r_ldc2 (n := 10) C gw_1808 (by decide +kernel) dX9_odds_63 ?_
      refine r_lmul C dX9_odds_66 ?_
      refine r_lstore (lv' := fun x27 => [(6, .long (gJ x27)), (4, .long (gJ x26)), (0, .ref (V.2.2 0)), (2, .int (gI x17)), (3, .int (gI x18)), (8, .int (gI x21))]) C h dX9_odds_67 hl (by decide) (fun _ => rfl) (fun x27 ls h hl => ?_)
      refine r_iinc (lv' := fun x28 => [(8, .int (gI x28)), (6, .long (gJ x27)), (4, .long (gJ x26)), (0, .ref (V.2.2 0)), (2, .int (gI x17)), (3, .int (gI x18))]) C h dX9_odds_69 hl (j := 5) rfl (by decide) (fun _ => rfl) (fun x28 ls h hl => ?_)
      refine r_goto (tgt := 41) C dX9_odds_72 (by decide) ?_
      exact ih _ _ _ _ _ _ _ h hp (lv_sub hl [3, 4, 5, 2, 1, 0] rfl)
set_option maxRecDepth 100000 in
set_option maxHeartbeats 4000000 in
theorem b_X9_odds (C : g_CX mG V p R s m args meth c cX9_odds 9 (some .long) RX9 2 45) {res : Int × g_M} (hR : g_RetL mG V p l e R s m args below meth c Q cX9_odds res.1 res.2) {a1 : Int} {a2 : Int} {a3 : Int} {M : g_M} {H : Heap} {locs : List Loc} {ls : Array Slot} (h : m_X9_odds a1 a2 a3 M = some res) (hp : g_PT mG V M s H locs) (hl : lv_has ls 9 [(0, .ref (V.2.2 0)), (1, .int (gI a1)), (2, .int (gI a2)), (3, .int (gI a3))]) : W p l e R s m args below meth c H locs 0 0 Q (F0 m 0 ls []) := by
  unfold m_X9_odds at h
  refine lv_iload_n C.1 C.2.1 dX9_odds_0 rfl (lv_at hl 1 rfl) ?_
  obtain ⟨x11, hr, h⟩ := bd_of h
  refine r_callSI (As := [.int (gI a1)]) (rest := []) C hl.1 hp (c_X9_isAny l C.2.2.2.2.2.2.2.2.2.2.2 hr) gw_1388 gw_1389 cal_X9_isAny rfl rfl (Nat.le_of_ble_eq_true rfl) ⟨Nat.le_of_ble_eq_true rfl, Nat.le_of_ble_eq_true rfl⟩ dX9_odds_1 (fun H locs hp => ?_)
  refine r_if_eq (tgt := 17) C h dX9_odds_4 (by decide) (fun h => ?_) (fun h => ?_)
  · refine r_ldc2 (n := (-1)) C gw_1803 (by decide +kernel) dX9_odds_17 ?_
    cases h
    exact hR _ _ _ _ dX9_odds_20 hp
  · refine lv_iload_n C.1 C.2.1 dX9_odds_7 rfl (lv_at hl 2 rfl) ?_
    refine r_iconst C dX9_odds_8 ?_
    refine r_bipush C dX9_odds_9 (by decide +kernel) ?_
    obtain ⟨x12, hr, h⟩ := bd_of h
    refine r_callSI (As := [.int (gI a2), .int (gI 0), .int (gI 9)]) (rest := []) C hl.1 hp (c_X9_isIn l C.2.2.2.2.2.2.2.2.2.2.2 hr) gw_1378 gw_1379 cal_X9_isIn rfl rfl (Nat.le_of_ble_eq_true rfl) ⟨Nat.le_of_ble_eq_true rfl, Nat.le_of_ble_eq_true rfl⟩ dX9_odds_11 (fun H locs hp => ?_)
    refine r_if_ne (tgt := 21) C h dX9_odds_14 (by decide) (fun h => ?_) (fun h => ?_)
    · refine lv_aload_n C.1 C.2.1 dX9_odds_21 rfl (lv_at hl 0 rfl) ?_
      refine lv_iload_n C.1 C.2.1 dX9_odds_22 rfl (lv_at hl 1 rfl) ?_
      obtain ⟨M13, hr, h⟩ := bd_of h
      refine r_callVV (As := [.int (gI a1)]) (rest := []) C hl.1 hp (c_X9_beginAt l C.2.2.2.2.2.2.2.2.2.2.2 hr) gw_1804 gw_1806 gw_103 mk_0 ms_0 mc_0 cal_X9_beginAt rfl rfl (Nat.le_of_ble_eq_true rfl) ⟨Nat.le_of_ble_eq_true rfl, Nat.le_of_ble_eq_true rfl⟩ dX9_odds_23 (fun H locs hp => ?_)
      refine lv_aload_n C.1 C.2.1 dX9_odds_26 rfl (lv_at hl 0 rfl) ?_
      refine r_getr (t := 12) C hp mk_0 ms_0 mc_0 min_0 (j := 30) (by decide) rfl gw_1286 rfl dX9_odds_27 ?_
      refine r_bipush C dX9_odds_30 (by decide +kernel) ?_
      refine r_lald C hp h mk_12 ms_12 dX9_odds_32 (fun h => ?_)
      refine r_lstore (lv' := fun x14 => [(4, .long (gJ x14)), (0, .ref (V.2.2 0)), (1, .int (gI a1)), (2, .int (gI a2)), (3, .int (gI a3))]) C h dX9_odds_33 hl (by decide) (fun _ => rfl) (fun x14 ls h hl => ?_)
      refine r_lconst (z := 1) C dX9_odds_35 rfl ?_
      refine r_lstore (lv' := fun x15 => [(6, .long (gJ x15)), (4, .long (gJ x14)), (0, .ref (V.2.2 0)), (1, .int (gI a1)), (2, .int (gI a2)), (3, .int (gI a3))]) C h dX9_odds_36 hl (by decide) (fun _ => rfl) (fun x15 ls h hl => ?_)
      refine r_iconst C dX9_odds_38 ?_
      refine r_istore (lv' := fun x16 => [(8, .int (gI x16)), (6, .long (gJ x15)), (4, .long (gJ x14)), (0, .ref (V.2.2 0)), (1, .int (gI a1)), (2, .int (gI a2)), (3, .int (gI a3))]) C h dX9_odds_39 hl (by decide) (fun _ => rfl) (fun x16 ls h hl => ?_)
      refine w_X9_odds_L41 C hR _ _ _ ?_ _ _ _ _ _ H locs ls h hp (lv_sub hl [3, 5, 6, 2, 1, 0] rfl)
      · intro x32 x33 M34 H locs ls h hp hl
        refine r_jn (P := fun J => ∀ (x36 : Int) (H : Heap) (locs : List Loc) (ls : Array Slot), J x36 = some res → g_PT mG V M34 s H locs → lv_has ls 9 [(4, .long (gJ x32)), (6, .long (gJ x33))] → W p l e R s m args below meth c H locs 0 0 Q (F0 m 86 ls [.long (gJ x36)])) h ?_ (fun J35 hJ35 h => ?_)
        · intro x36 H locs ls h hp hl
          refine lv_lload C.1 C.2.1 dX9_odds_86 (lv_at hl 0 rfl) ?_
          refine lv_lload C.1 C.2.1 dX9_odds_88 (lv_at hl 1 rfl) ?_
          obtain ⟨x37, hr, h⟩ := bd_of h
          refine r_callSL (As := [.long (gJ x32), .long (gJ x33)]) (rest := [.long (gJ x36)]) C hl.1 hp (c_X9_divisor l C.2.2.2.2.2.2.2.2.2.2.2 hr) gw_1813 gw_1814 cal_X9_divisor rfl rfl (Nat.le_of_ble_eq_true rfl) ⟨Nat.le_of_ble_eq_true rfl, Nat.le_of_ble_eq_true rfl⟩ dX9_odds_90 (fun H locs hp => ?_)
          refine r_ldiv C h dX9_odds_93 (fun h => ?_)
          cases h
          exact hR _ _ _ _ dX9_odds_94 hp
        refine lv_iload_n C.1 C.2.1 dX9_odds_75 rfl (lv_at hl 0 rfl) ?_
        refine r_if_eq (tgt := 84) C h dX9_odds_76 (by decide) (fun h => ?_) (fun h => ?_)
        · refine lv_lload C.1 C.2.1 dX9_odds_84 (lv_at hl 1 rfl) ?_
          exact hJ35 _ _ _ _ h hp (lv_sub hl [1, 2] rfl)
        · refine lv_lload C.1 C.2.1 dX9_odds_79 (lv_at hl 2 rfl) ?_
          refine r_goto (tgt := 86) C dX9_odds_81 (by decide) ?_
          exact hJ35 _ _ _ _ h hp (lv_sub hl [1, 2] rfl)
    · refine r_ldc2 (n := (-1)) C gw_1803 (by decide +kernel) dX9_odds_17 ?_
      cases h
      exact hR _ _ _ _ dX9_odds_20 hp
theorem c_X9_odds (l : Launch) {V : g_V} (hok : g_ok mG V) {a1 : Int} {a2 : Int} {a3 : Int} {M : g_M} {x : Int} {M2 : g_M} (h : m_X9_odds a1 a2 a3 M = some (x, M2)) : MetL mG V l yX9_odds cX9_odds 9 (some .long) 2 45 [.ref (V.2.2 0), .int (gI a1), .int (gI a2), .int (gI a3)] M x M2 :=
  g_metL hok cal_X9_odds.2.2.2 rfl (Nat.le_of_ble_eq_true rfl) (@fun p e R s m args below meth c Q ls C hR hp hl => b_X9_odds C hR h hp hl)
set_option maxRecDepth 100000 in
set_option maxHeartbeats 4000000 in
theorem b_X9_weigh (C : g_CX mG V p R s m args meth c cX9_weigh 5 (some .boolean) RX9 1 22) {res : Int × g_M} (hR : g_RetI mG V p l e R s m args below meth c Q cX9_weigh .boolean res.1 res.2) {a1 : Int} {a2 : Int} {a3 : Int} {a4 : Int} {M : g_M} {H : Heap} {locs : List Loc} {ls : Array Slot} (h : m_X9_weigh a1 a2 a3 a4 M = some res) (hp : g_PT mG V M s H locs) (hl : lv_has ls 5 [(0, .ref (V.2.2 0)), (1, .int (gI a1)), (2, .int (gI a2)), (3, .int (gI a3)), (4, .int (gI a4))]) : W p l e R s m args below meth c H locs 0 0 Q (F0 m 0 ls []) := by
  unfold m_X9_weigh at h
  refine lv_iload_n C.1 C.2.1 dX9_weigh_0 rfl (lv_at hl 1 rfl) ?_
  refine r_iconst C dX9_weigh_1 ?_
  refine r_bipush C dX9_weigh_2 (by decide +kernel) ?_
  obtain ⟨x11, hr, h⟩ := bd_of h
  refine r_callSI (As := [.int (gI a1), .int (gI 0), .int (gI 10)]) (rest := []) C hl.1 hp (c_X9_isIn l C.2.2.2.2.2.2.2.2.2.2.2 hr) gw_1378 gw_1379 cal_X9_isIn rfl rfl (Nat.le_of_ble_eq_true rfl) ⟨Nat.le_of_ble_eq_true rfl, Nat.le_of_ble_eq_true rfl⟩ dX9_weigh_4 (fun H locs hp => ?_)
  refine r_if_eq (tgt := 54) C h dX9_weigh_7 (by decide) (fun h => ?_) (fun h => ?_)
  · refine r_iconst C dX9_weigh_54 ?_
    cases h
    exact hR _ _ _ _ dX9_weigh_55 g_nz0 hp
  · refine lv_iload_n C.1 C.2.1 dX9_weigh_10 rfl (lv_at hl 2 rfl) ?_
    refine r_iconst C dX9_weigh_11 ?_
    refine r_bipush C dX9_weigh_12 (by decide +kernel) ?_
    obtain ⟨x12, hr, h⟩ := bd_of h
    refine r_callSI (As := [.int (gI a2), .int (gI 0), .int (gI 10)]) (rest := []) C hl.1 hp (c_X9_isIn l C.2.2.2.2.2.2.2.2.2.2.2 hr) gw_1378 gw_1379 cal_X9_isIn rfl rfl (Nat.le_of_ble_eq_true rfl) ⟨Nat.le_of_ble_eq_true rfl, Nat.le_of_ble_eq_true rfl⟩ dX9_weigh_14 (fun H locs hp => ?_)
    refine r_if_eq (tgt := 54) C h dX9_weigh_17 (by decide) (fun h => ?_) (fun h => ?_)
    · refine r_iconst C dX9_weigh_54 ?_
      cases h
      exact hR _ _ _ _ dX9_weigh_55 g_nz0 hp
    · refine lv_iload_n C.1 C.2.1 dX9_weigh_20 rfl (lv_at hl 3 rfl) ?_
      refine r_iconst C dX9_weigh_21 ?_
      refine r_bipush C dX9_weigh_22 (by decide +kernel) ?_
      obtain ⟨x13, hr, h⟩ := bd_of h
      refine r_callSI (As := [.int (gI a3), .int (gI 0), .int (gI 10)]) (rest := []) C hl.1 hp (c_X9_isIn l C.2.2.2.2.2.2.2.2.2.2.2 hr) gw_1378 gw_1379 cal_X9_isIn rfl rfl (Nat.le_of_ble_eq_true rfl) ⟨Nat.le_of_ble_eq_true rfl, Nat.le_of_ble_eq_true rfl⟩ dX9_weigh_24 (fun H locs hp => ?_)
      refine r_if_eq (tgt := 54) C h dX9_weigh_27 (by decide) (fun h => ?_) (fun h => ?_)
      · refine r_iconst C dX9_weigh_54 ?_
        cases h
        exact hR _ _ _ _ dX9_weigh_55 g_nz0 hp
      · refine lv_iload C.1 C.2.1 dX9_weigh_30 (lv_at hl 4 rfl) ?_
        refine r_iconst C dX9_weigh_32 ?_
        refine r_bipush C dX9_weigh_33 (by decide +kernel) ?_
        obtain ⟨x14, hr, h⟩ := bd_of h
        refine r_callSI (As := [.int (gI a4), .int (gI 0), .int (gI 10)]) (rest := []) C hl.1 hp (c_X9_isIn l C.2.2.2.2.2.2.2.2.2.2.2 hr) gw_1378 gw_1379 cal_X9_isIn rfl rfl (Nat.le_of_ble_eq_true rfl) ⟨Nat.le_of_ble_eq_true rfl, Nat.le_of_ble_eq_true rfl⟩ dX9_weigh_35 (fun H locs hp => ?_)
        refine r_if_eq (tgt := 54) C h dX9_weigh_38 (by decide) (fun h => ?_) (fun h => ?_)
        · refine r_iconst C dX9_weigh_54 ?_
          cases h
          exact hR _ _ _ _ dX9_weigh_55 g_nz0 hp
        · refine lv_iload_n C.1 C.2.1 dX9_weigh_41 rfl (lv_at hl 1 rfl) ?_
          refine lv_iload_n C.1 C.2.1 dX9_weigh_42 rfl (lv_at hl 2 rfl) ?_
          refine r_iadd C dX9_weigh_43 ?_
          refine lv_iload_n C.1 C.2.1 dX9_weigh_44 rfl (lv_at hl 3 rfl) ?_
          refine r_iadd C dX9_weigh_45 ?_
          refine lv_iload C.1 C.2.1 dX9_weigh_46 (lv_at hl 4 rfl) ?_
          refine r_iadd C dX9_weigh_48 ?_
          refine r_bipush C dX9_weigh_49 (by decide +kernel) ?_
          refine r_icmp_eq (tgt := 56) C h dX9_weigh_51 (by decide) (fun h => ?_) (fun h => ?_)
          · refine lv_aload_n C.1 C.2.1 dX9_weigh_56 rfl (lv_at hl 0 rfl) ?_
            refine r_getr (t := 1) C hp mk_0 ms_0 mc_0 min_0 (j := 0) (by decide) rfl gw_1256 rfl dX9_weigh_57 ?_
            refine r_sipush C dX9_weigh_60 (by decide +kernel) ?_
            refine lv_iload_n C.1 C.2.1 dX9_weigh_63 rfl (lv_at hl 1 rfl) ?_
            refine r_iast C hp h mk_1 ms_1 dX9_weigh_64 (fun M15 H locs h hp => ?_)
            refine lv_aload_n C.1 C.2.1 dX9_weigh_65 rfl (lv_at hl 0 rfl) ?_
            refine r_getr (t := 1) C hp mk_0 ms_0 mc_0 min_0 (j := 0) (by decide) rfl gw_1256 rfl dX9_weigh_66 ?_
            refine r_sipush C dX9_weigh_69 (by decide +kernel) ?_
            refine lv_iload_n C.1 C.2.1 dX9_weigh_72 rfl (lv_at hl 2 rfl) ?_
            refine r_iast C hp h mk_1 ms_1 dX9_weigh_73 (fun M16 H locs h hp => ?_)
            refine lv_aload_n C.1 C.2.1 dX9_weigh_74 rfl (lv_at hl 0 rfl) ?_
            refine r_getr (t := 1) C hp mk_0 ms_0 mc_0 min_0 (j := 0) (by decide) rfl gw_1256 rfl dX9_weigh_75 ?_
            refine r_sipush C dX9_weigh_78 (by decide +kernel) ?_
            refine lv_iload_n C.1 C.2.1 dX9_weigh_81 rfl (lv_at hl 3 rfl) ?_
            refine r_iast C hp h mk_1 ms_1 dX9_weigh_82 (fun M17 H locs h hp => ?_)
            refine lv_aload_n C.1 C.2.1 dX9_weigh_83 rfl (lv_at hl 0 rfl) ?_
            refine r_getr (t := 1) C hp mk_0 ms_0 mc_0 min_0 (j := 0) (by decide) rfl gw_1256 rfl dX9_weigh_84 ?_
            refine r_sipush C dX9_weigh_87 (by decide +kernel) ?_
            refine lv_iload C.1 C.2.1 dX9_weigh_90 (lv_at hl 4 rfl) ?_
            refine r_iast C hp h mk_1 ms_1 dX9_weigh_92 (fun M18 H locs h hp => ?_)
            refine r_iconst C dX9_weigh_93 ?_
            cases h
            exact hR _ _ _ _ dX9_weigh_94 g_nz1 hp
          · refine r_iconst C dX9_weigh_54 ?_
            cases h
            exact hR _ _ _ _ dX9_weigh_55 g_nz0 hp
theorem c_X9_weigh (l : Launch) {V : g_V} (hok : g_ok mG V) {a1 : Int} {a2 : Int} {a3 : Int} {a4 : Int} {M : g_M} {x : Int} {M2 : g_M} (h : m_X9_weigh a1 a2 a3 a4 M = some (x, M2)) : MetI mG V l yX9_weigh cX9_weigh 5 (some .boolean) 1 22 [.ref (V.2.2 0), .int (gI a1), .int (gI a2), .int (gI a3), .int (gI a4)] M x M2 :=
  g_metI hok cal_X9_weigh.2.2.2 rfl (Nat.le_of_ble_eq_true rfl) (@fun p e R s m args below meth c Q ls C hR hp hl => b_X9_weigh C hR h hp hl)
set_option maxRecDepth 100000 in
set_option maxHeartbeats 4000000 in
theorem w_X9_ways_L45 (C : g_CX mG V p R s m args meth c cX9_ways 6 (some .long) RX9 2 45) {res : Int × g_M} (hR : g_RetL mG V p l e R s m args below meth c Q cX9_ways res.1 res.2) (x17 : Int)   : ∀ (f : Nat) (x18 : Int) (x19 : Int) (M20 : g_M) (H : Heap) (locs : List Loc) (ls : Array Slot), m_X9_ways_L45 x17  f x18 x19 M20 = some res → g_PT mG V M20 s H locs → lv_has ls 6 [(0, .ref (V.2.2 0)), (2, .int (gI x17)), (3, .long (gJ x18)), (5, .int (gI x19))] → W p l e R s m args below meth c H locs 0 0 Q (F0 m 45 ls []) := by
  intro f
  induction f with
  | zero => intro x18 x19 M20 H locs ls h hp hl; cases h
  | succ f ih =>
    intro x18 x19 M20 H locs ls h hp hl
    rw [m_X9_ways_L45] at h
    refine lv_iload C.1 C.2.1 dX9_ways_45 (lv_at hl 3 rfl) ?_
    refine lv_iload_n C.1 C.2.1 dX9_ways_47 rfl (lv_at hl 1 rfl) ?_
    refine r_icmp_ge (tgt := 63) C h dX9_ways_48 (by decide) (fun h => ?_) (fun h => ?_)
    · refine lv_lload_n C.1 C.2.1 dX9_ways_63 rfl (lv_at hl 2 rfl) ?_
      cases h
      exact hR _ _ _ _ dX9_ways_64 hp
    · refine lv_aload_n C.1 C.2.1 dX9_ways_51 rfl (lv_at hl 0 rfl) ?_
      refine r_iconst C dX9_ways_52 ?_
      obtain ⟨x21, M22, hr, h⟩ := bW_of h
      refine r_callVL (As := [.int (gI 0)]) (rest := []) C hl.1 hp (c_X9_goOn l C.2.2.2.2.2.2.2.2.2.2.2 hr) gw_1809 gw_1811 gw_104 mk_0 ms_0 mc_0 cal_X9_goOn rfl rfl (Nat.le_of_ble_eq_true rfl) ⟨Nat.le_of_ble_eq_true rfl, Nat.le_of_ble_eq_true rfl⟩ dX9_ways_53 (fun H locs hp => ?_)
      refine r_lstore_n (lv' := fun x23 => [(3, .long (gJ x23)), (0, .ref (V.2.2 0)), (2, .int (gI x17)), (5, .int (gI x19))]) C h dX9_ways_56 rfl hl (by decide) (fun _ => rfl) (fun x23 ls h hl => ?_)
      refine r_iinc (lv' := fun x24 => [(5, .int (gI x24)), (3, .long (gJ x23)), (0, .ref (V.2.2 0)), (2, .int (gI x17))]) C h dX9_ways_57 hl (j := 3) rfl (by decide) (fun _ => rfl) (fun x24 ls h hl => ?_)
      refine r_goto (tgt := 45) C dX9_ways_60 (by decide) ?_
      exact ih _ _ _ _ _ _ h hp (lv_sub hl [2, 3, 1, 0] rfl)
set_option maxRecDepth 100000 in
set_option maxHeartbeats 4000000 in
theorem b_X9_ways (C : g_CX mG V p R s m args meth c cX9_ways 6 (some .long) RX9 2 45) {res : Int × g_M} (hR : g_RetL mG V p l e R s m args below meth c Q cX9_ways res.1 res.2) {a1 : Int} {a2 : Int} {M : g_M} {H : Heap} {locs : List Loc} {ls : Array Slot} (h : m_X9_ways a1 a2 M = some res) (hp : g_PT mG V M s H locs) (hl : lv_has ls 6 [(0, .ref (V.2.2 0)), (1, .int (gI a1)), (2, .int (gI a2))]) : W p l e R s m args below meth c H locs 0 0 Q (F0 m 0 ls []) := by
  unfold m_X9_ways at h
  refine lv_iload_n C.1 C.2.1 dX9_ways_0 rfl (lv_at hl 1 rfl) ?_
  obtain ⟨x11, hr, h⟩ := bd_of h
  refine r_callSI (As := [.int (gI a1)]) (rest := []) C hl.1 hp (c_X9_isAny l C.2.2.2.2.2.2.2.2.2.2.2 hr) gw_1388 gw_1389 cal_X9_isAny rfl rfl (Nat.le_of_ble_eq_true rfl) ⟨Nat.le_of_ble_eq_true rfl, Nat.le_of_ble_eq_true rfl⟩ dX9_ways_1 (fun H locs hp => ?_)
  refine r_if_eq (tgt := 17) C h dX9_ways_4 (by decide) (fun h => ?_) (fun h => ?_)
  · refine r_ldc2 (n := (-1)) C gw_1803 (by decide +kernel) dX9_ways_17 ?_
    cases h
    exact hR _ _ _ _ dX9_ways_20 hp
  · refine lv_iload_n C.1 C.2.1 dX9_ways_7 rfl (lv_at hl 2 rfl) ?_
    refine r_iconst C dX9_ways_8 ?_
    refine r_bipush C dX9_ways_9 (by decide +kernel) ?_
    obtain ⟨x12, hr, h⟩ := bd_of h
    refine r_callSI (As := [.int (gI a2), .int (gI 0), .int (gI 12)]) (rest := []) C hl.1 hp (c_X9_isIn l C.2.2.2.2.2.2.2.2.2.2.2 hr) gw_1378 gw_1379 cal_X9_isIn rfl rfl (Nat.le_of_ble_eq_true rfl) ⟨Nat.le_of_ble_eq_true rfl, Nat.le_of_ble_eq_true rfl⟩ dX9_ways_11 (fun H locs hp => ?_)
    refine r_if_ne (tgt := 21) C h dX9_ways_14 (by decide) (fun h => ?_) (fun h => ?_)
    · refine lv_aload_n C.1 C.2.1 dX9_ways_21 rfl (lv_at hl 0 rfl) ?_
      refine lv_iload_n C.1 C.2.1 dX9_ways_22 rfl (lv_at hl 1 rfl) ?_
      obtain ⟨M13, hr, h⟩ := bd_of h
      refine r_callVV (As := [.int (gI a1)]) (rest := []) C hl.1 hp (c_X9_beginAt l C.2.2.2.2.2.2.2.2.2.2.2 hr) gw_1804 gw_1806 gw_103 mk_0 ms_0 mc_0 cal_X9_beginAt rfl rfl (Nat.le_of_ble_eq_true rfl) ⟨Nat.le_of_ble_eq_true rfl, Nat.le_of_ble_eq_true rfl⟩ dX9_ways_23 (fun H locs hp => ?_)
      refine lv_aload_n C.1 C.2.1 dX9_ways_26 rfl (lv_at hl 0 rfl) ?_
      refine r_getr (t := 12) C hp mk_0 ms_0 mc_0 min_0 (j := 30) (by decide) rfl gw_1286 rfl dX9_ways_27 ?_
      refine r_bipush C dX9_ways_30 (by decide +kernel) ?_
      refine r_lald C hp h mk_12 ms_12 dX9_ways_32 (fun h => ?_)
      refine r_lstore_n (lv' := fun x14 => [(3, .long (gJ x14)), (0, .ref (V.2.2 0)), (1, .int (gI a1)), (2, .int (gI a2))]) C h dX9_ways_33 rfl hl (by decide) (fun _ => rfl) (fun x14 ls h hl => ?_)
      refine lv_aload_n C.1 C.2.1 dX9_ways_34 rfl (lv_at hl 1 rfl) ?_
      refine r_getr (t := 12) C hp mk_0 ms_0 mc_0 min_0 (j := 30) (by decide) rfl gw_1286 rfl dX9_ways_35 ?_
      refine r_bipush C dX9_ways_38 (by decide +kernel) ?_
      refine r_lconst (z := 0) C dX9_ways_40 rfl ?_
      refine r_last C hp h mk_12 ms_12 dX9_ways_41 (fun M15 H locs h hp => ?_)
      refine r_iconst C dX9_ways_42 ?_
      refine r_istore (lv' := fun x16 => [(5, .int (gI x16)), (3, .long (gJ x14)), (0, .ref (V.2.2 0)), (1, .int (gI a1)), (2, .int (gI a2))]) C h dX9_ways_43 hl (by decide) (fun _ => rfl) (fun x16 ls h hl => ?_)
      refine w_X9_ways_L45 C hR _ _ _ _ _ H locs ls h hp (lv_sub hl [2, 4, 1, 0] rfl)
    · refine r_ldc2 (n := (-1)) C gw_1803 (by decide +kernel) dX9_ways_17 ?_
      cases h
      exact hR _ _ _ _ dX9_ways_20 hp
theorem c_X9_ways (l : Launch) {V : g_V} (hok : g_ok mG V) {a1 : Int} {a2 : Int} {M : g_M} {x : Int} {M2 : g_M} (h : m_X9_ways a1 a2 M = some (x, M2)) : MetL mG V l yX9_ways cX9_ways 6 (some .long) 2 45 [.ref (V.2.2 0), .int (gI a1), .int (gI a2)] M x M2 :=
  g_metL hok cal_X9_ways.2.2.2 rfl (Nat.le_of_ble_eq_true rfl) (@fun p e R s m args below meth c Q ls C hR hp hl => b_X9_ways C hR h hp hl)
set_option maxRecDepth 100000 in
set_option maxHeartbeats 4000000 in
theorem b_X9_kindAt (C : g_CX mG V p R s m args meth c cX9_kindAt 2 (some .int) RX9 0 0) {res : Int} {M : g_M} (hR : g_RetI mG V p l e R s m args below meth c Q cX9_kindAt .int res M) {a1 : Int} {H : Heap} {locs : List Loc} {ls : Array Slot} (h : m_X9_kindAt a1 M = some res) (hp : g_PT mG V M s H locs) (hl : lv_has ls 2 [(0, .ref (V.2.2 0)), (1, .int (gI a1))]) : W p l e R s m args below meth c H locs 0 0 Q (F0 m 0 ls []) := by
  unfold m_X9_kindAt at h
  refine lv_iload_n C.1 C.2.1 dX9_kindAt_0 rfl (lv_at hl 1 rfl) ?_
  refine r_bipush C dX9_kindAt_1 (by decide +kernel) ?_
  refine r_icmp_ne (tgt := 10) C h dX9_kindAt_3 (by decide) (fun h => ?_) (fun h => ?_)
  · refine lv_aload_n C.1 C.2.1 dX9_kindAt_10 rfl (lv_at hl 0 rfl) ?_
    refine r_getr (t := 1) C hp mk_0 ms_0 mc_0 min_0 (j := 0) (by decide) rfl gw_1256 rfl dX9_kindAt_11 ?_
    refine r_bipush C dX9_kindAt_14 (by decide +kernel) ?_
    refine lv_iload_n C.1 C.2.1 dX9_kindAt_16 rfl (lv_at hl 1 rfl) ?_
    refine r_iadd C dX9_kindAt_17 ?_
    refine r_iald C hp h mk_1 ms_1 dX9_kindAt_18 (fun h => ?_)
    cases h
    exact hR _ _ _ _ dX9_kindAt_19 rfl hp
  · refine r_iconst C dX9_kindAt_6 ?_
    refine r_goto (tgt := 19) C dX9_kindAt_7 (by decide) ?_
    cases h
    exact hR _ _ _ _ dX9_kindAt_19 rfl hp
theorem c_X9_kindAt (l : Launch) {V : g_V} (hok : g_ok mG V) {a1 : Int} {M : g_M} {x : Int} (h : m_X9_kindAt a1 M = some x) : MetI mG V l yX9_kindAt cX9_kindAt 2 (some .int) 0 0 [.ref (V.2.2 0), .int (gI a1)] M x M :=
  g_metI hok cal_X9_kindAt.2.2.2 rfl (Nat.le_of_ble_eq_true rfl) (@fun p e R s m args below meth c Q ls C hR hp hl => b_X9_kindAt C hR h hp hl)
set_option maxRecDepth 100000 in
set_option maxHeartbeats 4000000 in
theorem w_X9_isPartedBehind_L3 (C : g_CX mG V p R s m args meth c cX9_isPartedBehind 5 (some .boolean) RX9 1 22) {res : Int} {M16 : g_M} (hR : g_RetI mG V p l e R s m args below meth c Q cX9_isPartedBehind .boolean res M16) (x12 : Int) (x13 : Int) (x14 : Int)   : ∀ (f : Nat) (x15 : Int) (H : Heap) (locs : List Loc) (ls : Array Slot), m_X9_isPartedBehind_L3 x12 x13 x14 M16  f x15 = some res → g_PT mG V M16 s H locs → lv_has ls 5 [(0, .ref (V.2.2 0)), (1, .int (gI x12)), (2, .int (gI x13)), (3, .int (gI x14)), (4, .int (gI x15))] → W p l e R s m args below meth c H locs 0 0 Q (F0 m 3 ls []) := by
  intro f
  induction f with
  | zero => intro x15 H locs ls h hp hl; cases h
  | succ f ih =>
    intro x15 H locs ls h hp hl
    rw [m_X9_isPartedBehind_L3] at h
    refine lv_iload C.1 C.2.1 dX9_isPartedBehind_3 (lv_at hl 4 rfl) ?_
    refine r_iconst C dX9_isPartedBehind_5 ?_
    refine r_icmp_ge (tgt := 44) C h dX9_isPartedBehind_6 (by decide) (fun h => ?_) (fun h => ?_)
    · refine r_iconst C dX9_isPartedBehind_44 ?_
      cases h
      exact hR _ _ _ _ dX9_isPartedBehind_45 g_nz0 hp
    · refine lv_aload_n C.1 C.2.1 dX9_isPartedBehind_9 rfl (lv_at hl 0 rfl) ?_
      refine r_getr (t := 14) C hp mk_0 ms_0 mc_0 min_0 (j := 32) (by decide) rfl gw_1288 rfl dX9_isPartedBehind_10 ?_
      refine r_bipush C dX9_isPartedBehind_13 (by decide +kernel) ?_
      refine lv_aload_n C.1 C.2.1 dX9_isPartedBehind_15 rfl (lv_at hl 0 rfl) ?_
      refine lv_iload_n C.1 C.2.1 dX9_isPartedBehind_16 rfl (lv_at hl 1 rfl) ?_
      refine lv_iload C.1 C.2.1 dX9_isPartedBehind_17 (lv_at hl 4 rfl) ?_
      obtain ⟨x17, hr, h⟩ := bd_of h
      refine r_callVI (As := [.int (gI x12), .int (gI x15)]) (rest := [.int (gI 13), .ref (V.2.2 14)]) C hl.1 hp (c_X9_nextOf l C.2.2.2.2.2.2.2.2.2.2.2 hr) gw_1603 gw_1605 gw_81 mk_0 ms_0 mc_0 cal_X9_nextOf rfl rfl (Nat.le_of_ble_eq_true rfl) ⟨Nat.le_of_ble_eq_true rfl, Nat.le_of_ble_eq_true rfl⟩ dX9_isPartedBehind_19 (fun H locs hp => ?_)
      refine r_imul C dX9_isPartedBehind_22 ?_
      refine lv_aload_n C.1 C.2.1 dX9_isPartedBehind_23 rfl (lv_at hl 0 rfl) ?_
      refine lv_iload_n C.1 C.2.1 dX9_isPartedBehind_24 rfl (lv_at hl 2 rfl) ?_
      refine lv_iload C.1 C.2.1 dX9_isPartedBehind_25 (lv_at hl 4 rfl) ?_
      obtain ⟨x18, hr, h⟩ := bd_of h
      refine r_callVI (As := [.int (gI x13), .int (gI x15)]) (rest := [.int (gI (13 * x17)), .ref (V.2.2 14)]) C hl.1 hp (c_X9_nextOf l C.2.2.2.2.2.2.2.2.2.2.2 hr) gw_1603 gw_1605 gw_81 mk_0 ms_0 mc_0 cal_X9_nextOf rfl rfl (Nat.le_of_ble_eq_true rfl) ⟨Nat.le_of_ble_eq_true rfl, Nat.le_of_ble_eq_true rfl⟩ dX9_isPartedBehind_27 (fun H locs hp => ?_)
      refine r_iadd C dX9_isPartedBehind_30 ?_
      refine r_iald C hp h mk_14 ms_14 dX9_isPartedBehind_31 (fun h => ?_)
      refine lv_iload_n C.1 C.2.1 dX9_isPartedBehind_32 rfl (lv_at hl 3 rfl) ?_
      refine r_icmp_ne (tgt := 38) C h dX9_isPartedBehind_33 (by decide) (fun h => ?_) (fun h => ?_)
      · refine r_iinc (lv' := fun x19 => [(4, .int (gI x19)), (0, .ref (V.2.2 0)), (1, .int (gI x12)), (2, .int (gI x13)), (3, .int (gI x14))]) C h dX9_isPartedBehind_38 hl (j := 4) rfl (by decide) (fun _ => rfl) (fun x19 ls h hl => ?_)
        refine r_goto (tgt := 3) C dX9_isPartedBehind_41 (by decide) ?_
        exact ih _ _ _ _ h hp (lv_sub hl [1, 2, 3, 4, 0] rfl)
      · refine r_iconst C dX9_isPartedBehind_36 ?_
        cases h
        exact hR _ _ _ _ dX9_isPartedBehind_37 g_nz1 hp
set_option maxRecDepth 100000 in
set_option maxHeartbeats 4000000 in
theorem b_X9_isPartedBehind (C : g_CX mG V p R s m args meth c cX9_isPartedBehind 5 (some .boolean) RX9 1 22) {res : Int} {M : g_M} (hR : g_RetI mG V p l e R s m args below meth c Q cX9_isPartedBehind .boolean res M) {a1 : Int} {a2 : Int} {a3 : Int} {H : Heap} {locs : List Loc} {ls : Array Slot} (h : m_X9_isPartedBehind a1 a2 a3 M = some res) (hp : g_PT mG V M s H locs) (hl : lv_has ls 5 [(0, .ref (V.2.2 0)), (1, .int (gI a1)), (2, .int (gI a2)), (3, .int (gI a3))]) : W p l e R s m args below meth c H locs 0 0 Q (F0 m 0 ls []) := by
  unfold m_X9_isPartedBehind at h
  refine r_iconst C dX9_isPartedBehind_0 ?_
  refine r_istore (lv' := fun x11 => [(4, .int (gI x11)), (0, .ref (V.2.2 0)), (1, .int (gI a1)), (2, .int (gI a2)), (3, .int (gI a3))]) C h dX9_isPartedBehind_1 hl (by decide) (fun _ => rfl) (fun x11 ls h hl => ?_)
  refine w_X9_isPartedBehind_L3 C hR _ _ _ _ _ H locs ls h hp (lv_sub hl [1, 2, 3, 4, 0] rfl)
theorem c_X9_isPartedBehind (l : Launch) {V : g_V} (hok : g_ok mG V) {a1 : Int} {a2 : Int} {a3 : Int} {M : g_M} {x : Int} (h : m_X9_isPartedBehind a1 a2 a3 M = some x) : MetI mG V l yX9_isPartedBehind cX9_isPartedBehind 5 (some .boolean) 1 22 [.ref (V.2.2 0), .int (gI a1), .int (gI a2), .int (gI a3)] M x M :=
  g_metI hok cal_X9_isPartedBehind.2.2.2 rfl (Nat.le_of_ble_eq_true rfl) (@fun p e R s m args below meth c Q ls C hR hp hl => b_X9_isPartedBehind C hR h hp hl)
set_option maxRecDepth 100000 in
set_option maxHeartbeats 4000000 in
theorem w_X9_layParted_L10 (C : g_CX mG V p R s m args meth c cX9_layParted 4 none RX9 2 46) {res : g_M} (hR : g_RetV mG V p l e R s m args below meth c Q cX9_layParted res) (x16 : Int) (k19 : g_M → Option (g_M)) (hk19 : ∀ (M27 : g_M) (H : Heap) (locs : List Loc) (ls : Array Slot), k19 M27 = some res → g_PT mG V M27 s H locs → lv_has ls 4 [(0, .ref (V.2.2 0)), (1, .int (gI x16))] → W p l e R s m args below meth c H locs 0 0 Q (F0 m 53 ls [])) : ∀ (f : Nat) (x17 : Int) (M18 : g_M) (H : Heap) (locs : List Loc) (ls : Array Slot), m_X9_layParted_L10 x16 k19 f x17 M18 = some res → g_PT mG V M18 s H locs → lv_has ls 4 [(0, .ref (V.2.2 0)), (1, .int (gI x16)), (2, .int (gI x17))] → W p l e R s m args below meth c H locs 0 0 Q (F0 m 10 ls []) := by
  intro f
  induction f with
  | zero => intro x17 M18 H locs ls h hp hl; cases h
  | succ f ih =>
    intro x17 M18 H locs ls h hp hl
    rw [m_X9_layParted_L10] at h
    refine lv_iload_n C.1 C.2.1 dX9_layParted_10 rfl (lv_at hl 2 rfl) ?_
    refine r_bipush C dX9_layParted_11 (by decide +kernel) ?_
    refine r_icmp_ge (tgt := 53) C h dX9_layParted_13 (by decide) (fun h => ?_) (fun h => ?_)
    · exact hk19 _ _ _ _ h hp (lv_sub hl [0, 1] rfl)
    · refine r_jn (P := fun J => ∀ (x23 : Int) (x24 : Int) (H : Heap) (locs : List Loc) (ls : Array Slot), J x23 x24 = some res → g_PT mG V M18 s H locs → lv_has ls 4 [(0, .ref (V.2.2 0)), (1, .int (gI x16)), (2, .int (gI x17))] → W p l e R s m args below meth c H locs 0 0 Q (F0 m 46 ls [.int (gI x23), .int (gI x24), .ref (V.2.2 14)])) h ?_ (fun J20 hJ20 h => ?_)
      · intro x23 x24 H locs ls h hp hl
        refine r_iast C hp h mk_14 ms_14 dX9_layParted_46 (fun M25 H locs h hp => ?_)
        refine r_iinc (lv' := fun x26 => [(2, .int (gI x26)), (0, .ref (V.2.2 0)), (1, .int (gI x16))]) C h dX9_layParted_47 hl (j := 2) rfl (by decide) (fun _ => rfl) (fun x26 ls h hl => ?_)
        refine r_goto (tgt := 10) C dX9_layParted_50 (by decide) ?_
        exact ih _ _ _ _ _ h hp (lv_sub hl [1, 2, 0] rfl)
      refine lv_aload_n C.1 C.2.1 dX9_layParted_16 rfl (lv_at hl 0 rfl) ?_
      refine r_getr (t := 14) C hp mk_0 ms_0 mc_0 min_0 (j := 32) (by decide) rfl gw_1288 rfl dX9_layParted_17 ?_
      refine r_bipush C dX9_layParted_20 (by decide +kernel) ?_
      refine lv_iload_n C.1 C.2.1 dX9_layParted_22 rfl (lv_at hl 1 rfl) ?_
      refine r_imul C dX9_layParted_23 ?_
      refine lv_iload_n C.1 C.2.1 dX9_layParted_24 rfl (lv_at hl 2 rfl) ?_
      refine r_iadd C dX9_layParted_25 ?_
      refine lv_aload_n C.1 C.2.1 dX9_layParted_26 rfl (lv_at hl 0 rfl) ?_
      refine lv_iload_n C.1 C.2.1 dX9_layParted_27 rfl (lv_at hl 1 rfl) ?_
      obtain ⟨x21, hr, h⟩ := bd_of h
      refine r_callVI (As := [.int (gI x16)]) (rest := [.int (gI ((13 * x16) + x17)), .ref (V.2.2 14)]) C hl.1 hp (c_X9_kindAt l C.2.2.2.2.2.2.2.2.2.2.2 hr) gw_1832 gw_1834 gw_106 mk_0 ms_0 mc_0 cal_X9_kindAt rfl rfl (Nat.le_of_ble_eq_true rfl) ⟨Nat.le_of_ble_eq_true rfl, Nat.le_of_ble_eq_true rfl⟩ dX9_layParted_28 (fun H locs hp => ?_)
      refine lv_aload_n C.1 C.2.1 dX9_layParted_31 rfl (lv_at hl 0 rfl) ?_
      refine lv_iload_n C.1 C.2.1 dX9_layParted_32 rfl (lv_at hl 2 rfl) ?_
      obtain ⟨x22, hr, h⟩ := bd_of h
      refine r_callVI (As := [.int (gI x17)]) (rest := [.int (gI x21), .int (gI ((13 * x16) + x17)), .ref (V.2.2 14)]) C hl.1 hp (c_X9_kindAt l C.2.2.2.2.2.2.2.2.2.2.2 hr) gw_1832 gw_1834 gw_106 mk_0 ms_0 mc_0 cal_X9_kindAt rfl rfl (Nat.le_of_ble_eq_true rfl) ⟨Nat.le_of_ble_eq_true rfl, Nat.le_of_ble_eq_true rfl⟩ dX9_layParted_33 (fun H locs hp => ?_)
      refine r_icmp_eq (tgt := 43) C h dX9_layParted_36 (by decide) (fun h => ?_) (fun h => ?_)
      · refine r_ldcw (n := 1000000) C gw_1778 (by decide +kernel) dX9_layParted_43 ?_
        exact hJ20 _ _ _ _ _ h hp hl
      · refine r_iconst C dX9_layParted_39 ?_
        refine r_goto (tgt := 46) C dX9_layParted_40 (by decide) ?_
        exact hJ20 _ _ _ _ _ h hp hl
set_option maxRecDepth 100000 in
set_option maxHeartbeats 4000000 in
theorem w_X9_layParted_L2 (C : g_CX mG V p R s m args meth c cX9_layParted 4 none RX9 2 46) {res : g_M} (hR : g_RetV mG V p l e R s m args below meth c Q cX9_layParted res)  (k14 : g_M → Option (g_M)) (hk14 : ∀ (M30 : g_M) (H : Heap) (locs : List Loc) (ls : Array Slot), k14 M30 = some res → g_PT mG V M30 s H locs → lv_has ls 4 [(0, .ref (V.2.2 0))] → W p l e R s m args below meth c H locs 0 0 Q (F0 m 59 ls [])) : ∀ (f : Nat) (x12 : Int) (M13 : g_M) (H : Heap) (locs : List Loc) (ls : Array Slot), m_X9_layParted_L2 k14 f x12 M13 = some res → g_PT mG V M13 s H locs → lv_has ls 4 [(0, .ref (V.2.2 0)), (1, .int (gI x12))] → W p l e R s m args below meth c H locs 0 0 Q (F0 m 2 ls []) := by
  intro f
  induction f with
  | zero => intro x12 M13 H locs ls h hp hl; cases h
  | succ f ih =>
    intro x12 M13 H locs ls h hp hl
    rw [m_X9_layParted_L2] at h
    refine lv_iload_n C.1 C.2.1 dX9_layParted_2 rfl (lv_at hl 1 rfl) ?_
    refine r_bipush C dX9_layParted_3 (by decide +kernel) ?_
    refine r_icmp_ge (tgt := 59) C h dX9_layParted_5 (by decide) (fun h => ?_) (fun h => ?_)
    · exact hk14 _ _ _ _ h hp (lv_sub hl [0] rfl)
    · refine r_iconst C dX9_layParted_8 ?_
      refine r_istore_n (lv' := fun x15 => [(2, .int (gI x15)), (0, .ref (V.2.2 0)), (1, .int (gI x12))]) C h dX9_layParted_9 rfl hl (by decide) (fun _ => rfl) (fun x15 ls h hl => ?_)
      refine w_X9_layParted_L10 C hR _ _ ?_ _ _ _ H locs ls h hp (lv_sub hl [1, 2, 0] rfl)
      · intro M28 H locs ls h hp hl
        refine r_iinc (lv' := fun x29 => [(1, .int (gI x29)), (0, .ref (V.2.2 0))]) C h dX9_layParted_53 hl (j := 1) rfl (by decide) (fun _ => rfl) (fun x29 ls h hl => ?_)
        refine r_goto (tgt := 2) C dX9_layParted_56 (by decide) ?_
        exact ih _ _ _ _ _ h hp (lv_sub hl [1, 0] rfl)
set_option maxRecDepth 100000 in
set_option maxHeartbeats 4000000 in
theorem w_X9_layParted_L77 (C : g_CX mG V p R s m args meth c cX9_layParted 4 none RX9 2 46) {res : g_M} (hR : g_RetV mG V p l e R s m args below meth c Q cX9_layParted res) (x41 : Int) (x42 : Int) (k45 : g_M → Option (g_M)) (hk45 : ∀ (M51 : g_M) (H : Heap) (locs : List Loc) (ls : Array Slot), k45 M51 = some res → g_PT mG V M51 s H locs → lv_has ls 4 [(0, .ref (V.2.2 0)), (1, .int (gI x41)), (2, .int (gI x42))] → W p l e R s m args below meth c H locs 0 0 Q (F0 m 130 ls [])) : ∀ (f : Nat) (x43 : Int) (M44 : g_M) (H : Heap) (locs : List Loc) (ls : Array Slot), m_X9_layParted_L77 x41 x42 k45 f x43 M44 = some res → g_PT mG V M44 s H locs → lv_has ls 4 [(0, .ref (V.2.2 0)), (1, .int (gI x41)), (2, .int (gI x42)), (3, .int (gI x43))] → W p l e R s m args below meth c H locs 0 0 Q (F0 m 77 ls []) := by
  intro f
  induction f with
  | zero => intro x43 M44 H locs ls h hp hl; cases h
  | succ f ih =>
    intro x43 M44 H locs ls h hp hl
    rw [m_X9_layParted_L77] at h
    refine lv_iload_n C.1 C.2.1 dX9_layParted_77 rfl (lv_at hl 3 rfl) ?_
    refine r_bipush C dX9_layParted_78 (by decide +kernel) ?_
    refine r_icmp_ge (tgt := 130) C h dX9_layParted_80 (by decide) (fun h => ?_) (fun h => ?_)
    · exact hk45 _ _ _ _ h hp (lv_sub hl [0, 1, 2] rfl)
    · refine r_jn (P := fun J => ∀ (M49 : g_M) (H : Heap) (locs : List Loc) (ls : Array Slot), J M49 = some res → g_PT mG V M49 s H locs → lv_has ls 4 [(0, .ref (V.2.2 0)), (1, .int (gI x41)), (2, .int (gI x42)), (3, .int (gI x43))] → W p l e R s m args below meth c H locs 0 0 Q (F0 m 124 ls [])) h ?_ (fun J46 hJ46 h => ?_)
      · intro M49 H locs ls h hp hl
        refine r_iinc (lv' := fun x50 => [(3, .int (gI x50)), (0, .ref (V.2.2 0)), (1, .int (gI x41)), (2, .int (gI x42))]) C h dX9_layParted_124 hl (j := 3) rfl (by decide) (fun _ => rfl) (fun x50 ls h hl => ?_)
        refine r_goto (tgt := 77) C dX9_layParted_127 (by decide) ?_
        exact ih _ _ _ _ _ h hp (lv_sub hl [1, 2, 3, 0] rfl)
      refine lv_aload_n C.1 C.2.1 dX9_layParted_83 rfl (lv_at hl 0 rfl) ?_
      refine r_getr (t := 14) C hp mk_0 ms_0 mc_0 min_0 (j := 32) (by decide) rfl gw_1288 rfl dX9_layParted_84 ?_
      refine r_bipush C dX9_layParted_87 (by decide +kernel) ?_
      refine lv_iload_n C.1 C.2.1 dX9_layParted_89 rfl (lv_at hl 2 rfl) ?_
      refine r_imul C dX9_layParted_90 ?_
      refine lv_iload_n C.1 C.2.1 dX9_layParted_91 rfl (lv_at hl 3 rfl) ?_
      refine r_iadd C dX9_layParted_92 ?_
      refine r_iald C hp h mk_14 ms_14 dX9_layParted_93 (fun h => ?_)
      refine r_ldcw (n := 1000000) C gw_1778 (by decide +kernel) dX9_layParted_94 ?_
      refine r_icmp_ne (tgt := 124) C h dX9_layParted_97 (by decide) (fun h => ?_) (fun h => ?_)
      · exact hJ46 _ _ _ _ h hp hl
      · refine lv_aload_n C.1 C.2.1 dX9_layParted_100 rfl (lv_at hl 0 rfl) ?_
        refine lv_iload_n C.1 C.2.1 dX9_layParted_101 rfl (lv_at hl 2 rfl) ?_
        refine lv_iload_n C.1 C.2.1 dX9_layParted_102 rfl (lv_at hl 3 rfl) ?_
        refine lv_iload_n C.1 C.2.1 dX9_layParted_103 rfl (lv_at hl 1 rfl) ?_
        refine r_iconst C dX9_layParted_104 ?_
        refine r_isub C dX9_layParted_105 ?_
        obtain ⟨x47, hr, h⟩ := bd_of h
        refine r_callVI (As := [.int (gI x42), .int (gI x43), .int (gI (x41 - 1))]) (rest := []) C hl.1 hp (c_X9_isPartedBehind l C.2.2.2.2.2.2.2.2.2.2.2 hr) gw_1836 gw_1838 gw_107 mk_0 ms_0 mc_0 cal_X9_isPartedBehind rfl rfl (Nat.le_of_ble_eq_true rfl) ⟨Nat.le_of_ble_eq_true rfl, Nat.le_of_ble_eq_true rfl⟩ dX9_layParted_106 (fun H locs hp => ?_)
        refine r_if_eq (tgt := 124) C h dX9_layParted_109 (by decide) (fun h => ?_) (fun h => ?_)
        · exact hJ46 _ _ _ _ h hp hl
        · refine lv_aload_n C.1 C.2.1 dX9_layParted_112 rfl (lv_at hl 0 rfl) ?_
          refine r_getr (t := 14) C hp mk_0 ms_0 mc_0 min_0 (j := 32) (by decide) rfl gw_1288 rfl dX9_layParted_113 ?_
          refine r_bipush C dX9_layParted_116 (by decide +kernel) ?_
          refine lv_iload_n C.1 C.2.1 dX9_layParted_118 rfl (lv_at hl 2 rfl) ?_
          refine r_imul C dX9_layParted_119 ?_
          refine lv_iload_n C.1 C.2.1 dX9_layParted_120 rfl (lv_at hl 3 rfl) ?_
          refine r_iadd C dX9_layParted_121 ?_
          refine lv_iload_n C.1 C.2.1 dX9_layParted_122 rfl (lv_at hl 1 rfl) ?_
          refine r_iast C hp h mk_14 ms_14 dX9_layParted_123 (fun M48 H locs h hp => ?_)
          exact hJ46 _ _ _ _ h hp hl
set_option maxRecDepth 100000 in
set_option maxHeartbeats 4000000 in
theorem w_X9_layParted_L69 (C : g_CX mG V p R s m args meth c cX9_layParted 4 none RX9 2 46) {res : g_M} (hR : g_RetV mG V p l e R s m args below meth c Q cX9_layParted res) (x36 : Int) (k39 : g_M → Option (g_M)) (hk39 : ∀ (M54 : g_M) (H : Heap) (locs : List Loc) (ls : Array Slot), k39 M54 = some res → g_PT mG V M54 s H locs → lv_has ls 4 [(0, .ref (V.2.2 0)), (1, .int (gI x36))] → W p l e R s m args below meth c H locs 0 0 Q (F0 m 136 ls [])) : ∀ (f : Nat) (x37 : Int) (M38 : g_M) (H : Heap) (locs : List Loc) (ls : Array Slot), m_X9_layParted_L69 x36 k39 f x37 M38 = some res → g_PT mG V M38 s H locs → lv_has ls 4 [(0, .ref (V.2.2 0)), (1, .int (gI x36)), (2, .int (gI x37))] → W p l e R s m args below meth c H locs 0 0 Q (F0 m 69 ls []) := by
  intro f
  induction f with
  | zero => intro x37 M38 H locs ls h hp hl; cases h
  | succ f ih =>
    intro x37 M38 H locs ls h hp hl
    rw [m_X9_layParted_L69] at h
    refine lv_iload_n C.1 C.2.1 dX9_layParted_69 rfl (lv_at hl 2 rfl) ?_
    refine r_bipush C dX9_layParted_70 (by decide +kernel) ?_
    refine r_icmp_ge (tgt := 136) C h dX9_layParted_72 (by decide) (fun h => ?_) (fun h => ?_)
    · exact hk39 _ _ _ _ h hp (lv_sub hl [0, 1] rfl)
    · refine r_iconst C dX9_layParted_75 ?_
      refine r_istore_n (lv' := fun x40 => [(3, .int (gI x40)), (0, .ref (V.2.2 0)), (1, .int (gI x36)), (2, .int (gI x37))]) C h dX9_layParted_76 rfl hl (by decide) (fun _ => rfl) (fun x40 ls h hl => ?_)
      refine w_X9_layParted_L77 C hR _ _ _ ?_ _ _ _ H locs ls h hp (lv_sub hl [1, 2, 3, 0] rfl)
      · intro M52 H locs ls h hp hl
        refine r_iinc (lv' := fun x53 => [(2, .int (gI x53)), (0, .ref (V.2.2 0)), (1, .int (gI x36))]) C h dX9_layParted_130 hl (j := 2) rfl (by decide) (fun _ => rfl) (fun x53 ls h hl => ?_)
        refine r_goto (tgt := 69) C dX9_layParted_133 (by decide) ?_
        exact ih _ _ _ _ _ h hp (lv_sub hl [1, 2, 0] rfl)
set_option maxRecDepth 100000 in
set_option maxHeartbeats 4000000 in
theorem w_X9_layParted_L61 (C : g_CX mG V p R s m args meth c cX9_layParted 4 none RX9 2 46) {res : g_M} (hR : g_RetV mG V p l e R s m args below meth c Q cX9_layParted res)    : ∀ (f : Nat) (x33 : Int) (M34 : g_M) (H : Heap) (locs : List Loc) (ls : Array Slot), m_X9_layParted_L61  f x33 M34 = some res → g_PT mG V M34 s H locs → lv_has ls 4 [(0, .ref (V.2.2 0)), (1, .int (gI x33))] → W p l e R s m args below meth c H locs 0 0 Q (F0 m 61 ls []) := by
  intro f
  induction f with
  | zero => intro x33 M34 H locs ls h hp hl; cases h
  | succ f ih =>
    intro x33 M34 H locs ls h hp hl
    rw [m_X9_layParted_L61] at h
    refine lv_iload_n C.1 C.2.1 dX9_layParted_61 rfl (lv_at hl 1 rfl) ?_
    refine r_bipush C dX9_layParted_62 (by decide +kernel) ?_
    refine r_icmp_ge (tgt := 142) C h dX9_layParted_64 (by decide) (fun h => ?_) (fun h => ?_)
    · cases h
      exact hR _ _ _ _ dX9_layParted_142 hp
    · refine r_iconst C dX9_layParted_67 ?_
      refine r_istore_n (lv' := fun x35 => [(2, .int (gI x35)), (0, .ref (V.2.2 0)), (1, .int (gI x33))]) C h dX9_layParted_68 rfl hl (by decide) (fun _ => rfl) (fun x35 ls h hl => ?_)
      refine w_X9_layParted_L69 C hR _ _ ?_ _ _ _ H locs ls h hp (lv_sub hl [1, 2, 0] rfl)
      · intro M55 H locs ls h hp hl
        refine r_iinc (lv' := fun x56 => [(1, .int (gI x56)), (0, .ref (V.2.2 0))]) C h dX9_layParted_136 hl (j := 1) rfl (by decide) (fun _ => rfl) (fun x56 ls h hl => ?_)
        refine r_goto (tgt := 61) C dX9_layParted_139 (by decide) ?_
        exact ih _ _ _ _ _ h hp (lv_sub hl [1, 0] rfl)
set_option maxRecDepth 100000 in
set_option maxHeartbeats 4000000 in
theorem b_X9_layParted (C : g_CX mG V p R s m args meth c cX9_layParted 4 none RX9 2 46) {res : g_M} (hR : g_RetV mG V p l e R s m args below meth c Q cX9_layParted res)  {M : g_M} {H : Heap} {locs : List Loc} {ls : Array Slot} (h : m_X9_layParted M = some res) (hp : g_PT mG V M s H locs) (hl : lv_has ls 4 [(0, .ref (V.2.2 0))]) : W p l e R s m args below meth c H locs 0 0 Q (F0 m 0 ls []) := by
  unfold m_X9_layParted at h
  refine r_iconst C dX9_layParted_0 ?_
  refine r_istore_n (lv' := fun x11 => [(1, .int (gI x11)), (0, .ref (V.2.2 0))]) C h dX9_layParted_1 rfl hl (by decide) (fun _ => rfl) (fun x11 ls h hl => ?_)
  refine w_X9_layParted_L2 C hR _ ?_ _ _ _ H locs ls h hp (lv_sub hl [1, 0] rfl)
  · intro M31 H locs ls h hp hl
    refine r_iconst C dX9_layParted_59 ?_
    refine r_istore_n (lv' := fun x32 => [(1, .int (gI x32)), (0, .ref (V.2.2 0))]) C h dX9_layParted_60 rfl hl (by decide) (fun _ => rfl) (fun x32 ls h hl => ?_)
    refine w_X9_layParted_L61 C hR _ _ _ H locs ls h hp (lv_sub hl [1, 0] rfl)
theorem c_X9_layParted (l : Launch) {V : g_V} (hok : g_ok mG V)  {M : g_M} {res : g_M} (h : m_X9_layParted M = some res) : MetV mG V l yX9_layParted cX9_layParted 4 none 2 46 [.ref (V.2.2 0)] M res :=
  g_metV hok cal_X9_layParted.2.2.2 rfl (Nat.le_of_ble_eq_true rfl) (@fun p e R s m args below meth c Q ls C hR hp hl => b_X9_layParted C hR h hp hl)
set_option maxRecDepth 100000 in
set_option maxHeartbeats 4000000 in
theorem w_X9_lowestLike_L2 (C : g_CX mG V p R s m args meth c cX9_lowestLike 3 (some .int) RX9 0 0) {res : Int} {M14 : g_M} (hR : g_RetI mG V p l e R s m args below meth c Q cX9_lowestLike .int res M14) (x12 : Int)   : ∀ (f : Nat) (x13 : Int) (H : Heap) (locs : List Loc) (ls : Array Slot), m_X9_lowestLike_L2 x12 M14  f x13 = some res → g_PT mG V M14 s H locs → lv_has ls 3 [(0, .ref (V.2.2 0)), (1, .int (gI x12)), (2, .int (gI x13))] → W p l e R s m args below meth c H locs 0 0 Q (F0 m 2 ls []) := by
  intro f
  induction f with
  | zero => intro x13 H locs ls h hp hl; cases h
  | succ f ih =>
    intro x13 H locs ls h hp hl
    rw [m_X9_lowestLike_L2] at h
    refine lv_aload_n C.1 C.2.1 dX9_lowestLike_2 rfl (lv_at hl 0 rfl) ?_
    refine r_getr (t := 14) C hp mk_0 ms_0 mc_0 min_0 (j := 32) (by decide) rfl gw_1288 rfl dX9_lowestLike_3 ?_
    refine r_bipush C dX9_lowestLike_6 (by decide +kernel) ?_
    refine lv_iload_n C.1 C.2.1 dX9_lowestLike_8 rfl (lv_at hl 2 rfl) ?_
    refine r_imul C dX9_lowestLike_9 ?_
    refine lv_iload_n C.1 C.2.1 dX9_lowestLike_10 rfl (lv_at hl 1 rfl) ?_
    refine r_iadd C dX9_lowestLike_11 ?_
    refine r_iald C hp h mk_14 ms_14 dX9_lowestLike_12 (fun h => ?_)
    refine r_ldcw (n := 1000000) C gw_1778 (by decide +kernel) dX9_lowestLike_13 ?_
    refine r_icmp_eq (tgt := 25) C h dX9_lowestLike_16 (by decide) (fun h => ?_) (fun h => ?_)
    · refine lv_iload_n C.1 C.2.1 dX9_lowestLike_25 rfl (lv_at hl 2 rfl) ?_
      cases h
      exact hR _ _ _ _ dX9_lowestLike_26 rfl hp
    · refine r_iinc (lv' := fun x15 => [(2, .int (gI x15)), (0, .ref (V.2.2 0)), (1, .int (gI x12))]) C h dX9_lowestLike_19 hl (j := 2) rfl (by decide) (fun _ => rfl) (fun x15 ls h hl => ?_)
      refine r_goto (tgt := 2) C dX9_lowestLike_22 (by decide) ?_
      exact ih _ _ _ _ h hp (lv_sub hl [1, 2, 0] rfl)
set_option maxRecDepth 100000 in
set_option maxHeartbeats 4000000 in
theorem b_X9_lowestLike (C : g_CX mG V p R s m args meth c cX9_lowestLike 3 (some .int) RX9 0 0) {res : Int} {M : g_M} (hR : g_RetI mG V p l e R s m args below meth c Q cX9_lowestLike .int res M) {a1 : Int} {H : Heap} {locs : List Loc} {ls : Array Slot} (h : m_X9_lowestLike a1 M = some res) (hp : g_PT mG V M s H locs) (hl : lv_has ls 3 [(0, .ref (V.2.2 0)), (1, .int (gI a1))]) : W p l e R s m args below meth c H locs 0 0 Q (F0 m 0 ls []) := by
  unfold m_X9_lowestLike at h
  refine r_iconst C dX9_lowestLike_0 ?_
  refine r_istore_n (lv' := fun x11 => [(2, .int (gI x11)), (0, .ref (V.2.2 0)), (1, .int (gI a1))]) C h dX9_lowestLike_1 rfl hl (by decide) (fun _ => rfl) (fun x11 ls h hl => ?_)
  refine w_X9_lowestLike_L2 C hR _ _ _ H locs ls h hp (lv_sub hl [1, 2, 0] rfl)
theorem c_X9_lowestLike (l : Launch) {V : g_V} (hok : g_ok mG V) {a1 : Int} {M : g_M} {x : Int} (h : m_X9_lowestLike a1 M = some x) : MetI mG V l yX9_lowestLike cX9_lowestLike 3 (some .int) 0 0 [.ref (V.2.2 0), .int (gI a1)] M x M :=
  g_metI hok cal_X9_lowestLike.2.2.2 rfl (Nat.le_of_ble_eq_true rfl) (@fun p e R s m args below meth c Q ls C hR hp hl => b_X9_lowestLike C hR h hp hl)
set_option maxRecDepth 100000 in
set_option maxHeartbeats 4000000 in
theorem w_X9_kinds_L38 (C : g_CX mG V p R s m args meth c cX9_kinds 5 (some .int) RX9 3 69) {res : Int × g_M} (hR : g_RetI mG V p l e R s m args below meth c Q cX9_kinds .int res.1 res.2) (x22 : Int) (M24 : g_M)   : ∀ (f : Nat) (x21 : Int) (x23 : Int) (H : Heap) (locs : List Loc) (ls : Array Slot), m_X9_kinds_L38 x22 M24  f x21 x23 = some res → g_PT mG V M24 s H locs → lv_has ls 5 [(0, .ref (V.2.2 0)), (2, .int (gI x21)), (3, .int (gI x22)), (4, .int (gI x23))] → W p l e R s m args below meth c H locs 0 0 Q (F0 m 38 ls []) := by
  intro f
  induction f with
  | zero => intro x21 x23 H locs ls h hp hl; cases h
  | succ f ih =>
    intro x21 x23 H locs ls h hp hl
    rw [m_X9_kinds_L38] at h
    refine lv_iload C.1 C.2.1 dX9_kinds_38 (lv_at hl 3 rfl) ?_
    refine lv_iload_n C.1 C.2.1 dX9_kinds_40 rfl (lv_at hl 2 rfl) ?_
    refine r_icmp_ge (tgt := 69) C h dX9_kinds_41 (by decide) (fun h => ?_) (fun h => ?_)
    · refine lv_iload_n C.1 C.2.1 dX9_kinds_69 rfl (lv_at hl 1 rfl) ?_
      cases h
      exact hR _ _ _ _ dX9_kinds_70 rfl hp
    · refine r_jn (P := fun J => ∀ (x27 : Int) (x28 : Int) (H : Heap) (locs : List Loc) (ls : Array Slot), J x27 x28 = some res → g_PT mG V M24 s H locs → lv_has ls 5 [(0, .ref (V.2.2 0)), (3, .int (gI x22)), (4, .int (gI x23))] → W p l e R s m args below meth c H locs 0 0 Q (F0 m 61 ls [.int (gI x27), .int (gI x28)])) h ?_ (fun J25 hJ25 h => ?_)
      · intro x27 x28 H locs ls h hp hl
        refine r_iadd C dX9_kinds_61 ?_
        refine r_istore_n (lv' := fun x29 => [(2, .int (gI x29)), (0, .ref (V.2.2 0)), (3, .int (gI x22)), (4, .int (gI x23))]) C h dX9_kinds_62 rfl hl (by decide) (fun _ => rfl) (fun x29 ls h hl => ?_)
        refine r_iinc (lv' := fun x30 => [(4, .int (gI x30)), (2, .int (gI x29)), (0, .ref (V.2.2 0)), (3, .int (gI x22))]) C h dX9_kinds_63 hl (j := 3) rfl (by decide) (fun _ => rfl) (fun x30 ls h hl => ?_)
        refine r_goto (tgt := 38) C dX9_kinds_66 (by decide) ?_
        exact ih _ _ _ _ _ h hp (lv_sub hl [2, 1, 3, 0] rfl)
      refine lv_iload_n C.1 C.2.1 dX9_kinds_44 rfl (lv_at hl 1 rfl) ?_
      refine lv_aload_n C.1 C.2.1 dX9_kinds_45 rfl (lv_at hl 0 rfl) ?_
      refine lv_iload C.1 C.2.1 dX9_kinds_46 (lv_at hl 3 rfl) ?_
      obtain ⟨x26, hr, h⟩ := bd_of h
      refine r_callVI (As := [.int (gI x23)]) (rest := [.int (gI x21)]) C hl.1 hp (c_X9_lowestLike l C.2.2.2.2.2.2.2.2.2.2.2 hr) gw_1840 gw_1842 gw_108 mk_0 ms_0 mc_0 cal_X9_lowestLike rfl rfl (Nat.le_of_ble_eq_true rfl) ⟨Nat.le_of_ble_eq_true rfl, Nat.le_of_ble_eq_true rfl⟩ dX9_kinds_48 (fun H locs hp => ?_)
      refine lv_iload C.1 C.2.1 dX9_kinds_51 (lv_at hl 3 rfl) ?_
      refine r_icmp_ne (tgt := 60) C h dX9_kinds_53 (by decide) (fun h => ?_) (fun h => ?_)
      · refine r_iconst C dX9_kinds_60 ?_
        exact hJ25 _ _ _ _ _ h hp (lv_sub hl [0, 2, 3] rfl)
      · refine r_iconst C dX9_kinds_56 ?_
        refine r_goto (tgt := 61) C dX9_kinds_57 (by decide) ?_
        exact hJ25 _ _ _ _ _ h hp (lv_sub hl [0, 2, 3] rfl)
set_option maxRecDepth 100000 in
set_option maxHeartbeats 4000000 in
theorem b_X9_kinds (C : g_CX mG V p R s m args meth c cX9_kinds 5 (some .int) RX9 3 69) {res : Int × g_M} (hR : g_RetI mG V p l e R s m args below meth c Q cX9_kinds .int res.1 res.2) {a1 : Int} {M : g_M} {H : Heap} {locs : List Loc} {ls : Array Slot} (h : m_X9_kinds a1 M = some res) (hp : g_PT mG V M s H locs) (hl : lv_has ls 5 [(0, .ref (V.2.2 0)), (1, .int (gI a1))]) : W p l e R s m args below meth c H locs 0 0 Q (F0 m 0 ls []) := by
  unfold m_X9_kinds at h
  refine lv_iload_n C.1 C.2.1 dX9_kinds_0 rfl (lv_at hl 1 rfl) ?_
  refine r_iconst C dX9_kinds_1 ?_
  refine r_bipush C dX9_kinds_2 (by decide +kernel) ?_
  obtain ⟨x11, hr, h⟩ := bd_of h
  refine r_callSI (As := [.int (gI a1), .int (gI (-1)), .int (gI 12)]) (rest := []) C hl.1 hp (c_X9_isIn l C.2.2.2.2.2.2.2.2.2.2.2 hr) gw_1378 gw_1379 cal_X9_isIn rfl rfl (Nat.le_of_ble_eq_true rfl) ⟨Nat.le_of_ble_eq_true rfl, Nat.le_of_ble_eq_true rfl⟩ dX9_kinds_4 (fun H locs hp => ?_)
  refine r_if_ne (tgt := 13) C h dX9_kinds_7 (by decide) (fun h => ?_) (fun h => ?_)
  · refine r_jn (P := fun J => ∀ (x16 : Int) (x17 : Int) (M18 : g_M) (H : Heap) (locs : List Loc) (ls : Array Slot), J x16 x17 M18 = some res → g_PT mG V M18 s H locs → lv_has ls 5 [(0, .ref (V.2.2 0)), (2, .int (gI x16))] → W p l e R s m args below meth c H locs 0 0 Q (F0 m 34 ls [.int (gI x17)])) h ?_ (fun J12 hJ12 h => ?_)
    · intro x16 x17 M18 H locs ls h hp hl
      refine r_istore_n (lv' := fun x19 => [(3, .int (gI x19)), (0, .ref (V.2.2 0)), (2, .int (gI x16))]) C h dX9_kinds_34 rfl hl (by decide) (fun _ => rfl) (fun x19 ls h hl => ?_)
      refine r_iconst C dX9_kinds_35 ?_
      refine r_istore (lv' := fun x20 => [(4, .int (gI x20)), (3, .int (gI x19)), (0, .ref (V.2.2 0)), (2, .int (gI x16))]) C h dX9_kinds_36 hl (by decide) (fun _ => rfl) (fun x20 ls h hl => ?_)
      refine w_X9_kinds_L38 C hR _ _ _ _ _ H locs ls h hp (lv_sub hl [2, 3, 1, 0] rfl)
    refine lv_aload_n C.1 C.2.1 dX9_kinds_13 rfl (lv_at hl 0 rfl) ?_
    obtain ⟨M13, hr, h⟩ := bd_of h
    refine r_callVV (As := []) (rest := []) C hl.1 hp (c_X9_layParted l C.2.2.2.2.2.2.2.2.2.2.2 hr) gw_1828 gw_1830 gw_105 mk_0 ms_0 mc_0 cal_X9_layParted rfl rfl (Nat.le_of_ble_eq_true rfl) ⟨Nat.le_of_ble_eq_true rfl, Nat.le_of_ble_eq_true rfl⟩ dX9_kinds_14 (fun H locs hp => ?_)
    refine r_iconst C dX9_kinds_17 ?_
    refine r_istore_n (lv' := fun x14 => [(2, .int (gI x14)), (0, .ref (V.2.2 0)), (1, .int (gI a1))]) C h dX9_kinds_18 rfl hl (by decide) (fun _ => rfl) (fun x14 ls h hl => ?_)
    refine lv_iload_n C.1 C.2.1 dX9_kinds_19 rfl (lv_at hl 2 rfl) ?_
    refine r_iconst C dX9_kinds_20 ?_
    refine r_icmp_ne (tgt := 29) C h dX9_kinds_21 (by decide) (fun h => ?_) (fun h => ?_)
    · refine lv_aload_n C.1 C.2.1 dX9_kinds_29 rfl (lv_at hl 1 rfl) ?_
      refine lv_iload_n C.1 C.2.1 dX9_kinds_30 rfl (lv_at hl 2 rfl) ?_
      obtain ⟨x15, hr, h⟩ := bd_of h
      refine r_callVI (As := [.int (gI a1)]) (rest := []) C hl.1 hp (c_X9_lowestLike l C.2.2.2.2.2.2.2.2.2.2.2 hr) gw_1840 gw_1842 gw_108 mk_0 ms_0 mc_0 cal_X9_lowestLike rfl rfl (Nat.le_of_ble_eq_true rfl) ⟨Nat.le_of_ble_eq_true rfl, Nat.le_of_ble_eq_true rfl⟩ dX9_kinds_31 (fun H locs hp => ?_)
      exact hJ12 _ _ _ _ _ _ h hp (lv_sub hl [1, 0] rfl)
    · refine r_bipush C dX9_kinds_24 (by decide +kernel) ?_
      refine r_goto (tgt := 34) C dX9_kinds_26 (by decide) ?_
      exact hJ12 _ _ _ _ _ _ h hp (lv_sub hl [1, 0] rfl)
  · refine r_bipush C dX9_kinds_10 (by decide +kernel) ?_
    cases h
    exact hR _ _ _ _ dX9_kinds_12 rfl hp
theorem c_X9_kinds (l : Launch) {V : g_V} (hok : g_ok mG V) {a1 : Int} {M : g_M} {x : Int} {M2 : g_M} (h : m_X9_kinds a1 M = some (x, M2)) : MetI mG V l yX9_kinds cX9_kinds 5 (some .int) 3 69 [.ref (V.2.2 0), .int (gI a1)] M x M2 :=
  g_metI hok cal_X9_kinds.2.2.2 rfl (Nat.le_of_ble_eq_true rfl) (@fun p e R s m args below meth c Q ls C hR hp hl => b_X9_kinds C hR h hp hl)
set_option maxRecDepth 100000 in
set_option maxHeartbeats 4000000 in
theorem b_X9_parts (C : g_CX mG V p R s m args meth c cX9_parts 3 (some .int) RX9 3 69) {res : Int × g_M} (hR : g_RetI mG V p l e R s m args below meth c Q cX9_parts .int res.1 res.2) {a1 : Int} {a2 : Int} {M : g_M} {H : Heap} {locs : List Loc} {ls : Array Slot} (h : m_X9_parts a1 a2 M = some res) (hp : g_PT mG V M s H locs) (hl : lv_has ls 3 [(0, .ref (V.2.2 0)), (1, .int (gI a1)), (2, .int (gI a2))]) : W p l e R s m args below meth c H locs 0 0 Q (F0 m 0 ls []) := by
  unfold m_X9_parts at h
  refine lv_iload_n C.1 C.2.1 dX9_parts_0 rfl (lv_at hl 1 rfl) ?_
  obtain ⟨x11, hr, h⟩ := bd_of h
  refine r_callSI (As := [.int (gI a1)]) (rest := []) C hl.1 hp (c_X9_isAny l C.2.2.2.2.2.2.2.2.2.2.2 hr) gw_1388 gw_1389 cal_X9_isAny rfl rfl (Nat.le_of_ble_eq_true rfl) ⟨Nat.le_of_ble_eq_true rfl, Nat.le_of_ble_eq_true rfl⟩ dX9_parts_1 (fun H locs hp => ?_)
  refine r_if_eq (tgt := 14) C h dX9_parts_4 (by decide) (fun h => ?_) (fun h => ?_)
  · refine r_iconst C dX9_parts_14 ?_
    cases h
    exact hR _ _ _ _ dX9_parts_15 rfl hp
  · refine lv_iload_n C.1 C.2.1 dX9_parts_7 rfl (lv_at hl 2 rfl) ?_
    obtain ⟨x12, hr, h⟩ := bd_of h
    refine r_callSI (As := [.int (gI a2)]) (rest := []) C hl.1 hp (c_X9_isAny l C.2.2.2.2.2.2.2.2.2.2.2 hr) gw_1388 gw_1389 cal_X9_isAny rfl rfl (Nat.le_of_ble_eq_true rfl) ⟨Nat.le_of_ble_eq_true rfl, Nat.le_of_ble_eq_true rfl⟩ dX9_parts_8 (fun H locs hp => ?_)
    refine r_if_ne (tgt := 16) C h dX9_parts_11 (by decide) (fun h => ?_) (fun h => ?_)
    · refine lv_aload_n C.1 C.2.1 dX9_parts_16 rfl (lv_at hl 0 rfl) ?_
      obtain ⟨M13, hr, h⟩ := bd_of h
      refine r_callVV (As := []) (rest := []) C hl.1 hp (c_X9_layParted l C.2.2.2.2.2.2.2.2.2.2.2 hr) gw_1828 gw_1830 gw_105 mk_0 ms_0 mc_0 cal_X9_layParted rfl rfl (Nat.le_of_ble_eq_true rfl) ⟨Nat.le_of_ble_eq_true rfl, Nat.le_of_ble_eq_true rfl⟩ dX9_parts_17 (fun H locs hp => ?_)
      refine lv_aload_n C.1 C.2.1 dX9_parts_20 rfl (lv_at hl 0 rfl) ?_
      refine r_getr (t := 14) C hp mk_0 ms_0 mc_0 min_0 (j := 32) (by decide) rfl gw_1288 rfl dX9_parts_21 ?_
      refine r_bipush C dX9_parts_24 (by decide +kernel) ?_
      refine lv_iload_n C.1 C.2.1 dX9_parts_26 rfl (lv_at hl 1 rfl) ?_
      refine r_imul C dX9_parts_27 ?_
      refine lv_iload_n C.1 C.2.1 dX9_parts_28 rfl (lv_at hl 2 rfl) ?_
      refine r_iadd C dX9_parts_29 ?_
      refine r_iald C hp h mk_14 ms_14 dX9_parts_30 (fun h => ?_)
      refine r_ldcw (n := 1000000) C gw_1778 (by decide +kernel) dX9_parts_31 ?_
      refine r_icmp_ne (tgt := 41) C h dX9_parts_34 (by decide) (fun h => ?_) (fun h => ?_)
      · refine lv_aload_n C.1 C.2.1 dX9_parts_41 rfl (lv_at hl 0 rfl) ?_
        refine r_getr (t := 14) C hp mk_0 ms_0 mc_0 min_0 (j := 32) (by decide) rfl gw_1288 rfl dX9_parts_42 ?_
        refine r_bipush C dX9_parts_45 (by decide +kernel) ?_
        refine lv_iload_n C.1 C.2.1 dX9_parts_47 rfl (lv_at hl 1 rfl) ?_
        refine r_imul C dX9_parts_48 ?_
        refine lv_iload_n C.1 C.2.1 dX9_parts_49 rfl (lv_at hl 2 rfl) ?_
        refine r_iadd C dX9_parts_50 ?_
        refine r_iald C hp h mk_14 ms_14 dX9_parts_51 (fun h => ?_)
        cases h
        exact hR _ _ _ _ dX9_parts_52 rfl hp
      · refine r_iconst C dX9_parts_37 ?_
        refine r_goto (tgt := 52) C dX9_parts_38 (by decide) ?_
        cases h
        exact hR _ _ _ _ dX9_parts_52 rfl hp
    · refine r_iconst C dX9_parts_14 ?_
      cases h
      exact hR _ _ _ _ dX9_parts_15 rfl hp
theorem c_X9_parts (l : Launch) {V : g_V} (hok : g_ok mG V) {a1 : Int} {a2 : Int} {M : g_M} {x : Int} {M2 : g_M} (h : m_X9_parts a1 a2 M = some (x, M2)) : MetI mG V l yX9_parts cX9_parts 3 (some .int) 3 69 [.ref (V.2.2 0), .int (gI a1), .int (gI a2)] M x M2 :=
  g_metI hok cal_X9_parts.2.2.2 rfl (Nat.le_of_ble_eq_true rfl) (@fun p e R s m args below meth c Q ls C hR hp hl => b_X9_parts C hR h hp hl)
end
