theorem dX9_copy_0 : decode cX9_copy 0 = .ok (.iconst 0, 1) := by decide +kernel
theorem dX9_copy_1 : decode cX9_copy 1 = .ok (.istore_n 2, 1) := by decide +kernel
theorem dX9_copy_2 : decode cX9_copy 2 = .ok (.iload_n 2, 1) := by decide +kernel
theorem dX9_copy_3 : decode cX9_copy 3 = .ok (.sipush 3409, 3) := by decide +kernel
theorem dX9_copy_6 : decode cX9_copy 6 = .ok (.if_icmp .ge 15, 3) := by decide +kernel
theorem dX9_copy_9 : decode cX9_copy 9 = .ok (.aload_n 1, 1) := by decide +kernel
theorem dX9_copy_10 : decode cX9_copy 10 = .ok (.iload_n 2, 1) := by decide +kernel
theorem dX9_copy_11 : decode cX9_copy 11 = .ok (.aload_n 0, 1) := by decide +kernel
theorem dX9_copy_12 : decode cX9_copy 12 = .ok (.iload_n 2, 1) := by decide +kernel
theorem dX9_copy_13 : decode cX9_copy 13 = .ok (.iaload, 1) := by decide +kernel
theorem dX9_copy_14 : decode cX9_copy 14 = .ok (.iastore, 1) := by decide +kernel
theorem dX9_copy_15 : decode cX9_copy 15 = .ok (.iinc 2 1, 3) := by decide +kernel
theorem dX9_copy_18 : decode cX9_copy 18 = .ok (.goto (-16), 3) := by decide +kernel
theorem dX9_copy_21 : decode cX9_copy 21 = .ok (.return_, 1) := by decide +kernel
theorem dX9_round_0 : decode cX9_round 0 = .ok (.iload_n 1, 1) := by decide +kernel
theorem dX9_round_1 : decode cX9_round 1 = .ok (.invokestatic 90, 3) := by decide +kernel
theorem dX9_round_4 : decode cX9_round 4 = .ok (.ifCond .ne 5, 3) := by decide +kernel
theorem dX9_round_7 : decode cX9_round 7 = .ok (.iconst (-1), 1) := by decide +kernel
theorem dX9_round_8 : decode cX9_round 8 = .ok (.ireturn, 1) := by decide +kernel
theorem dX9_round_9 : decode cX9_round 9 = .ok (.aload_n 0, 1) := by decide +kernel
theorem dX9_round_10 : decode cX9_round 10 = .ok (.iload_n 1, 1) := by decide +kernel
theorem dX9_round_11 : decode cX9_round 11 = .ok (.invokevirtual 419, 3) := by decide +kernel
theorem dX9_round_14 : decode cX9_round 14 = .ok (.iconst 0, 1) := by decide +kernel
theorem dX9_round_15 : decode cX9_round 15 = .ok (.istore_n 2, 1) := by decide +kernel
theorem dX9_round_16 : decode cX9_round 16 = .ok (.iload_n 2, 1) := by decide +kernel
theorem dX9_round_17 : decode cX9_round 17 = .ok (.iconst 4, 1) := by decide +kernel
theorem dX9_round_18 : decode cX9_round 18 = .ok (.if_icmp .ge 28, 3) := by decide +kernel
theorem dX9_round_21 : decode cX9_round 21 = .ok (.aload_n 0, 1) := by decide +kernel
theorem dX9_round_22 : decode cX9_round 22 = .ok (.getfield 50, 3) := by decide +kernel
theorem dX9_round_25 : decode cX9_round 25 = .ok (.aload_n 0, 1) := by decide +kernel
theorem dX9_round_26 : decode cX9_round 26 = .ok (.iload_n 1, 1) := by decide +kernel
theorem dX9_round_27 : decode cX9_round 27 = .ok (.iload_n 2, 1) := by decide +kernel
theorem dX9_round_28 : decode cX9_round 28 = .ok (.invokevirtual 343, 3) := by decide +kernel
theorem dX9_round_31 : decode cX9_round 31 = .ok (.iaload, 1) := by decide +kernel
theorem dX9_round_32 : decode cX9_round 32 = .ok (.ldc_w 418, 3) := by decide +kernel
theorem dX9_round_35 : decode cX9_round 35 = .ok (.if_icmp .eq 5, 3) := by decide +kernel
theorem dX9_round_38 : decode cX9_round 38 = .ok (.iconst 1, 1) := by decide +kernel
theorem dX9_round_39 : decode cX9_round 39 = .ok (.ireturn, 1) := by decide +kernel
theorem dX9_round_40 : decode cX9_round 40 = .ok (.iinc 2 1, 3) := by decide +kernel
theorem dX9_round_43 : decode cX9_round 43 = .ok (.goto (-27), 3) := by decide +kernel
theorem dX9_round_46 : decode cX9_round 46 = .ok (.iconst 0, 1) := by decide +kernel
theorem dX9_round_47 : decode cX9_round 47 = .ok (.ireturn, 1) := by decide +kernel
theorem dX9_dead_0 : decode cX9_dead 0 = .ok (.aload_n 0, 1) := by decide +kernel
theorem dX9_dead_1 : decode cX9_dead 1 = .ok (.bipush 12, 2) := by decide +kernel
theorem dX9_dead_3 : decode cX9_dead 3 = .ok (.invokevirtual 419, 3) := by decide +kernel
theorem dX9_dead_6 : decode cX9_dead 6 = .ok (.iconst 0, 1) := by decide +kernel
theorem dX9_dead_7 : decode cX9_dead 7 = .ok (.istore_n 1, 1) := by decide +kernel
theorem dX9_dead_8 : decode cX9_dead 8 = .ok (.iconst 0, 1) := by decide +kernel
theorem dX9_dead_9 : decode cX9_dead 9 = .ok (.istore_n 2, 1) := by decide +kernel
theorem dX9_dead_10 : decode cX9_dead 10 = .ok (.iload_n 2, 1) := by decide +kernel
theorem dX9_dead_11 : decode cX9_dead 11 = .ok (.bipush 12, 2) := by decide +kernel
theorem dX9_dead_13 : decode cX9_dead 13 = .ok (.if_icmp .ge 31, 3) := by decide +kernel
theorem dX9_dead_16 : decode cX9_dead 16 = .ok (.iload_n 1, 1) := by decide +kernel
theorem dX9_dead_17 : decode cX9_dead 17 = .ok (.aload_n 0, 1) := by decide +kernel
theorem dX9_dead_18 : decode cX9_dead 18 = .ok (.getfield 50, 3) := by decide +kernel
theorem dX9_dead_21 : decode cX9_dead 21 = .ok (.iload_n 2, 1) := by decide +kernel
theorem dX9_dead_22 : decode cX9_dead 22 = .ok (.iaload, 1) := by decide +kernel
theorem dX9_dead_23 : decode cX9_dead 23 = .ok (.ldc_w 418, 3) := by decide +kernel
theorem dX9_dead_26 : decode cX9_dead 26 = .ok (.if_icmp .ne 9, 3) := by decide +kernel
theorem dX9_dead_29 : decode cX9_dead 29 = .ok (.iconst 1, 1) := by decide +kernel
theorem dX9_dead_30 : decode cX9_dead 30 = .ok (.iload_n 2, 1) := by decide +kernel
theorem dX9_dead_31 : decode cX9_dead 31 = .ok (.ishl, 1) := by decide +kernel
theorem dX9_dead_32 : decode cX9_dead 32 = .ok (.goto 4, 3) := by decide +kernel
theorem dX9_dead_35 : decode cX9_dead 35 = .ok (.iconst 0, 1) := by decide +kernel
theorem dX9_dead_36 : decode cX9_dead 36 = .ok (.ior, 1) := by decide +kernel
theorem dX9_dead_37 : decode cX9_dead 37 = .ok (.istore_n 1, 1) := by decide +kernel
theorem dX9_dead_38 : decode cX9_dead 38 = .ok (.iinc 2 1, 3) := by decide +kernel
theorem dX9_dead_41 : decode cX9_dead 41 = .ok (.goto (-31), 3) := by decide +kernel
theorem dX9_dead_44 : decode cX9_dead 44 = .ok (.iload_n 1, 1) := by decide +kernel
theorem dX9_dead_45 : decode cX9_dead 45 = .ok (.ireturn, 1) := by decide +kernel
theorem dX9_far_0 : decode cX9_far 0 = .ok (.aload_n 0, 1) := by decide +kernel
theorem dX9_far_1 : decode cX9_far 1 = .ok (.bipush 12, 2) := by decide +kernel
theorem dX9_far_3 : decode cX9_far 3 = .ok (.invokevirtual 419, 3) := by decide +kernel
theorem dX9_far_6 : decode cX9_far 6 = .ok (.iconst (-1), 1) := by decide +kernel
theorem dX9_far_7 : decode cX9_far 7 = .ok (.istore_n 1, 1) := by decide +kernel
theorem dX9_far_8 : decode cX9_far 8 = .ok (.iconst 0, 1) := by decide +kernel
theorem dX9_far_9 : decode cX9_far 9 = .ok (.istore_n 2, 1) := by decide +kernel
theorem dX9_far_10 : decode cX9_far 10 = .ok (.iload_n 2, 1) := by decide +kernel
theorem dX9_far_11 : decode cX9_far 11 = .ok (.bipush 12, 2) := by decide +kernel
theorem dX9_far_13 : decode cX9_far 13 = .ok (.if_icmp .ge 43, 3) := by decide +kernel
theorem dX9_far_16 : decode cX9_far 16 = .ok (.aload_n 0, 1) := by decide +kernel
theorem dX9_far_17 : decode cX9_far 17 = .ok (.getfield 50, 3) := by decide +kernel
theorem dX9_far_20 : decode cX9_far 20 = .ok (.iload_n 2, 1) := by decide +kernel
theorem dX9_far_21 : decode cX9_far 21 = .ok (.iaload, 1) := by decide +kernel
theorem dX9_far_22 : decode cX9_far 22 = .ok (.ldc_w 418, 3) := by decide +kernel
theorem dX9_far_25 : decode cX9_far 25 = .ok (.if_icmp .eq 25, 3) := by decide +kernel
theorem dX9_far_28 : decode cX9_far 28 = .ok (.iload_n 1, 1) := by decide +kernel
theorem dX9_far_29 : decode cX9_far 29 = .ok (.iconst (-1), 1) := by decide +kernel
theorem dX9_far_30 : decode cX9_far 30 = .ok (.if_icmp .eq 18, 3) := by decide +kernel
theorem dX9_far_33 : decode cX9_far 33 = .ok (.aload_n 0, 1) := by decide +kernel
theorem dX9_far_34 : decode cX9_far 34 = .ok (.getfield 50, 3) := by decide +kernel
theorem dX9_far_37 : decode cX9_far 37 = .ok (.iload_n 2, 1) := by decide +kernel
theorem dX9_far_38 : decode cX9_far 38 = .ok (.iaload, 1) := by decide +kernel
theorem dX9_far_39 : decode cX9_far 39 = .ok (.aload_n 0, 1) := by decide +kernel
theorem dX9_far_40 : decode cX9_far 40 = .ok (.getfield 50, 3) := by decide +kernel
theorem dX9_far_43 : decode cX9_far 43 = .ok (.iload_n 1, 1) := by decide +kernel
theorem dX9_far_44 : decode cX9_far 44 = .ok (.iaload, 1) := by decide +kernel
theorem dX9_far_45 : decode cX9_far 45 = .ok (.if_icmp .le 5, 3) := by decide +kernel
theorem dX9_far_48 : decode cX9_far 48 = .ok (.iload_n 2, 1) := by decide +kernel
theorem dX9_far_49 : decode cX9_far 49 = .ok (.istore_n 1, 1) := by decide +kernel
theorem dX9_far_50 : decode cX9_far 50 = .ok (.iinc 2 1, 3) := by decide +kernel
theorem dX9_far_53 : decode cX9_far 53 = .ok (.goto (-43), 3) := by decide +kernel
theorem dX9_far_56 : decode cX9_far 56 = .ok (.iload_n 1, 1) := by decide +kernel
theorem dX9_far_57 : decode cX9_far 57 = .ok (.ireturn, 1) := by decide +kernel
theorem dX9_look_0 : decode cX9_look 0 = .ok (.iload_n 1, 1) := by decide +kernel
theorem dX9_look_1 : decode cX9_look 1 = .ok (.iconst (-1), 1) := by decide +kernel
theorem dX9_look_2 : decode cX9_look 2 = .ok (.if_icmp .ne 23, 3) := by decide +kernel
theorem dX9_look_5 : decode cX9_look 5 = .ok (.aload_n 0, 1) := by decide +kernel
theorem dX9_look_6 : decode cX9_look 6 = .ok (.getfield 7, 3) := by decide +kernel
theorem dX9_look_9 : decode cX9_look 9 = .ok (.sipush 142, 3) := by decide +kernel
theorem dX9_look_12 : decode cX9_look 12 = .ok (.sipush 4095, 3) := by decide +kernel
theorem dX9_look_15 : decode cX9_look 15 = .ok (.iastore, 1) := by decide +kernel
theorem dX9_look_16 : decode cX9_look 16 = .ok (.aload_n 0, 1) := by decide +kernel
theorem dX9_look_17 : decode cX9_look 17 = .ok (.getfield 7, 3) := by decide +kernel
theorem dX9_look_20 : decode cX9_look 20 = .ok (.sipush 142, 3) := by decide +kernel
theorem dX9_look_23 : decode cX9_look 23 = .ok (.iaload, 1) := by decide +kernel
theorem dX9_look_24 : decode cX9_look 24 = .ok (.ireturn, 1) := by decide +kernel
theorem dX9_look_25 : decode cX9_look 25 = .ok (.iload_n 1, 1) := by decide +kernel
theorem dX9_look_26 : decode cX9_look 26 = .ok (.iconst 0, 1) := by decide +kernel
theorem dX9_look_27 : decode cX9_look 27 = .ok (.iconst 3, 1) := by decide +kernel
theorem dX9_look_28 : decode cX9_look 28 = .ok (.invokestatic 78, 3) := by decide +kernel
theorem dX9_look_31 : decode cX9_look 31 = .ok (.ifCond .ne 6, 3) := by decide +kernel
theorem dX9_look_34 : decode cX9_look 34 = .ok (.bipush (-2), 2) := by decide +kernel
theorem dX9_look_36 : decode cX9_look 36 = .ok (.ireturn, 1) := by decide +kernel
theorem dX9_look_37 : decode cX9_look 37 = .ok (.iconst 0, 1) := by decide +kernel
theorem dX9_look_38 : decode cX9_look 38 = .ok (.istore_n 2, 1) := by decide +kernel
theorem dX9_look_39 : decode cX9_look 39 = .ok (.iconst 0, 1) := by decide +kernel
theorem dX9_look_40 : decode cX9_look 40 = .ok (.istore_n 3, 1) := by decide +kernel
theorem dX9_look_41 : decode cX9_look 41 = .ok (.iload_n 3, 1) := by decide +kernel
theorem dX9_look_42 : decode cX9_look 42 = .ok (.bipush 12, 2) := by decide +kernel
theorem dX9_look_44 : decode cX9_look 44 = .ok (.if_icmp .ge 64, 3) := by decide +kernel
theorem dX9_look_47 : decode cX9_look 47 = .ok (.iconst 0, 1) := by decide +kernel
theorem dX9_look_48 : decode cX9_look 48 = .ok (.istore 4, 2) := by decide +kernel
theorem dX9_look_50 : decode cX9_look 50 = .ok (.iload 4, 2) := by decide +kernel
theorem dX9_look_52 : decode cX9_look 52 = .ok (.iconst 4, 1) := by decide +kernel
theorem dX9_look_53 : decode cX9_look 53 = .ok (.if_icmp .ge 49, 3) := by decide +kernel
theorem dX9_look_56 : decode cX9_look 56 = .ok (.aload_n 0, 1) := by decide +kernel
theorem dX9_look_57 : decode cX9_look 57 = .ok (.getfield 7, 3) := by decide +kernel
theorem dX9_look_60 : decode cX9_look 60 = .ok (.sipush 142, 3) := by decide +kernel
theorem dX9_look_63 : decode cX9_look 63 = .ok (.iaload, 1) := by decide +kernel
theorem dX9_look_64 : decode cX9_look 64 = .ok (.iload_n 3, 1) := by decide +kernel
theorem dX9_look_65 : decode cX9_look 65 = .ok (.invokestatic 266, 3) := by decide +kernel
theorem dX9_look_68 : decode cX9_look 68 = .ok (.ifCond .eq 28, 3) := by decide +kernel
theorem dX9_look_71 : decode cX9_look 71 = .ok (.aload_n 0, 1) := by decide +kernel
theorem dX9_look_72 : decode cX9_look 72 = .ok (.getfield 7, 3) := by decide +kernel
theorem dX9_look_75 : decode cX9_look 75 = .ok (.bipush 114, 2) := by decide +kernel
theorem dX9_look_77 : decode cX9_look 77 = .ok (.iload_n 3, 1) := by decide +kernel
theorem dX9_look_78 : decode cX9_look 78 = .ok (.iadd, 1) := by decide +kernel
theorem dX9_look_79 : decode cX9_look 79 = .ok (.iaload, 1) := by decide +kernel
theorem dX9_look_80 : decode cX9_look 80 = .ok (.iload_n 1, 1) := by decide +kernel
theorem dX9_look_81 : decode cX9_look 81 = .ok (.if_icmp .ne 15, 3) := by decide +kernel
theorem dX9_look_84 : decode cX9_look 84 = .ok (.iload_n 2, 1) := by decide +kernel
theorem dX9_look_85 : decode cX9_look 85 = .ok (.iconst 1, 1) := by decide +kernel
theorem dX9_look_86 : decode cX9_look 86 = .ok (.aload_n 0, 1) := by decide +kernel
theorem dX9_look_87 : decode cX9_look 87 = .ok (.iload_n 3, 1) := by decide +kernel
theorem dX9_look_88 : decode cX9_look 88 = .ok (.iload 4, 2) := by decide +kernel
theorem dX9_look_90 : decode cX9_look 90 = .ok (.invokevirtual 343, 3) := by decide +kernel
theorem dX9_look_93 : decode cX9_look 93 = .ok (.ishl, 1) := by decide +kernel
theorem dX9_look_94 : decode cX9_look 94 = .ok (.ior, 1) := by decide +kernel
theorem dX9_look_95 : decode cX9_look 95 = .ok (.istore_n 2, 1) := by decide +kernel
theorem dX9_look_96 : decode cX9_look 96 = .ok (.iinc 4 1, 3) := by decide +kernel
theorem dX9_look_99 : decode cX9_look 99 = .ok (.goto (-49), 3) := by decide +kernel
theorem dX9_look_102 : decode cX9_look 102 = .ok (.iinc 3 1, 3) := by decide +kernel
theorem dX9_look_105 : decode cX9_look 105 = .ok (.goto (-64), 3) := by decide +kernel
theorem dX9_look_108 : decode cX9_look 108 = .ok (.aload_n 0, 1) := by decide +kernel
theorem dX9_look_109 : decode cX9_look 109 = .ok (.getfield 7, 3) := by decide +kernel
theorem dX9_look_112 : decode cX9_look 112 = .ok (.sipush 142, 3) := by decide +kernel
theorem dX9_look_115 : decode cX9_look 115 = .ok (.iload_n 2, 1) := by decide +kernel
theorem dX9_look_116 : decode cX9_look 116 = .ok (.sipush 4095, 3) := by decide +kernel
theorem dX9_look_119 : decode cX9_look 119 = .ok (.iand, 1) := by decide +kernel
theorem dX9_look_120 : decode cX9_look 120 = .ok (.iastore, 1) := by decide +kernel
theorem dX9_look_121 : decode cX9_look 121 = .ok (.aload_n 0, 1) := by decide +kernel
theorem dX9_look_122 : decode cX9_look 122 = .ok (.getfield 7, 3) := by decide +kernel
theorem dX9_look_125 : decode cX9_look 125 = .ok (.sipush 142, 3) := by decide +kernel
theorem dX9_look_128 : decode cX9_look 128 = .ok (.iaload, 1) := by decide +kernel
theorem dX9_look_129 : decode cX9_look 129 = .ok (.ireturn, 1) := by decide +kernel
theorem dX9_sure_0 : decode cX9_sure 0 = .ok (.aload_n 0, 1) := by decide +kernel
theorem dX9_sure_1 : decode cX9_sure 1 = .ok (.getfield 7, 3) := by decide +kernel
theorem dX9_sure_4 : decode cX9_sure 4 = .ok (.sipush 142, 3) := by decide +kernel
theorem dX9_sure_7 : decode cX9_sure 7 = .ok (.iaload, 1) := by decide +kernel
theorem dX9_sure_8 : decode cX9_sure 8 = .ok (.invokestatic 318, 3) := by decide +kernel
theorem dX9_sure_11 : decode cX9_sure 11 = .ok (.iconst 1, 1) := by decide +kernel
theorem dX9_sure_12 : decode cX9_sure 12 = .ok (.if_icmp .eq 5, 3) := by decide +kernel
theorem dX9_sure_15 : decode cX9_sure 15 = .ok (.iconst (-1), 1) := by decide +kernel
theorem dX9_sure_16 : decode cX9_sure 16 = .ok (.ireturn, 1) := by decide +kernel
theorem dX9_sure_17 : decode cX9_sure 17 = .ok (.iconst 0, 1) := by decide +kernel
theorem dX9_sure_18 : decode cX9_sure 18 = .ok (.istore_n 1, 1) := by decide +kernel
theorem dX9_sure_19 : decode cX9_sure 19 = .ok (.aload_n 0, 1) := by decide +kernel
theorem dX9_sure_20 : decode cX9_sure 20 = .ok (.getfield 7, 3) := by decide +kernel
theorem dX9_sure_23 : decode cX9_sure 23 = .ok (.sipush 142, 3) := by decide +kernel
theorem dX9_sure_26 : decode cX9_sure 26 = .ok (.iaload, 1) := by decide +kernel
theorem dX9_sure_27 : decode cX9_sure 27 = .ok (.iload_n 1, 1) := by decide +kernel
theorem dX9_sure_28 : decode cX9_sure 28 = .ok (.invokestatic 266, 3) := by decide +kernel
theorem dX9_sure_31 : decode cX9_sure 31 = .ok (.ifCond .ne 9, 3) := by decide +kernel
theorem dX9_sure_34 : decode cX9_sure 34 = .ok (.iinc 1 1, 3) := by decide +kernel
theorem dX9_sure_37 : decode cX9_sure 37 = .ok (.goto (-18), 3) := by decide +kernel
theorem dX9_sure_40 : decode cX9_sure 40 = .ok (.iload_n 1, 1) := by decide +kernel
theorem dX9_sure_41 : decode cX9_sure 41 = .ok (.ireturn, 1) := by decide +kernel
theorem dX9_tells_0 : decode cX9_tells 0 = .ok (.iconst (-1), 1) := by decide +kernel
theorem dX9_tells_1 : decode cX9_tells 1 = .ok (.istore_n 1, 1) := by decide +kernel
theorem dX9_tells_2 : decode cX9_tells 2 = .ok (.iconst 0, 1) := by decide +kernel
theorem dX9_tells_3 : decode cX9_tells 3 = .ok (.istore_n 2, 1) := by decide +kernel
theorem dX9_tells_4 : decode cX9_tells 4 = .ok (.iconst 0, 1) := by decide +kernel
theorem dX9_tells_5 : decode cX9_tells 5 = .ok (.istore_n 3, 1) := by decide +kernel
theorem dX9_tells_6 : decode cX9_tells 6 = .ok (.iload_n 3, 1) := by decide +kernel
theorem dX9_tells_7 : decode cX9_tells 7 = .ok (.iconst 4, 1) := by decide +kernel
theorem dX9_tells_8 : decode cX9_tells 8 = .ok (.if_icmp .ge 86, 3) := by decide +kernel
theorem dX9_tells_11 : decode cX9_tells 11 = .ok (.iconst 0, 1) := by decide +kernel
theorem dX9_tells_12 : decode cX9_tells 12 = .ok (.istore 4, 2) := by decide +kernel
theorem dX9_tells_14 : decode cX9_tells 14 = .ok (.iconst 0, 1) := by decide +kernel
theorem dX9_tells_15 : decode cX9_tells 15 = .ok (.istore 5, 2) := by decide +kernel
theorem dX9_tells_17 : decode cX9_tells 17 = .ok (.iload 5, 2) := by decide +kernel
theorem dX9_tells_19 : decode cX9_tells 19 = .ok (.bipush 12, 2) := by decide +kernel
theorem dX9_tells_21 : decode cX9_tells 21 = .ok (.if_icmp .ge 47, 3) := by decide +kernel
theorem dX9_tells_24 : decode cX9_tells 24 = .ok (.iload 4, 2) := by decide +kernel
theorem dX9_tells_26 : decode cX9_tells 26 = .ok (.aload_n 0, 1) := by decide +kernel
theorem dX9_tells_27 : decode cX9_tells 27 = .ok (.getfield 7, 3) := by decide +kernel
theorem dX9_tells_30 : decode cX9_tells 30 = .ok (.sipush 142, 3) := by decide +kernel
theorem dX9_tells_33 : decode cX9_tells 33 = .ok (.iaload, 1) := by decide +kernel
theorem dX9_tells_34 : decode cX9_tells 34 = .ok (.iload 5, 2) := by decide +kernel
theorem dX9_tells_36 : decode cX9_tells 36 = .ok (.invokestatic 266, 3) := by decide +kernel
theorem dX9_tells_39 : decode cX9_tells 39 = .ok (.ifCond .eq 19, 3) := by decide +kernel
theorem dX9_tells_42 : decode cX9_tells 42 = .ok (.iconst 1, 1) := by decide +kernel
theorem dX9_tells_43 : decode cX9_tells 43 = .ok (.aload_n 0, 1) := by decide +kernel
theorem dX9_tells_44 : decode cX9_tells 44 = .ok (.aload_n 0, 1) := by decide +kernel
theorem dX9_tells_45 : decode cX9_tells 45 = .ok (.iload 5, 2) := by decide +kernel
theorem dX9_tells_47 : decode cX9_tells 47 = .ok (.iload_n 3, 1) := by decide +kernel
theorem dX9_tells_48 : decode cX9_tells 48 = .ok (.invokevirtual 343, 3) := by decide +kernel
theorem dX9_tells_51 : decode cX9_tells 51 = .ok (.invokevirtual 445, 3) := by decide +kernel
theorem dX9_tells_54 : decode cX9_tells 54 = .ok (.ishl, 1) := by decide +kernel
theorem dX9_tells_55 : decode cX9_tells 55 = .ok (.goto 4, 3) := by decide +kernel
theorem dX9_tells_58 : decode cX9_tells 58 = .ok (.iconst 0, 1) := by decide +kernel
theorem dX9_tells_59 : decode cX9_tells 59 = .ok (.ior, 1) := by decide +kernel
theorem dX9_tells_60 : decode cX9_tells 60 = .ok (.istore 4, 2) := by decide +kernel
theorem dX9_tells_62 : decode cX9_tells 62 = .ok (.iinc 5 1, 3) := by decide +kernel
theorem dX9_tells_65 : decode cX9_tells 65 = .ok (.goto (-48), 3) := by decide +kernel
theorem dX9_tells_68 : decode cX9_tells 68 = .ok (.iload 4, 2) := by decide +kernel
theorem dX9_tells_70 : decode cX9_tells 70 = .ok (.invokestatic 318, 3) := by decide +kernel
theorem dX9_tells_73 : decode cX9_tells 73 = .ok (.iload_n 2, 1) := by decide +kernel
theorem dX9_tells_74 : decode cX9_tells 74 = .ok (.if_icmp .gt 6, 3) := by decide +kernel
theorem dX9_tells_77 : decode cX9_tells 77 = .ok (.goto 11, 3) := by decide +kernel
theorem dX9_tells_80 : decode cX9_tells 80 = .ok (.iload 4, 2) := by decide +kernel
theorem dX9_tells_82 : decode cX9_tells 82 = .ok (.invokestatic 318, 3) := by decide +kernel
theorem dX9_tells_85 : decode cX9_tells 85 = .ok (.istore_n 2, 1) := by decide +kernel
theorem dX9_tells_86 : decode cX9_tells 86 = .ok (.iload_n 3, 1) := by decide +kernel
theorem dX9_tells_87 : decode cX9_tells 87 = .ok (.istore_n 1, 1) := by decide +kernel
theorem dX9_tells_88 : decode cX9_tells 88 = .ok (.iinc 3 1, 3) := by decide +kernel
theorem dX9_tells_91 : decode cX9_tells 91 = .ok (.goto (-85), 3) := by decide +kernel
theorem dX9_tells_94 : decode cX9_tells 94 = .ok (.iload_n 1, 1) := by decide +kernel
theorem dX9_tells_95 : decode cX9_tells 95 = .ok (.ireturn, 1) := by decide +kernel
theorem dX9_likes_0 : decode cX9_likes 0 = .ok (.iload_n 1, 1) := by decide +kernel
theorem dX9_likes_1 : decode cX9_likes 1 = .ok (.iconst 0, 1) := by decide +kernel
theorem dX9_likes_2 : decode cX9_likes 2 = .ok (.bipush 7, 2) := by decide +kernel
theorem dX9_likes_4 : decode cX9_likes 4 = .ok (.invokestatic 78, 3) := by decide +kernel
theorem dX9_likes_7 : decode cX9_likes 7 = .ok (.ifCond .eq 22, 3) := by decide +kernel
theorem dX9_likes_10 : decode cX9_likes 10 = .ok (.iload_n 2, 1) := by decide +kernel
theorem dX9_likes_11 : decode cX9_likes 11 = .ok (.iconst 0, 1) := by decide +kernel
theorem dX9_likes_12 : decode cX9_likes 12 = .ok (.iconst 4, 1) := by decide +kernel
theorem dX9_likes_13 : decode cX9_likes 13 = .ok (.invokestatic 78, 3) := by decide +kernel
theorem dX9_likes_16 : decode cX9_likes 16 = .ok (.ifCond .eq 13, 3) := by decide +kernel
theorem dX9_likes_19 : decode cX9_likes 19 = .ok (.iload_n 3, 1) := by decide +kernel
theorem dX9_likes_20 : decode cX9_likes 20 = .ok (.iconst 0, 1) := by decide +kernel
theorem dX9_likes_21 : decode cX9_likes 21 = .ok (.bipush 99, 2) := by decide +kernel
theorem dX9_likes_23 : decode cX9_likes 23 = .ok (.invokestatic 78, 3) := by decide +kernel
theorem dX9_likes_26 : decode cX9_likes 26 = .ok (.ifCond .ne 5, 3) := by decide +kernel
theorem dX9_likes_29 : decode cX9_likes 29 = .ok (.iconst 0, 1) := by decide +kernel
theorem dX9_likes_30 : decode cX9_likes 30 = .ok (.ireturn, 1) := by decide +kernel
theorem dX9_likes_31 : decode cX9_likes 31 = .ok (.aload_n 0, 1) := by decide +kernel
theorem dX9_likes_32 : decode cX9_likes 32 = .ok (.getfield 7, 3) := by decide +kernel
theorem dX9_likes_35 : decode cX9_likes 35 = .ok (.sipush 143, 3) := by decide +kernel
theorem dX9_likes_38 : decode cX9_likes 38 = .ok (.iconst 5, 1) := by decide +kernel
theorem dX9_likes_39 : decode cX9_likes 39 = .ok (.iload_n 1, 1) := by decide +kernel
theorem dX9_likes_40 : decode cX9_likes 40 = .ok (.imul, 1) := by decide +kernel
theorem dX9_likes_41 : decode cX9_likes 41 = .ok (.iadd, 1) := by decide +kernel
theorem dX9_likes_42 : decode cX9_likes 42 = .ok (.iload_n 2, 1) := by decide +kernel
theorem dX9_likes_43 : decode cX9_likes 43 = .ok (.iadd, 1) := by decide +kernel
theorem dX9_likes_44 : decode cX9_likes 44 = .ok (.iload_n 3, 1) := by decide +kernel
theorem dX9_likes_45 : decode cX9_likes 45 = .ok (.iastore, 1) := by decide +kernel
theorem dX9_likes_46 : decode cX9_likes 46 = .ok (.iconst 1, 1) := by decide +kernel
theorem dX9_likes_47 : decode cX9_likes 47 = .ok (.ireturn, 1) := by decide +kernel
theorem dX9_isNextRow_0 : decode cX9_isNextRow 0 = .ok (.iload_n 2, 1) := by decide +kernel
theorem dX9_isNextRow_1 : decode cX9_isNextRow 1 = .ok (.istore_n 3, 1) := by decide +kernel
theorem dX9_isNextRow_2 : decode cX9_isNextRow 2 = .ok (.iload_n 3, 1) := by decide +kernel
theorem dX9_isNextRow_3 : decode cX9_isNextRow 3 = .ok (.ifCond .lt 115, 3) := by decide +kernel
theorem dX9_isNextRow_6 : decode cX9_isNextRow 6 = .ok (.iload_n 3, 1) := by decide +kernel
theorem dX9_isNextRow_7 : decode cX9_isNextRow 7 = .ok (.aload_n 0, 1) := by decide +kernel
theorem dX9_isNextRow_8 : decode cX9_isNextRow 8 = .ok (.getfield 7, 3) := by decide +kernel
theorem dX9_isNextRow_11 : decode cX9_isNextRow 11 = .ok (.iconst 0, 1) := by decide +kernel
theorem dX9_isNextRow_12 : decode cX9_isNextRow 12 = .ok (.iaload, 1) := by decide +kernel
theorem dX9_isNextRow_13 : decode cX9_isNextRow 13 = .ok (.if_icmp .ge 105, 3) := by decide +kernel
theorem dX9_isNextRow_16 : decode cX9_isNextRow 16 = .ok (.aload_n 0, 1) := by decide +kernel
theorem dX9_isNextRow_17 : decode cX9_isNextRow 17 = .ok (.getfield 65, 3) := by decide +kernel
theorem dX9_isNextRow_20 : decode cX9_isNextRow 20 = .ok (.iload_n 3, 1) := by decide +kernel
theorem dX9_isNextRow_21 : decode cX9_isNextRow 21 = .ok (.iaload, 1) := by decide +kernel
theorem dX9_isNextRow_22 : decode cX9_isNextRow 22 = .ok (.istore 4, 2) := by decide +kernel
theorem dX9_isNextRow_24 : decode cX9_isNextRow 24 = .ok (.iload 4, 2) := by decide +kernel
theorem dX9_isNextRow_26 : decode cX9_isNextRow 26 = .ok (.ifCond .lt 14, 3) := by decide +kernel
theorem dX9_isNextRow_29 : decode cX9_isNextRow 29 = .ok (.aload_n 0, 1) := by decide +kernel
theorem dX9_isNextRow_30 : decode cX9_isNextRow 30 = .ok (.getfield 71, 3) := by decide +kernel
theorem dX9_isNextRow_33 : decode cX9_isNextRow 33 = .ok (.iload 4, 2) := by decide +kernel
theorem dX9_isNextRow_35 : decode cX9_isNextRow 35 = .ok (.dup2, 1) := by decide +kernel
theorem dX9_isNextRow_36 : decode cX9_isNextRow 36 = .ok (.iaload, 1) := by decide +kernel
theorem dX9_isNextRow_37 : decode cX9_isNextRow 37 = .ok (.iconst 1, 1) := by decide +kernel
theorem dX9_isNextRow_38 : decode cX9_isNextRow 38 = .ok (.isub, 1) := by decide +kernel
theorem dX9_isNextRow_39 : decode cX9_isNextRow 39 = .ok (.iastore, 1) := by decide +kernel
theorem dX9_isNextRow_40 : decode cX9_isNextRow 40 = .ok (.iinc 4 1, 3) := by decide +kernel
theorem dX9_isNextRow_43 : decode cX9_isNextRow 43 = .ok (.iload 4, 2) := by decide +kernel
theorem dX9_isNextRow_45 : decode cX9_isNextRow 45 = .ok (.iconst 5, 1) := by decide +kernel
theorem dX9_isNextRow_46 : decode cX9_isNextRow 46 = .ok (.if_icmp .ge 20, 3) := by decide +kernel
theorem dX9_isNextRow_49 : decode cX9_isNextRow 49 = .ok (.aload_n 0, 1) := by decide +kernel
theorem dX9_isNextRow_50 : decode cX9_isNextRow 50 = .ok (.getfield 71, 3) := by decide +kernel
theorem dX9_isNextRow_53 : decode cX9_isNextRow 53 = .ok (.iload 4, 2) := by decide +kernel
theorem dX9_isNextRow_55 : decode cX9_isNextRow 55 = .ok (.iaload, 1) := by decide +kernel
theorem dX9_isNextRow_56 : decode cX9_isNextRow 56 = .ok (.iload_n 1, 1) := by decide +kernel
theorem dX9_isNextRow_57 : decode cX9_isNextRow 57 = .ok (.if_icmp .ne 9, 3) := by decide +kernel
theorem dX9_isNextRow_60 : decode cX9_isNextRow 60 = .ok (.iinc 4 1, 3) := by decide +kernel
theorem dX9_isNextRow_63 : decode cX9_isNextRow 63 = .ok (.goto (-20), 3) := by decide +kernel
theorem dX9_isNextRow_66 : decode cX9_isNextRow 66 = .ok (.aload_n 0, 1) := by decide +kernel
theorem dX9_isNextRow_67 : decode cX9_isNextRow 67 = .ok (.getfield 65, 3) := by decide +kernel
theorem dX9_isNextRow_70 : decode cX9_isNextRow 70 = .ok (.iload_n 3, 1) := by decide +kernel
theorem dX9_isNextRow_71 : decode cX9_isNextRow 71 = .ok (.iload 4, 2) := by decide +kernel
theorem dX9_isNextRow_73 : decode cX9_isNextRow 73 = .ok (.iconst 5, 1) := by decide +kernel
theorem dX9_isNextRow_74 : decode cX9_isNextRow 74 = .ok (.if_icmp .ge 8, 3) := by decide +kernel
theorem dX9_isNextRow_77 : decode cX9_isNextRow 77 = .ok (.iload 4, 2) := by decide +kernel
theorem dX9_isNextRow_79 : decode cX9_isNextRow 79 = .ok (.goto 4, 3) := by decide +kernel
theorem dX9_isNextRow_82 : decode cX9_isNextRow 82 = .ok (.iconst (-1), 1) := by decide +kernel
theorem dX9_isNextRow_83 : decode cX9_isNextRow 83 = .ok (.iastore, 1) := by decide +kernel
theorem dX9_isNextRow_84 : decode cX9_isNextRow 84 = .ok (.iload 4, 2) := by decide +kernel
theorem dX9_isNextRow_86 : decode cX9_isNextRow 86 = .ok (.iconst 5, 1) := by decide +kernel
theorem dX9_isNextRow_87 : decode cX9_isNextRow 87 = .ok (.if_icmp .ge 14, 3) := by decide +kernel
theorem dX9_isNextRow_90 : decode cX9_isNextRow 90 = .ok (.aload_n 0, 1) := by decide +kernel
theorem dX9_isNextRow_91 : decode cX9_isNextRow 91 = .ok (.getfield 71, 3) := by decide +kernel
theorem dX9_isNextRow_94 : decode cX9_isNextRow 94 = .ok (.iload 4, 2) := by decide +kernel
theorem dX9_isNextRow_96 : decode cX9_isNextRow 96 = .ok (.dup2, 1) := by decide +kernel
theorem dX9_isNextRow_97 : decode cX9_isNextRow 97 = .ok (.iaload, 1) := by decide +kernel
theorem dX9_isNextRow_98 : decode cX9_isNextRow 98 = .ok (.iconst 1, 1) := by decide +kernel
theorem dX9_isNextRow_99 : decode cX9_isNextRow 99 = .ok (.iadd, 1) := by decide +kernel
theorem dX9_isNextRow_100 : decode cX9_isNextRow 100 = .ok (.iastore, 1) := by decide +kernel
theorem dX9_isNextRow_101 : decode cX9_isNextRow 101 = .ok (.iload_n 3, 1) := by decide +kernel
theorem dX9_isNextRow_102 : decode cX9_isNextRow 102 = .ok (.iload 4, 2) := by decide +kernel
theorem dX9_isNextRow_104 : decode cX9_isNextRow 104 = .ok (.iconst 5, 1) := by decide +kernel
theorem dX9_isNextRow_105 : decode cX9_isNextRow 105 = .ok (.if_icmp .ge 7, 3) := by decide +kernel
theorem dX9_isNextRow_108 : decode cX9_isNextRow 108 = .ok (.iconst 1, 1) := by decide +kernel
theorem dX9_isNextRow_109 : decode cX9_isNextRow 109 = .ok (.goto 4, 3) := by decide +kernel
theorem dX9_isNextRow_112 : decode cX9_isNextRow 112 = .ok (.iconst (-1), 1) := by decide +kernel
theorem dX9_isNextRow_113 : decode cX9_isNextRow 113 = .ok (.iadd, 1) := by decide +kernel
theorem dX9_isNextRow_114 : decode cX9_isNextRow 114 = .ok (.istore_n 3, 1) := by decide +kernel
theorem dX9_isNextRow_115 : decode cX9_isNextRow 115 = .ok (.goto (-113), 3) := by decide +kernel
theorem dX9_isNextRow_118 : decode cX9_isNextRow 118 = .ok (.iload_n 3, 1) := by decide +kernel
theorem dX9_isNextRow_119 : decode cX9_isNextRow 119 = .ok (.ifCond .lt 7, 3) := by decide +kernel
theorem dX9_isNextRow_122 : decode cX9_isNextRow 122 = .ok (.iconst 1, 1) := by decide +kernel
theorem dX9_isNextRow_123 : decode cX9_isNextRow 123 = .ok (.goto 4, 3) := by decide +kernel
theorem dX9_isNextRow_126 : decode cX9_isNextRow 126 = .ok (.iconst 0, 1) := by decide +kernel
theorem dX9_isNextRow_127 : decode cX9_isNextRow 127 = .ok (.ireturn, 1) := by decide +kernel
theorem dX9_layRoster_0 : decode cX9_layRoster 0 = .ok (.iconst 0, 1) := by decide +kernel
theorem dX9_layRoster_1 : decode cX9_layRoster 1 = .ok (.istore_n 2, 1) := by decide +kernel
theorem dX9_layRoster_2 : decode cX9_layRoster 2 = .ok (.iload_n 2, 1) := by decide +kernel
theorem dX9_layRoster_3 : decode cX9_layRoster 3 = .ok (.iconst 5, 1) := by decide +kernel
theorem dX9_layRoster_4 : decode cX9_layRoster 4 = .ok (.if_icmp .ge 16, 3) := by decide +kernel
theorem dX9_layRoster_7 : decode cX9_layRoster 7 = .ok (.aload_n 0, 1) := by decide +kernel
theorem dX9_layRoster_8 : decode cX9_layRoster 8 = .ok (.getfield 71, 3) := by decide +kernel
theorem dX9_layRoster_11 : decode cX9_layRoster 11 = .ok (.iload_n 2, 1) := by decide +kernel
theorem dX9_layRoster_12 : decode cX9_layRoster 12 = .ok (.iconst 0, 1) := by decide +kernel
theorem dX9_layRoster_13 : decode cX9_layRoster 13 = .ok (.iastore, 1) := by decide +kernel
theorem dX9_layRoster_14 : decode cX9_layRoster 14 = .ok (.iinc 2 1, 3) := by decide +kernel
theorem dX9_layRoster_17 : decode cX9_layRoster 17 = .ok (.goto (-15), 3) := by decide +kernel
theorem dX9_layRoster_20 : decode cX9_layRoster 20 = .ok (.iconst 0, 1) := by decide +kernel
theorem dX9_layRoster_21 : decode cX9_layRoster 21 = .ok (.istore_n 2, 1) := by decide +kernel
theorem dX9_layRoster_22 : decode cX9_layRoster 22 = .ok (.iload_n 2, 1) := by decide +kernel
theorem dX9_layRoster_23 : decode cX9_layRoster 23 = .ok (.bipush 8, 2) := by decide +kernel
theorem dX9_layRoster_25 : decode cX9_layRoster 25 = .ok (.if_icmp .ge 16, 3) := by decide +kernel
theorem dX9_layRoster_28 : decode cX9_layRoster 28 = .ok (.aload_n 0, 1) := by decide +kernel
theorem dX9_layRoster_29 : decode cX9_layRoster 29 = .ok (.getfield 65, 3) := by decide +kernel
theorem dX9_layRoster_32 : decode cX9_layRoster 32 = .ok (.iload_n 2, 1) := by decide +kernel
theorem dX9_layRoster_33 : decode cX9_layRoster 33 = .ok (.iconst (-1), 1) := by decide +kernel
theorem dX9_layRoster_34 : decode cX9_layRoster 34 = .ok (.iastore, 1) := by decide +kernel
theorem dX9_layRoster_35 : decode cX9_layRoster 35 = .ok (.iinc 2 1, 3) := by decide +kernel
theorem dX9_layRoster_38 : decode cX9_layRoster 38 = .ok (.goto (-16), 3) := by decide +kernel
theorem dX9_layRoster_41 : decode cX9_layRoster 41 = .ok (.iconst (-1), 1) := by decide +kernel
theorem dX9_layRoster_42 : decode cX9_layRoster 42 = .ok (.istore_n 2, 1) := by decide +kernel
theorem dX9_layRoster_43 : decode cX9_layRoster 43 = .ok (.aload_n 0, 1) := by decide +kernel
theorem dX9_layRoster_44 : decode cX9_layRoster 44 = .ok (.iload_n 1, 1) := by decide +kernel
theorem dX9_layRoster_45 : decode cX9_layRoster 45 = .ok (.iconst 0, 1) := by decide +kernel
theorem dX9_layRoster_46 : decode cX9_layRoster 46 = .ok (.invokevirtual 457, 3) := by decide +kernel
theorem dX9_layRoster_49 : decode cX9_layRoster 49 = .ok (.istore_n 3, 1) := by decide +kernel
theorem dX9_layRoster_50 : decode cX9_layRoster 50 = .ok (.iload_n 3, 1) := by decide +kernel
theorem dX9_layRoster_51 : decode cX9_layRoster 51 = .ok (.ifCond .eq 125, 3) := by decide +kernel
theorem dX9_layRoster_54 : decode cX9_layRoster 54 = .ok (.iconst 0, 1) := by decide +kernel
theorem dX9_layRoster_55 : decode cX9_layRoster 55 = .ok (.istore 4, 2) := by decide +kernel
theorem dX9_layRoster_57 : decode cX9_layRoster 57 = .ok (.iconst 0, 1) := by decide +kernel
theorem dX9_layRoster_58 : decode cX9_layRoster 58 = .ok (.istore 5, 2) := by decide +kernel
theorem dX9_layRoster_60 : decode cX9_layRoster 60 = .ok (.iload 5, 2) := by decide +kernel
theorem dX9_layRoster_62 : decode cX9_layRoster 62 = .ok (.aload_n 0, 1) := by decide +kernel
theorem dX9_layRoster_63 : decode cX9_layRoster 63 = .ok (.getfield 7, 3) := by decide +kernel
theorem dX9_layRoster_66 : decode cX9_layRoster 66 = .ok (.iconst 0, 1) := by decide +kernel
theorem dX9_layRoster_67 : decode cX9_layRoster 67 = .ok (.iaload, 1) := by decide +kernel
theorem dX9_layRoster_68 : decode cX9_layRoster 68 = .ok (.if_icmp .ge 35, 3) := by decide +kernel
theorem dX9_layRoster_71 : decode cX9_layRoster 71 = .ok (.iload 4, 2) := by decide +kernel
theorem dX9_layRoster_73 : decode cX9_layRoster 73 = .ok (.aload_n 0, 1) := by decide +kernel
theorem dX9_layRoster_74 : decode cX9_layRoster 74 = .ok (.getfield 7, 3) := by decide +kernel
theorem dX9_layRoster_77 : decode cX9_layRoster 77 = .ok (.sipush 143, 3) := by decide +kernel
theorem dX9_layRoster_80 : decode cX9_layRoster 80 = .ok (.iconst 5, 1) := by decide +kernel
theorem dX9_layRoster_81 : decode cX9_layRoster 81 = .ok (.iload 5, 2) := by decide +kernel
theorem dX9_layRoster_83 : decode cX9_layRoster 83 = .ok (.imul, 1) := by decide +kernel
theorem dX9_layRoster_84 : decode cX9_layRoster 84 = .ok (.iadd, 1) := by decide +kernel
theorem dX9_layRoster_85 : decode cX9_layRoster 85 = .ok (.aload_n 0, 1) := by decide +kernel
theorem dX9_layRoster_86 : decode cX9_layRoster 86 = .ok (.getfield 65, 3) := by decide +kernel
theorem dX9_layRoster_89 : decode cX9_layRoster 89 = .ok (.iload 5, 2) := by decide +kernel
theorem dX9_layRoster_91 : decode cX9_layRoster 91 = .ok (.iaload, 1) := by decide +kernel
theorem dX9_layRoster_92 : decode cX9_layRoster 92 = .ok (.iadd, 1) := by decide +kernel
theorem dX9_layRoster_93 : decode cX9_layRoster 93 = .ok (.iaload, 1) := by decide +kernel
theorem dX9_layRoster_94 : decode cX9_layRoster 94 = .ok (.iadd, 1) := by decide +kernel
theorem dX9_layRoster_95 : decode cX9_layRoster 95 = .ok (.istore 4, 2) := by decide +kernel
theorem dX9_layRoster_97 : decode cX9_layRoster 97 = .ok (.iinc 5 1, 3) := by decide +kernel
theorem dX9_layRoster_100 : decode cX9_layRoster 100 = .ok (.goto (-40), 3) := by decide +kernel
theorem dX9_layRoster_103 : decode cX9_layRoster 103 = .ok (.iload 4, 2) := by decide +kernel
theorem dX9_layRoster_105 : decode cX9_layRoster 105 = .ok (.iload_n 2, 1) := by decide +kernel
theorem dX9_layRoster_106 : decode cX9_layRoster 106 = .ok (.if_icmp .le 36, 3) := by decide +kernel
theorem dX9_layRoster_109 : decode cX9_layRoster 109 = .ok (.iload 4, 2) := by decide +kernel
theorem dX9_layRoster_111 : decode cX9_layRoster 111 = .ok (.istore_n 2, 1) := by decide +kernel
theorem dX9_layRoster_112 : decode cX9_layRoster 112 = .ok (.iconst 0, 1) := by decide +kernel
theorem dX9_layRoster_113 : decode cX9_layRoster 113 = .ok (.istore 5, 2) := by decide +kernel
theorem dX9_layRoster_115 : decode cX9_layRoster 115 = .ok (.iload 5, 2) := by decide +kernel
theorem dX9_layRoster_117 : decode cX9_layRoster 117 = .ok (.bipush 8, 2) := by decide +kernel
theorem dX9_layRoster_119 : decode cX9_layRoster 119 = .ok (.if_icmp .ge 23, 3) := by decide +kernel
theorem dX9_layRoster_122 : decode cX9_layRoster 122 = .ok (.aload_n 0, 1) := by decide +kernel
theorem dX9_layRoster_123 : decode cX9_layRoster 123 = .ok (.getfield 68, 3) := by decide +kernel
theorem dX9_layRoster_126 : decode cX9_layRoster 126 = .ok (.iload 5, 2) := by decide +kernel
theorem dX9_layRoster_128 : decode cX9_layRoster 128 = .ok (.aload_n 0, 1) := by decide +kernel
theorem dX9_layRoster_129 : decode cX9_layRoster 129 = .ok (.getfield 65, 3) := by decide +kernel
theorem dX9_layRoster_132 : decode cX9_layRoster 132 = .ok (.iload 5, 2) := by decide +kernel
theorem dX9_layRoster_134 : decode cX9_layRoster 134 = .ok (.iaload, 1) := by decide +kernel
theorem dX9_layRoster_135 : decode cX9_layRoster 135 = .ok (.iastore, 1) := by decide +kernel
theorem dX9_layRoster_136 : decode cX9_layRoster 136 = .ok (.iinc 5 1, 3) := by decide +kernel
theorem dX9_layRoster_139 : decode cX9_layRoster 139 = .ok (.goto (-24), 3) := by decide +kernel
theorem dX9_layRoster_142 : decode cX9_layRoster 142 = .ok (.aload_n 0, 1) := by decide +kernel
theorem dX9_layRoster_143 : decode cX9_layRoster 143 = .ok (.getfield 7, 3) := by decide +kernel
theorem dX9_layRoster_146 : decode cX9_layRoster 146 = .ok (.iconst 0, 1) := by decide +kernel
theorem dX9_layRoster_147 : decode cX9_layRoster 147 = .ok (.iaload, 1) := by decide +kernel
theorem dX9_layRoster_148 : decode cX9_layRoster 148 = .ok (.ifCond .le 23, 3) := by decide +kernel
theorem dX9_layRoster_151 : decode cX9_layRoster 151 = .ok (.aload_n 0, 1) := by decide +kernel
theorem dX9_layRoster_152 : decode cX9_layRoster 152 = .ok (.iload_n 1, 1) := by decide +kernel
theorem dX9_layRoster_153 : decode cX9_layRoster 153 = .ok (.aload_n 0, 1) := by decide +kernel
theorem dX9_layRoster_154 : decode cX9_layRoster 154 = .ok (.getfield 7, 3) := by decide +kernel
theorem dX9_layRoster_157 : decode cX9_layRoster 157 = .ok (.iconst 0, 1) := by decide +kernel
theorem dX9_layRoster_158 : decode cX9_layRoster 158 = .ok (.iaload, 1) := by decide +kernel
theorem dX9_layRoster_159 : decode cX9_layRoster 159 = .ok (.iconst 1, 1) := by decide +kernel
theorem dX9_layRoster_160 : decode cX9_layRoster 160 = .ok (.isub, 1) := by decide +kernel
theorem dX9_layRoster_161 : decode cX9_layRoster 161 = .ok (.invokevirtual 457, 3) := by decide +kernel
theorem dX9_layRoster_164 : decode cX9_layRoster 164 = .ok (.ifCond .eq 7, 3) := by decide +kernel
theorem dX9_layRoster_167 : decode cX9_layRoster 167 = .ok (.iconst 1, 1) := by decide +kernel
theorem dX9_layRoster_168 : decode cX9_layRoster 168 = .ok (.goto 4, 3) := by decide +kernel
theorem dX9_layRoster_171 : decode cX9_layRoster 171 = .ok (.iconst 0, 1) := by decide +kernel
theorem dX9_layRoster_172 : decode cX9_layRoster 172 = .ok (.istore_n 3, 1) := by decide +kernel
theorem dX9_layRoster_173 : decode cX9_layRoster 173 = .ok (.goto (-123), 3) := by decide +kernel
theorem dX9_layRoster_176 : decode cX9_layRoster 176 = .ok (.iload_n 2, 1) := by decide +kernel
theorem dX9_layRoster_177 : decode cX9_layRoster 177 = .ok (.ireturn, 1) := by decide +kernel
theorem dX9_roster_0 : decode cX9_roster 0 = .ok (.iload_n 1, 1) := by decide +kernel
theorem dX9_roster_1 : decode cX9_roster 1 = .ok (.iconst 1, 1) := by decide +kernel
theorem dX9_roster_2 : decode cX9_roster 2 = .ok (.bipush 8, 2) := by decide +kernel
theorem dX9_roster_4 : decode cX9_roster 4 = .ok (.invokestatic 78, 3) := by decide +kernel
theorem dX9_roster_7 : decode cX9_roster 7 = .ok (.ifCond .eq 28, 3) := by decide +kernel
theorem dX9_roster_10 : decode cX9_roster 10 = .ok (.iload_n 2, 1) := by decide +kernel
theorem dX9_roster_11 : decode cX9_roster 11 = .ok (.iconst (-1), 1) := by decide +kernel
theorem dX9_roster_12 : decode cX9_roster 12 = .ok (.if_icmp .eq 11, 3) := by decide +kernel
theorem dX9_roster_15 : decode cX9_roster 15 = .ok (.aload_n 0, 1) := by decide +kernel
theorem dX9_roster_16 : decode cX9_roster 16 = .ok (.iload_n 2, 1) := by decide +kernel
theorem dX9_roster_17 : decode cX9_roster 17 = .ok (.invokevirtual 370, 3) := by decide +kernel
theorem dX9_roster_20 : decode cX9_roster 20 = .ok (.ifCond .eq 15, 3) := by decide +kernel
theorem dX9_roster_23 : decode cX9_roster 23 = .ok (.aload_n 0, 1) := by decide +kernel
theorem dX9_roster_24 : decode cX9_roster 24 = .ok (.getfield 7, 3) := by decide +kernel
theorem dX9_roster_27 : decode cX9_roster 27 = .ok (.iconst 0, 1) := by decide +kernel
theorem dX9_roster_28 : decode cX9_roster 28 = .ok (.iaload, 1) := by decide +kernel
theorem dX9_roster_29 : decode cX9_roster 29 = .ok (.iconst 5, 1) := by decide +kernel
theorem dX9_roster_30 : decode cX9_roster 30 = .ok (.iload_n 1, 1) := by decide +kernel
theorem dX9_roster_31 : decode cX9_roster 31 = .ok (.imul, 1) := by decide +kernel
theorem dX9_roster_32 : decode cX9_roster 32 = .ok (.if_icmp .le 5, 3) := by decide +kernel
theorem dX9_roster_35 : decode cX9_roster 35 = .ok (.iconst (-1), 1) := by decide +kernel
theorem dX9_roster_36 : decode cX9_roster 36 = .ok (.ireturn, 1) := by decide +kernel
theorem dX9_roster_37 : decode cX9_roster 37 = .ok (.aload_n 0, 1) := by decide +kernel
theorem dX9_roster_38 : decode cX9_roster 38 = .ok (.iload_n 1, 1) := by decide +kernel
theorem dX9_roster_39 : decode cX9_roster 39 = .ok (.invokevirtual 460, 3) := by decide +kernel
theorem dX9_roster_42 : decode cX9_roster 42 = .ok (.istore_n 3, 1) := by decide +kernel
theorem dX9_roster_43 : decode cX9_roster 43 = .ok (.iload_n 2, 1) := by decide +kernel
theorem dX9_roster_44 : decode cX9_roster 44 = .ok (.iconst (-1), 1) := by decide +kernel
theorem dX9_roster_45 : decode cX9_roster 45 = .ok (.if_icmp .ne 7, 3) := by decide +kernel
theorem dX9_roster_48 : decode cX9_roster 48 = .ok (.iload_n 3, 1) := by decide +kernel
theorem dX9_roster_49 : decode cX9_roster 49 = .ok (.goto 9, 3) := by decide +kernel
theorem dX9_roster_52 : decode cX9_roster 52 = .ok (.aload_n 0, 1) := by decide +kernel
theorem dX9_roster_53 : decode cX9_roster 53 = .ok (.getfield 68, 3) := by decide +kernel
theorem dX9_roster_56 : decode cX9_roster 56 = .ok (.iload_n 2, 1) := by decide +kernel
theorem dX9_roster_57 : decode cX9_roster 57 = .ok (.iaload, 1) := by decide +kernel
theorem dX9_roster_58 : decode cX9_roster 58 = .ok (.ireturn, 1) := by decide +kernel
theorem dX9_felt_0 : decode cX9_felt 0 = .ok (.iload_n 1, 1) := by decide +kernel
theorem dX9_felt_1 : decode cX9_felt 1 = .ok (.iconst (-1), 1) := by decide +kernel
theorem dX9_felt_2 : decode cX9_felt 2 = .ok (.if_icmp .ne 12, 3) := by decide +kernel
theorem dX9_felt_5 : decode cX9_felt 5 = .ok (.aload_n 0, 1) := by decide +kernel
theorem dX9_felt_6 : decode cX9_felt 6 = .ok (.getfield 7, 3) := by decide +kernel
theorem dX9_felt_9 : decode cX9_felt 9 = .ok (.iconst 5, 1) := by decide +kernel
theorem dX9_felt_10 : decode cX9_felt 10 = .ok (.iconst 0, 1) := by decide +kernel
theorem dX9_felt_11 : decode cX9_felt 11 = .ok (.iastore, 1) := by decide +kernel
theorem dX9_felt_12 : decode cX9_felt 12 = .ok (.iconst 0, 1) := by decide +kernel
theorem dX9_felt_13 : decode cX9_felt 13 = .ok (.ireturn, 1) := by decide +kernel
theorem dX9_felt_14 : decode cX9_felt 14 = .ok (.aload_n 0, 1) := by decide +kernel
theorem dX9_felt_15 : decode cX9_felt 15 = .ok (.iload_n 1, 1) := by decide +kernel
theorem dX9_felt_16 : decode cX9_felt 16 = .ok (.invokevirtual 370, 3) := by decide +kernel
theorem dX9_felt_19 : decode cX9_felt 19 = .ok (.ifCond .eq 24, 3) := by decide +kernel
theorem dX9_felt_22 : decode cX9_felt 22 = .ok (.iload_n 2, 1) := by decide +kernel
theorem dX9_felt_23 : decode cX9_felt 23 = .ok (.iconst 0, 1) := by decide +kernel
theorem dX9_felt_24 : decode cX9_felt 24 = .ok (.bipush 99, 2) := by decide +kernel
theorem dX9_felt_26 : decode cX9_felt 26 = .ok (.invokestatic 78, 3) := by decide +kernel
theorem dX9_felt_29 : decode cX9_felt 29 = .ok (.ifCond .eq 14, 3) := by decide +kernel
theorem dX9_felt_32 : decode cX9_felt 32 = .ok (.aload_n 0, 1) := by decide +kernel
theorem dX9_felt_33 : decode cX9_felt 33 = .ok (.getfield 7, 3) := by decide +kernel
theorem dX9_felt_36 : decode cX9_felt 36 = .ok (.iconst 5, 1) := by decide +kernel
theorem dX9_felt_37 : decode cX9_felt 37 = .ok (.iaload, 1) := by decide +kernel
theorem dX9_felt_38 : decode cX9_felt 38 = .ok (.bipush 8, 2) := by decide +kernel
theorem dX9_felt_40 : decode cX9_felt 40 = .ok (.if_icmp .ne 6, 3) := by decide +kernel
theorem dX9_felt_43 : decode cX9_felt 43 = .ok (.bipush (-2), 2) := by decide +kernel
theorem dX9_felt_45 : decode cX9_felt 45 = .ok (.ireturn, 1) := by decide +kernel
theorem dX9_felt_46 : decode cX9_felt 46 = .ok (.aload_n 0, 1) := by decide +kernel
theorem dX9_felt_47 : decode cX9_felt 47 = .ok (.getfield 7, 3) := by decide +kernel
theorem dX9_felt_50 : decode cX9_felt 50 = .ok (.sipush 183, 3) := by decide +kernel
theorem dX9_felt_53 : decode cX9_felt 53 = .ok (.iconst 2, 1) := by decide +kernel
theorem dX9_felt_54 : decode cX9_felt 54 = .ok (.aload_n 0, 1) := by decide +kernel
theorem dX9_felt_55 : decode cX9_felt 55 = .ok (.getfield 7, 3) := by decide +kernel
theorem dX9_felt_58 : decode cX9_felt 58 = .ok (.iconst 5, 1) := by decide +kernel
theorem dX9_felt_59 : decode cX9_felt 59 = .ok (.iaload, 1) := by decide +kernel
theorem dX9_felt_60 : decode cX9_felt 60 = .ok (.imul, 1) := by decide +kernel
theorem dX9_felt_61 : decode cX9_felt 61 = .ok (.iadd, 1) := by decide +kernel
theorem dX9_felt_62 : decode cX9_felt 62 = .ok (.iload_n 1, 1) := by decide +kernel
theorem dX9_felt_63 : decode cX9_felt 63 = .ok (.iastore, 1) := by decide +kernel
theorem dX9_felt_64 : decode cX9_felt 64 = .ok (.aload_n 0, 1) := by decide +kernel
theorem dX9_felt_65 : decode cX9_felt 65 = .ok (.getfield 7, 3) := by decide +kernel
theorem dX9_felt_68 : decode cX9_felt 68 = .ok (.sipush 183, 3) := by decide +kernel
theorem dX9_felt_71 : decode cX9_felt 71 = .ok (.iconst 2, 1) := by decide +kernel
theorem dX9_felt_72 : decode cX9_felt 72 = .ok (.aload_n 0, 1) := by decide +kernel
theorem dX9_felt_73 : decode cX9_felt 73 = .ok (.getfield 7, 3) := by decide +kernel
theorem dX9_felt_76 : decode cX9_felt 76 = .ok (.iconst 5, 1) := by decide +kernel
theorem dX9_felt_77 : decode cX9_felt 77 = .ok (.iaload, 1) := by decide +kernel
theorem dX9_felt_78 : decode cX9_felt 78 = .ok (.imul, 1) := by decide +kernel
theorem dX9_felt_79 : decode cX9_felt 79 = .ok (.iadd, 1) := by decide +kernel
theorem dX9_felt_80 : decode cX9_felt 80 = .ok (.iconst 1, 1) := by decide +kernel
theorem dX9_felt_81 : decode cX9_felt 81 = .ok (.iadd, 1) := by decide +kernel
theorem dX9_felt_82 : decode cX9_felt 82 = .ok (.iload_n 2, 1) := by decide +kernel
theorem dX9_felt_83 : decode cX9_felt 83 = .ok (.iastore, 1) := by decide +kernel
theorem dX9_felt_84 : decode cX9_felt 84 = .ok (.aload_n 0, 1) := by decide +kernel
theorem dX9_felt_85 : decode cX9_felt 85 = .ok (.getfield 7, 3) := by decide +kernel
theorem dX9_felt_88 : decode cX9_felt 88 = .ok (.iconst 5, 1) := by decide +kernel
theorem dX9_felt_89 : decode cX9_felt 89 = .ok (.dup2, 1) := by decide +kernel
theorem dX9_felt_90 : decode cX9_felt 90 = .ok (.iaload, 1) := by decide +kernel
theorem dX9_felt_91 : decode cX9_felt 91 = .ok (.iconst 1, 1) := by decide +kernel
theorem dX9_felt_92 : decode cX9_felt 92 = .ok (.iadd, 1) := by decide +kernel
theorem dX9_felt_93 : decode cX9_felt 93 = .ok (.iastore, 1) := by decide +kernel
theorem dX9_felt_94 : decode cX9_felt 94 = .ok (.aload_n 0, 1) := by decide +kernel
theorem dX9_felt_95 : decode cX9_felt 95 = .ok (.getfield 7, 3) := by decide +kernel
theorem dX9_felt_98 : decode cX9_felt 98 = .ok (.iconst 5, 1) := by decide +kernel
theorem dX9_felt_99 : decode cX9_felt 99 = .ok (.iaload, 1) := by decide +kernel
theorem dX9_felt_100 : decode cX9_felt 100 = .ok (.ireturn, 1) := by decide +kernel
theorem dX9_whose_0 : decode cX9_whose 0 = .ok (.iconst 0, 1) := by decide +kernel
theorem dX9_whose_1 : decode cX9_whose 1 = .ok (.istore_n 1, 1) := by decide +kernel
theorem dX9_whose_2 : decode cX9_whose 2 = .ok (.iconst 0, 1) := by decide +kernel
theorem dX9_whose_3 : decode cX9_whose 3 = .ok (.istore_n 2, 1) := by decide +kernel
theorem dX9_whose_4 : decode cX9_whose 4 = .ok (.iload_n 2, 1) := by decide +kernel
theorem dX9_whose_5 : decode cX9_whose 5 = .ok (.aload_n 0, 1) := by decide +kernel
theorem dX9_whose_6 : decode cX9_whose 6 = .ok (.getfield 7, 3) := by decide +kernel
theorem dX9_whose_9 : decode cX9_whose 9 = .ok (.iconst 1, 1) := by decide +kernel
theorem dX9_whose_10 : decode cX9_whose 10 = .ok (.iaload, 1) := by decide +kernel
theorem dX9_whose_11 : decode cX9_whose 11 = .ok (.if_icmp .ge 92, 3) := by decide +kernel
theorem dX9_whose_14 : decode cX9_whose 14 = .ok (.iconst 1, 1) := by decide +kernel
theorem dX9_whose_15 : decode cX9_whose 15 = .ok (.istore_n 3, 1) := by decide +kernel
theorem dX9_whose_16 : decode cX9_whose 16 = .ok (.iconst 0, 1) := by decide +kernel
theorem dX9_whose_17 : decode cX9_whose 17 = .ok (.istore 4, 2) := by decide +kernel
theorem dX9_whose_19 : decode cX9_whose 19 = .ok (.iload 4, 2) := by decide +kernel
theorem dX9_whose_21 : decode cX9_whose 21 = .ok (.aload_n 0, 1) := by decide +kernel
theorem dX9_whose_22 : decode cX9_whose 22 = .ok (.getfield 7, 3) := by decide +kernel
theorem dX9_whose_25 : decode cX9_whose 25 = .ok (.iconst 5, 1) := by decide +kernel
theorem dX9_whose_26 : decode cX9_whose 26 = .ok (.iaload, 1) := by decide +kernel
theorem dX9_whose_27 : decode cX9_whose 27 = .ok (.if_icmp .ge 56, 3) := by decide +kernel
theorem dX9_whose_30 : decode cX9_whose 30 = .ok (.iload_n 3, 1) := by decide +kernel
theorem dX9_whose_31 : decode cX9_whose 31 = .ok (.ifCond .eq 44, 3) := by decide +kernel
theorem dX9_whose_34 : decode cX9_whose 34 = .ok (.aload_n 0, 1) := by decide +kernel
theorem dX9_whose_35 : decode cX9_whose 35 = .ok (.iload_n 2, 1) := by decide +kernel
theorem dX9_whose_36 : decode cX9_whose 36 = .ok (.aload_n 0, 1) := by decide +kernel
theorem dX9_whose_37 : decode cX9_whose 37 = .ok (.getfield 7, 3) := by decide +kernel
theorem dX9_whose_40 : decode cX9_whose 40 = .ok (.sipush 183, 3) := by decide +kernel
theorem dX9_whose_43 : decode cX9_whose 43 = .ok (.iconst 2, 1) := by decide +kernel
theorem dX9_whose_44 : decode cX9_whose 44 = .ok (.iload 4, 2) := by decide +kernel
theorem dX9_whose_46 : decode cX9_whose 46 = .ok (.imul, 1) := by decide +kernel
theorem dX9_whose_47 : decode cX9_whose 47 = .ok (.iadd, 1) := by decide +kernel
theorem dX9_whose_48 : decode cX9_whose 48 = .ok (.iaload, 1) := by decide +kernel
theorem dX9_whose_49 : decode cX9_whose 49 = .ok (.iconst 1, 1) := by decide +kernel
theorem dX9_whose_50 : decode cX9_whose 50 = .ok (.invokevirtual 352, 3) := by decide +kernel
theorem dX9_whose_53 : decode cX9_whose 53 = .ok (.aload_n 0, 1) := by decide +kernel
theorem dX9_whose_54 : decode cX9_whose 54 = .ok (.getfield 7, 3) := by decide +kernel
theorem dX9_whose_57 : decode cX9_whose 57 = .ok (.sipush 183, 3) := by decide +kernel
theorem dX9_whose_60 : decode cX9_whose 60 = .ok (.iconst 2, 1) := by decide +kernel
theorem dX9_whose_61 : decode cX9_whose 61 = .ok (.iload 4, 2) := by decide +kernel
theorem dX9_whose_63 : decode cX9_whose 63 = .ok (.imul, 1) := by decide +kernel
theorem dX9_whose_64 : decode cX9_whose 64 = .ok (.iadd, 1) := by decide +kernel
theorem dX9_whose_65 : decode cX9_whose 65 = .ok (.iconst 1, 1) := by decide +kernel
theorem dX9_whose_66 : decode cX9_whose 66 = .ok (.iadd, 1) := by decide +kernel
theorem dX9_whose_67 : decode cX9_whose 67 = .ok (.iaload, 1) := by decide +kernel
theorem dX9_whose_68 : decode cX9_whose 68 = .ok (.if_icmp .ne 7, 3) := by decide +kernel
theorem dX9_whose_71 : decode cX9_whose 71 = .ok (.iconst 1, 1) := by decide +kernel
theorem dX9_whose_72 : decode cX9_whose 72 = .ok (.goto 4, 3) := by decide +kernel
theorem dX9_whose_75 : decode cX9_whose 75 = .ok (.iconst 0, 1) := by decide +kernel
theorem dX9_whose_76 : decode cX9_whose 76 = .ok (.istore_n 3, 1) := by decide +kernel
theorem dX9_whose_77 : decode cX9_whose 77 = .ok (.iinc 4 1, 3) := by decide +kernel
theorem dX9_whose_80 : decode cX9_whose 80 = .ok (.goto (-61), 3) := by decide +kernel
theorem dX9_whose_83 : decode cX9_whose 83 = .ok (.iload_n 1, 1) := by decide +kernel
theorem dX9_whose_84 : decode cX9_whose 84 = .ok (.iload_n 3, 1) := by decide +kernel
theorem dX9_whose_85 : decode cX9_whose 85 = .ok (.ifCond .eq 9, 3) := by decide +kernel
theorem dX9_whose_88 : decode cX9_whose 88 = .ok (.iconst 1, 1) := by decide +kernel
theorem dX9_whose_89 : decode cX9_whose 89 = .ok (.iload_n 2, 1) := by decide +kernel
theorem dX9_whose_90 : decode cX9_whose 90 = .ok (.ishl, 1) := by decide +kernel
theorem dX9_whose_91 : decode cX9_whose 91 = .ok (.goto 4, 3) := by decide +kernel
theorem dX9_whose_94 : decode cX9_whose 94 = .ok (.iconst 0, 1) := by decide +kernel
theorem dX9_whose_95 : decode cX9_whose 95 = .ok (.ior, 1) := by decide +kernel
theorem dX9_whose_96 : decode cX9_whose 96 = .ok (.istore_n 1, 1) := by decide +kernel
theorem dX9_whose_97 : decode cX9_whose 97 = .ok (.iinc 2 1, 3) := by decide +kernel
theorem dX9_whose_100 : decode cX9_whose 100 = .ok (.goto (-96), 3) := by decide +kernel
theorem dX9_whose_103 : decode cX9_whose 103 = .ok (.iload_n 1, 1) := by decide +kernel
theorem dX9_whose_104 : decode cX9_whose 104 = .ok (.ireturn, 1) := by decide +kernel
theorem dX9_image_0 : decode cX9_image 0 = .ok (.aload_n 0, 1) := by decide +kernel
theorem dX9_image_1 : decode cX9_image 1 = .ok (.getfield 7, 3) := by decide +kernel
theorem dX9_image_4 : decode cX9_image 4 = .ok (.aload_n 0, 1) := by decide +kernel
theorem dX9_image_5 : decode cX9_image 5 = .ok (.getfield 13, 3) := by decide +kernel
theorem dX9_image_8 : decode cX9_image 8 = .ok (.invokestatic 74, 3) := by decide +kernel
theorem dX9_image_11 : decode cX9_image 11 = .ok (.aload_n 0, 1) := by decide +kernel
theorem dX9_image_12 : decode cX9_image 12 = .ok (.getfield 7, 3) := by decide +kernel
theorem dX9_image_15 : decode cX9_image 15 = .ok (.bipush 6, 2) := by decide +kernel
theorem dX9_image_17 : decode cX9_image 17 = .ok (.iaload, 1) := by decide +kernel
theorem dX9_image_18 : decode cX9_image 18 = .ok (.ireturn, 1) := by decide +kernel
theorem dX9_back_0 : decode cX9_back 0 = .ok (.aload_n 0, 1) := by decide +kernel
theorem dX9_back_1 : decode cX9_back 1 = .ok (.getfield 13, 3) := by decide +kernel
theorem dX9_back_4 : decode cX9_back 4 = .ok (.aload_n 0, 1) := by decide +kernel
theorem dX9_back_5 : decode cX9_back 5 = .ok (.getfield 7, 3) := by decide +kernel
theorem dX9_back_8 : decode cX9_back 8 = .ok (.invokestatic 74, 3) := by decide +kernel
theorem dX9_back_11 : decode cX9_back 11 = .ok (.aload_n 0, 1) := by decide +kernel
theorem dX9_back_12 : decode cX9_back 12 = .ok (.getfield 7, 3) := by decide +kernel
theorem dX9_back_15 : decode cX9_back 15 = .ok (.bipush 6, 2) := by decide +kernel
theorem dX9_back_17 : decode cX9_back 17 = .ok (.iaload, 1) := by decide +kernel
theorem dX9_back_18 : decode cX9_back 18 = .ok (.ireturn, 1) := by decide +kernel
theorem dX9_about_0 : decode cX9_about 0 = .ok (.iload_n 1, 1) := by decide +kernel
theorem dX9_about_1 : decode cX9_about 1 = .ok (.iconst 0, 1) := by decide +kernel
theorem dX9_about_2 : decode cX9_about 2 = .ok (.iconst 5, 1) := by decide +kernel
theorem dX9_about_3 : decode cX9_about 3 = .ok (.invokestatic 78, 3) := by decide +kernel
theorem dX9_about_6 : decode cX9_about 6 = .ok (.ifCond .eq 12, 3) := by decide +kernel
theorem dX9_about_9 : decode cX9_about 9 = .ok (.aload_n 0, 1) := by decide +kernel
theorem dX9_about_10 : decode cX9_about 10 = .ok (.getfield 7, 3) := by decide +kernel
theorem dX9_about_13 : decode cX9_about 13 = .ok (.iload_n 1, 1) := by decide +kernel
theorem dX9_about_14 : decode cX9_about 14 = .ok (.iaload, 1) := by decide +kernel
theorem dX9_about_15 : decode cX9_about 15 = .ok (.goto 18, 3) := by decide +kernel
theorem dX9_about_18 : decode cX9_about 18 = .ok (.iload_n 1, 1) := by decide +kernel
theorem dX9_about_19 : decode cX9_about 19 = .ok (.bipush 6, 2) := by decide +kernel
theorem dX9_about_21 : decode cX9_about 21 = .ok (.if_icmp .ne 10, 3) := by decide +kernel
theorem dX9_about_24 : decode cX9_about 24 = .ok (.aload_n 0, 1) := by decide +kernel
theorem dX9_about_25 : decode cX9_about 25 = .ok (.getfield 104, 3) := by decide +kernel
theorem dX9_about_28 : decode cX9_about 28 = .ok (.goto 5, 3) := by decide +kernel
theorem dX9_about_31 : decode cX9_about 31 = .ok (.bipush (-2), 2) := by decide +kernel
theorem dX9_about_33 : decode cX9_about 33 = .ok (.ireturn, 1) := by decide +kernel
section
variable {p : Program} {l : Launch} {e : Env} {R : Room} {s : State} {m : MethodId} {args : Array Value} {below : List Frame} {meth : Method} {c : Code} {Q : State → Prop} {V : g_V} {nf nl : Nat}
set_option maxRecDepth 100000 in
set_option maxHeartbeats 4000000 in
theorem w_X9_round_L16 (C : g_CX mG V p R s m args meth c cX9_round 3 (some .int) RX9 2 46) {res : Int × g_M} (hR : g_RetI mG V p l e R s m args below meth c Q cX9_round .int res.1 res.2) (x14 : Int) (M16 : g_M)   : ∀ (f : Nat) (x15 : Int) (H : Heap) (locs : List Loc) (ls : Array Slot), m_X9_round_L16 x14 M16  f x15 = some res → g_PT mG V M16 s H locs → lv_has ls 3 [(0, .ref (V.2.2 0)), (1, .int (gI x14)), (2, .int (gI x15))] → W p l e R s m args below meth c H locs 0 0 Q (F0 m 16 ls []) := by
  intro f
  induction f with
  | zero => intro x15 H locs ls h hp hl; cases h
  | succ f ih =>
    intro x15 H locs ls h hp hl
    rw [m_X9_round_L16] at h
    refine lv_iload_n C.1 C.2.1 dX9_round_16 rfl (lv_at hl 2 rfl) ?_
    refine r_iconst C dX9_round_17 ?_
    refine r_icmp_ge (tgt := 46) C h dX9_round_18 (by decide) (fun h => ?_) (fun h => ?_)
    · refine r_iconst C dX9_round_46 ?_
      cases h
      exact hR _ _ _ _ dX9_round_47 rfl hp
    · refine lv_aload_n C.1 C.2.1 dX9_round_21 rfl (lv_at hl 0 rfl) ?_
      refine r_getr (t := 10) C hp mk_0 ms_0 mc_0 min_0 (j := 28) (by decide) rfl gw_1284 rfl dX9_round_22 ?_
      refine lv_aload_n C.1 C.2.1 dX9_round_25 rfl (lv_at hl 0 rfl) ?_
      refine lv_iload_n C.1 C.2.1 dX9_round_26 rfl (lv_at hl 1 rfl) ?_
      refine lv_iload_n C.1 C.2.1 dX9_round_27 rfl (lv_at hl 2 rfl) ?_
      obtain ⟨x17, hr, h⟩ := bd_of h
      refine r_callVI (As := [.int (gI x14), .int (gI x15)]) (rest := [.ref (V.2.2 10)]) C hl.1 hp (c_X9_nextOf l C.2.2.2.2.2.2.2.2.2.2.2 hr) gw_1603 gw_1605 gw_81 mk_0 ms_0 mc_0 cal_X9_nextOf rfl rfl (Nat.le_of_ble_eq_true rfl) ⟨Nat.le_of_ble_eq_true rfl, Nat.le_of_ble_eq_true rfl⟩ dX9_round_28 (fun H locs hp => ?_)
      refine r_iald C hp h mk_10 ms_10 dX9_round_31 (fun h => ?_)
      refine r_ldcw (n := 1000000) C gw_1778 (by decide +kernel) dX9_round_32 ?_
      refine r_icmp_eq (tgt := 40) C h dX9_round_35 (by decide) (fun h => ?_) (fun h => ?_)
      · refine r_iinc (lv' := fun x18 => [(2, .int (gI x18)), (0, .ref (V.2.2 0)), (1, .int (gI x14))]) C h dX9_round_40 hl (j := 2) rfl (by decide) (fun _ => rfl) (fun x18 ls h hl => ?_)
        refine r_goto (tgt := 16) C dX9_round_43 (by decide) ?_
        exact ih _ _ _ _ h hp (lv_sub hl [1, 2, 0] rfl)
      · refine r_iconst C dX9_round_38 ?_
        cases h
        exact hR _ _ _ _ dX9_round_39 rfl hp
set_option maxRecDepth 100000 in
set_option maxHeartbeats 4000000 in
theorem b_X9_round (C : g_CX mG V p R s m args meth c cX9_round 3 (some .int) RX9 2 46) {res : Int × g_M} (hR : g_RetI mG V p l e R s m args below meth c Q cX9_round .int res.1 res.2) {a1 : Int} {M : g_M} {H : Heap} {locs : List Loc} {ls : Array Slot} (h : m_X9_round a1 M = some res) (hp : g_PT mG V M s H locs) (hl : lv_has ls 3 [(0, .ref (V.2.2 0)), (1, .int (gI a1))]) : W p l e R s m args below meth c H locs 0 0 Q (F0 m 0 ls []) := by
  unfold m_X9_round at h
  refine lv_iload_n C.1 C.2.1 dX9_round_0 rfl (lv_at hl 1 rfl) ?_
  obtain ⟨x11, hr, h⟩ := bd_of h
  refine r_callSI (As := [.int (gI a1)]) (rest := []) C hl.1 hp (c_X9_isScene l C.2.2.2.2.2.2.2.2.2.2.2 hr) gw_1385 gw_1386 cal_X9_isScene rfl rfl (Nat.le_of_ble_eq_true rfl) ⟨Nat.le_of_ble_eq_true rfl, Nat.le_of_ble_eq_true rfl⟩ dX9_round_1 (fun H locs hp => ?_)
  refine r_if_ne (tgt := 9) C h dX9_round_4 (by decide) (fun h => ?_) (fun h => ?_)
  · refine lv_aload_n C.1 C.2.1 dX9_round_9 rfl (lv_at hl 0 rfl) ?_
    refine lv_iload_n C.1 C.2.1 dX9_round_10 rfl (lv_at hl 1 rfl) ?_
    obtain ⟨M12, hr, h⟩ := bd_of h
    refine r_callVV (As := [.int (gI a1)]) (rest := []) C hl.1 hp (c_X9_layTakes l C.2.2.2.2.2.2.2.2.2.2.2 hr) gw_1774 gw_1776 gw_99 mk_0 ms_0 mc_0 cal_X9_layTakes rfl rfl (Nat.le_of_ble_eq_true rfl) ⟨Nat.le_of_ble_eq_true rfl, Nat.le_of_ble_eq_true rfl⟩ dX9_round_11 (fun H locs hp => ?_)
    refine r_iconst C dX9_round_14 ?_
    refine r_istore_n (lv' := fun x13 => [(2, .int (gI x13)), (0, .ref (V.2.2 0)), (1, .int (gI a1))]) C h dX9_round_15 rfl hl (by decide) (fun _ => rfl) (fun x13 ls h hl => ?_)
    refine w_X9_round_L16 C hR _ _ _ _ H locs ls h hp (lv_sub hl [1, 2, 0] rfl)
  · refine r_iconst C dX9_round_7 ?_
    cases h
    exact hR _ _ _ _ dX9_round_8 rfl hp
theorem c_X9_round (l : Launch) {V : g_V} (hok : g_ok mG V) {a1 : Int} {M : g_M} {x : Int} {M2 : g_M} (h : m_X9_round a1 M = some (x, M2)) : MetI mG V l yX9_round cX9_round 3 (some .int) 2 46 [.ref (V.2.2 0), .int (gI a1)] M x M2 :=
  g_metI hok cal_X9_round.2.2.2 rfl (Nat.le_of_ble_eq_true rfl) (@fun p e R s m args below meth c Q ls C hR hp hl => b_X9_round C hR h hp hl)
set_option maxRecDepth 100000 in
set_option maxHeartbeats 4000000 in
theorem w_X9_dead_L10 (C : g_CX mG V p R s m args meth c cX9_dead 3 (some .int) RX9 2 46) {res : Int × g_M} (hR : g_RetI mG V p l e R s m args below meth c Q cX9_dead .int res.1 res.2)  (M16 : g_M)   : ∀ (f : Nat) (x14 : Int) (x15 : Int) (H : Heap) (locs : List Loc) (ls : Array Slot), m_X9_dead_L10 M16  f x14 x15 = some res → g_PT mG V M16 s H locs → lv_has ls 3 [(0, .ref (V.2.2 0)), (1, .int (gI x14)), (2, .int (gI x15))] → W p l e R s m args below meth c H locs 0 0 Q (F0 m 10 ls []) := by
  intro f
  induction f with
  | zero => intro x14 x15 H locs ls h hp hl; cases h
  | succ f ih =>
    intro x14 x15 H locs ls h hp hl
    rw [m_X9_dead_L10] at h
    refine lv_iload_n C.1 C.2.1 dX9_dead_10 rfl (lv_at hl 2 rfl) ?_
    refine r_bipush C dX9_dead_11 (by decide +kernel) ?_
    refine r_icmp_ge (tgt := 44) C h dX9_dead_13 (by decide) (fun h => ?_) (fun h => ?_)
    · refine lv_iload_n C.1 C.2.1 dX9_dead_44 rfl (lv_at hl 1 rfl) ?_
      cases h
      exact hR _ _ _ _ dX9_dead_45 rfl hp
    · refine r_jn (P := fun J => ∀ (x18 : Int) (x19 : Int) (H : Heap) (locs : List Loc) (ls : Array Slot), J x18 x19 = some res → g_PT mG V M16 s H locs → lv_has ls 3 [(0, .ref (V.2.2 0)), (2, .int (gI x15))] → W p l e R s m args below meth c H locs 0 0 Q (F0 m 36 ls [.int (gI x18), .int (gI x19)])) h ?_ (fun J17 hJ17 h => ?_)
      · intro x18 x19 H locs ls h hp hl
        refine r_ior C dX9_dead_36 ?_
        refine r_istore_n (lv' := fun x20 => [(1, .int (gI x20)), (0, .ref (V.2.2 0)), (2, .int (gI x15))]) C h dX9_dead_37 rfl hl (by decide) (fun _ => rfl) (fun x20 ls h hl => ?_)
        refine r_iinc (lv' := fun x21 => [(2, .int (gI x21)), (1, .int (gI x20)), (0, .ref (V.2.2 0))]) C h dX9_dead_38 hl (j := 2) rfl (by decide) (fun _ => rfl) (fun x21 ls h hl => ?_)
        refine r_goto (tgt := 10) C dX9_dead_41 (by decide) ?_
        exact ih _ _ _ _ _ h hp (lv_sub hl [2, 1, 0] rfl)
      refine lv_iload_n C.1 C.2.1 dX9_dead_16 rfl (lv_at hl 1 rfl) ?_
      refine lv_aload_n C.1 C.2.1 dX9_dead_17 rfl (lv_at hl 0 rfl) ?_
      refine r_getr (t := 10) C hp mk_0 ms_0 mc_0 min_0 (j := 28) (by decide) rfl gw_1284 rfl dX9_dead_18 ?_
      refine lv_iload_n C.1 C.2.1 dX9_dead_21 rfl (lv_at hl 2 rfl) ?_
      refine r_iald C hp h mk_10 ms_10 dX9_dead_22 (fun h => ?_)
      refine r_ldcw (n := 1000000) C gw_1778 (by decide +kernel) dX9_dead_23 ?_
      refine r_icmp_ne (tgt := 35) C h dX9_dead_26 (by decide) (fun h => ?_) (fun h => ?_)
      · refine r_iconst C dX9_dead_35 ?_
        exact hJ17 _ _ _ _ _ h hp (lv_sub hl [0, 2] rfl)
      · refine r_iconst C dX9_dead_29 ?_
        refine lv_iload_n C.1 C.2.1 dX9_dead_30 rfl (lv_at hl 2 rfl) ?_
        refine r_ishl C dX9_dead_31 ?_
        refine r_goto (tgt := 36) C dX9_dead_32 (by decide) ?_
        exact hJ17 _ _ _ _ _ h hp (lv_sub hl [0, 2] rfl)
set_option maxRecDepth 100000 in
set_option maxHeartbeats 4000000 in
theorem b_X9_dead (C : g_CX mG V p R s m args meth c cX9_dead 3 (some .int) RX9 2 46) {res : Int × g_M} (hR : g_RetI mG V p l e R s m args below meth c Q cX9_dead .int res.1 res.2)  {M : g_M} {H : Heap} {locs : List Loc} {ls : Array Slot} (h : m_X9_dead M = some res) (hp : g_PT mG V M s H locs) (hl : lv_has ls 3 [(0, .ref (V.2.2 0))]) : W p l e R s m args below meth c H locs 0 0 Q (F0 m 0 ls []) := by
  unfold m_X9_dead at h
  refine lv_aload_n C.1 C.2.1 dX9_dead_0 rfl (lv_at hl 0 rfl) ?_
  refine r_bipush C dX9_dead_1 (by decide +kernel) ?_
  obtain ⟨M11, hr, h⟩ := bd_of h
  refine r_callVV (As := [.int (gI 12)]) (rest := []) C hl.1 hp (c_X9_layTakes l C.2.2.2.2.2.2.2.2.2.2.2 hr) gw_1774 gw_1776 gw_99 mk_0 ms_0 mc_0 cal_X9_layTakes rfl rfl (Nat.le_of_ble_eq_true rfl) ⟨Nat.le_of_ble_eq_true rfl, Nat.le_of_ble_eq_true rfl⟩ dX9_dead_3 (fun H locs hp => ?_)
  refine r_iconst C dX9_dead_6 ?_
  refine r_istore_n (lv' := fun x12 => [(1, .int (gI x12)), (0, .ref (V.2.2 0))]) C h dX9_dead_7 rfl hl (by decide) (fun _ => rfl) (fun x12 ls h hl => ?_)
  refine r_iconst C dX9_dead_8 ?_
  refine r_istore_n (lv' := fun x13 => [(2, .int (gI x13)), (1, .int (gI x12)), (0, .ref (V.2.2 0))]) C h dX9_dead_9 rfl hl (by decide) (fun _ => rfl) (fun x13 ls h hl => ?_)
  refine w_X9_dead_L10 C hR _ _ _ _ H locs ls h hp (lv_sub hl [2, 1, 0] rfl)
theorem c_X9_dead (l : Launch) {V : g_V} (hok : g_ok mG V)  {M : g_M} {x : Int} {M2 : g_M} (h : m_X9_dead M = some (x, M2)) : MetI mG V l yX9_dead cX9_dead 3 (some .int) 2 46 [.ref (V.2.2 0)] M x M2 :=
  g_metI hok cal_X9_dead.2.2.2 rfl (Nat.le_of_ble_eq_true rfl) (@fun p e R s m args below meth c Q ls C hR hp hl => b_X9_dead C hR h hp hl)
set_option maxRecDepth 100000 in
set_option maxHeartbeats 4000000 in
theorem w_X9_far_L10 (C : g_CX mG V p R s m args meth c cX9_far 3 (some .int) RX9 2 46) {res : Int × g_M} (hR : g_RetI mG V p l e R s m args below meth c Q cX9_far .int res.1 res.2)  (M16 : g_M)   : ∀ (f : Nat) (x14 : Int) (x15 : Int) (H : Heap) (locs : List Loc) (ls : Array Slot), m_X9_far_L10 M16  f x14 x15 = some res → g_PT mG V M16 s H locs → lv_has ls 3 [(0, .ref (V.2.2 0)), (1, .int (gI x14)), (2, .int (gI x15))] → W p l e R s m args below meth c H locs 0 0 Q (F0 m 10 ls []) := by
  intro f
  induction f with
  | zero => intro x14 x15 H locs ls h hp hl; cases h
  | succ f ih =>
    intro x14 x15 H locs ls h hp hl
    rw [m_X9_far_L10] at h
    refine lv_iload_n C.1 C.2.1 dX9_far_10 rfl (lv_at hl 2 rfl) ?_
    refine r_bipush C dX9_far_11 (by decide +kernel) ?_
    refine r_icmp_ge (tgt := 56) C h dX9_far_13 (by decide) (fun h => ?_) (fun h => ?_)
    · refine lv_iload_n C.1 C.2.1 dX9_far_56 rfl (lv_at hl 1 rfl) ?_
      cases h
      exact hR _ _ _ _ dX9_far_57 rfl hp
    · refine r_jn (P := fun J => ∀ (x20 : Int) (H : Heap) (locs : List Loc) (ls : Array Slot), J x20 = some res → g_PT mG V M16 s H locs → lv_has ls 3 [(0, .ref (V.2.2 0)), (1, .int (gI x20)), (2, .int (gI x15))] → W p l e R s m args below meth c H locs 0 0 Q (F0 m 50 ls [])) h ?_ (fun J17 hJ17 h => ?_)
      · intro x20 H locs ls h hp hl
        refine r_iinc (lv' := fun x21 => [(2, .int (gI x21)), (0, .ref (V.2.2 0)), (1, .int (gI x20))]) C h dX9_far_50 hl (j := 2) rfl (by decide) (fun _ => rfl) (fun x21 ls h hl => ?_)
        refine r_goto (tgt := 10) C dX9_far_53 (by decide) ?_
        exact ih _ _ _ _ _ h hp (lv_sub hl [1, 2, 0] rfl)
      refine lv_aload_n C.1 C.2.1 dX9_far_16 rfl (lv_at hl 0 rfl) ?_
      refine r_getr (t := 10) C hp mk_0 ms_0 mc_0 min_0 (j := 28) (by decide) rfl gw_1284 rfl dX9_far_17 ?_
      refine lv_iload_n C.1 C.2.1 dX9_far_20 rfl (lv_at hl 2 rfl) ?_
      refine r_iald C hp h mk_10 ms_10 dX9_far_21 (fun h => ?_)
      refine r_ldcw (n := 1000000) C gw_1778 (by decide +kernel) dX9_far_22 ?_
      refine r_icmp_eq (tgt := 50) C h dX9_far_25 (by decide) (fun h => ?_) (fun h => ?_)
      · exact hJ17 _ _ _ _ h hp hl
      · refine r_jn (P := fun J => ∀  (H : Heap) (locs : List Loc) (ls : Array Slot), J  = some res → g_PT mG V M16 s H locs → lv_has ls 3 [(0, .ref (V.2.2 0)), (2, .int (gI x15))] → W p l e R s m args below meth c H locs 0 0 Q (F0 m 48 ls [])) h ?_ (fun J18 hJ18 h => ?_)
        · intro  H locs ls h hp hl
          refine lv_iload_n C.1 C.2.1 dX9_far_48 rfl (lv_at hl 1 rfl) ?_
          refine r_istore_n (lv' := fun x19 => [(1, .int (gI x19)), (0, .ref (V.2.2 0)), (2, .int (gI x15))]) C h dX9_far_49 rfl hl (by decide) (fun _ => rfl) (fun x19 ls h hl => ?_)
          exact hJ17 _ _ _ _ h hp (lv_sub hl [1, 0, 2] rfl)
        refine lv_iload_n C.1 C.2.1 dX9_far_28 rfl (lv_at hl 1 rfl) ?_
        refine r_iconst C dX9_far_29 ?_
        refine r_icmp_eq (tgt := 48) C h dX9_far_30 (by decide) (fun h => ?_) (fun h => ?_)
        · exact hJ18  _ _ _ h hp (lv_sub hl [0, 2] rfl)
        · refine lv_aload_n C.1 C.2.1 dX9_far_33 rfl (lv_at hl 0 rfl) ?_
          refine r_getr (t := 10) C hp mk_0 ms_0 mc_0 min_0 (j := 28) (by decide) rfl gw_1284 rfl dX9_far_34 ?_
          refine lv_iload_n C.1 C.2.1 dX9_far_37 rfl (lv_at hl 2 rfl) ?_
          refine r_iald C hp h mk_10 ms_10 dX9_far_38 (fun h => ?_)
          refine lv_aload_n C.1 C.2.1 dX9_far_39 rfl (lv_at hl 0 rfl) ?_
          refine r_getr (t := 10) C hp mk_0 ms_0 mc_0 min_0 (j := 28) (by decide) rfl gw_1284 rfl dX9_far_40 ?_
          refine lv_iload_n C.1 C.2.1 dX9_far_43 rfl (lv_at hl 1 rfl) ?_
          refine r_iald C hp h mk_10 ms_10 dX9_far_44 (fun h => ?_)
          refine r_icmp_le (tgt := 50) C h dX9_far_45 (by decide) (fun h => ?_) (fun h => ?_)
          · exact hJ17 _ _ _ _ h hp hl
          · exact hJ18  _ _ _ h hp (lv_sub hl [0, 2] rfl)
set_option maxRecDepth 100000 in
set_option maxHeartbeats 4000000 in
theorem b_X9_far (C : g_CX mG V p R s m args meth c cX9_far 3 (some .int) RX9 2 46) {res : Int × g_M} (hR : g_RetI mG V p l e R s m args below meth c Q cX9_far .int res.1 res.2)  {M : g_M} {H : Heap} {locs : List Loc} {ls : Array Slot} (h : m_X9_far M = some res) (hp : g_PT mG V M s H locs) (hl : lv_has ls 3 [(0, .ref (V.2.2 0))]) : W p l e R s m args below meth c H locs 0 0 Q (F0 m 0 ls []) := by
  unfold m_X9_far at h
  refine lv_aload_n C.1 C.2.1 dX9_far_0 rfl (lv_at hl 0 rfl) ?_
  refine r_bipush C dX9_far_1 (by decide +kernel) ?_
  obtain ⟨M11, hr, h⟩ := bd_of h
  refine r_callVV (As := [.int (gI 12)]) (rest := []) C hl.1 hp (c_X9_layTakes l C.2.2.2.2.2.2.2.2.2.2.2 hr) gw_1774 gw_1776 gw_99 mk_0 ms_0 mc_0 cal_X9_layTakes rfl rfl (Nat.le_of_ble_eq_true rfl) ⟨Nat.le_of_ble_eq_true rfl, Nat.le_of_ble_eq_true rfl⟩ dX9_far_3 (fun H locs hp => ?_)
  refine r_iconst C dX9_far_6 ?_
  refine r_istore_n (lv' := fun x12 => [(1, .int (gI x12)), (0, .ref (V.2.2 0))]) C h dX9_far_7 rfl hl (by decide) (fun _ => rfl) (fun x12 ls h hl => ?_)
  refine r_iconst C dX9_far_8 ?_
  refine r_istore_n (lv' := fun x13 => [(2, .int (gI x13)), (1, .int (gI x12)), (0, .ref (V.2.2 0))]) C h dX9_far_9 rfl hl (by decide) (fun _ => rfl) (fun x13 ls h hl => ?_)
  refine w_X9_far_L10 C hR _ _ _ _ H locs ls h hp (lv_sub hl [2, 1, 0] rfl)
theorem c_X9_far (l : Launch) {V : g_V} (hok : g_ok mG V)  {M : g_M} {x : Int} {M2 : g_M} (h : m_X9_far M = some (x, M2)) : MetI mG V l yX9_far cX9_far 3 (some .int) 2 46 [.ref (V.2.2 0)] M x M2 :=
  g_metI hok cal_X9_far.2.2.2 rfl (Nat.le_of_ble_eq_true rfl) (@fun p e R s m args below meth c Q ls C hR hp hl => b_X9_far C hR h hp hl)
set_option maxRecDepth 100000 in
set_option maxHeartbeats 4000000 in
theorem w_X9_look_L50 (C : g_CX mG V p R s m args meth c cX9_look 5 (some .int) RX9 1 22) {res : Int × g_M} (hR : g_RetI mG V p l e R s m args below meth c Q cX9_look .int res.1 res.2) (x20 : Int) (x22 : Int) (M24 : g_M) (k25 : Int → Option (Int × g_M)) (hk25 : ∀ (x32 : Int) (H : Heap) (locs : List Loc) (ls : Array Slot), k25 x32 = some res → g_PT mG V M24 s H locs → lv_has ls 5 [(0, .ref (V.2.2 0)), (1, .int (gI x20)), (2, .int (gI x32)), (3, .int (gI x22))] → W p l e R s m args below meth c H locs 0 0 Q (F0 m 102 ls [])) : ∀ (f : Nat) (x21 : Int) (x23 : Int) (H : Heap) (locs : List Loc) (ls : Array Slot), m_X9_look_L50 x20 x22 M24 k25 f x21 x23 = some res → g_PT mG V M24 s H locs → lv_has ls 5 [(0, .ref (V.2.2 0)), (1, .int (gI x20)), (2, .int (gI x21)), (3, .int (gI x22)), (4, .int (gI x23))] → W p l e R s m args below meth c H locs 0 0 Q (F0 m 50 ls []) := by
  intro f
  induction f with
  | zero => intro x21 x23 H locs ls h hp hl; cases h
  | succ f ih =>
    intro x21 x23 H locs ls h hp hl
    rw [m_X9_look_L50] at h
    refine lv_iload C.1 C.2.1 dX9_look_50 (lv_at hl 4 rfl) ?_
    refine r_iconst C dX9_look_52 ?_
    refine r_icmp_ge (tgt := 102) C h dX9_look_53 (by decide) (fun h => ?_) (fun h => ?_)
    · exact hk25 _ _ _ _ h hp (lv_sub hl [0, 1, 2, 3] rfl)
    · refine r_jn (P := fun J => ∀ (x30 : Int) (H : Heap) (locs : List Loc) (ls : Array Slot), J x30 = some res → g_PT mG V M24 s H locs → lv_has ls 5 [(0, .ref (V.2.2 0)), (1, .int (gI x20)), (2, .int (gI x30)), (3, .int (gI x22)), (4, .int (gI x23))] → W p l e R s m args below meth c H locs 0 0 Q (F0 m 96 ls [])) h ?_ (fun J26 hJ26 h => ?_)
      · intro x30 H locs ls h hp hl
        refine r_iinc (lv' := fun x31 => [(4, .int (gI x31)), (0, .ref (V.2.2 0)), (1, .int (gI x20)), (2, .int (gI x30)), (3, .int (gI x22))]) C h dX9_look_96 hl (j := 4) rfl (by decide) (fun _ => rfl) (fun x31 ls h hl => ?_)
        refine r_goto (tgt := 50) C dX9_look_99 (by decide) ?_
        exact ih _ _ _ _ _ h hp (lv_sub hl [1, 2, 3, 4, 0] rfl)
      refine lv_aload_n C.1 C.2.1 dX9_look_56 rfl (lv_at hl 0 rfl) ?_
      refine r_getr (t := 1) C hp mk_0 ms_0 mc_0 min_0 (j := 0) (by decide) rfl gw_1256 rfl dX9_look_57 ?_
      refine r_sipush C dX9_look_60 (by decide +kernel) ?_
      refine r_iald C hp h mk_1 ms_1 dX9_look_63 (fun h => ?_)
      refine lv_iload_n C.1 C.2.1 dX9_look_64 rfl (lv_at hl 3 rfl) ?_
      obtain ⟨x27, hr, h⟩ := bd_of h
      refine r_callSI (As := [.int (gI (M24 1 (gs 142).toNat)), .int (gI x22)]) (rest := []) C hl.1 hp (c_X9_has l C.2.2.2.2.2.2.2.2.2.2.2 hr) gw_1477 gw_1478 cal_X9_has rfl rfl (Nat.le_of_ble_eq_true rfl) ⟨Nat.le_of_ble_eq_true rfl, Nat.le_of_ble_eq_true rfl⟩ dX9_look_65 (fun H locs hp => ?_)
      refine r_if_eq (tgt := 96) C h dX9_look_68 (by decide) (fun h => ?_) (fun h => ?_)
      · exact hJ26 _ _ _ _ h hp hl
      · refine lv_aload_n C.1 C.2.1 dX9_look_71 rfl (lv_at hl 0 rfl) ?_
        refine r_getr (t := 1) C hp mk_0 ms_0 mc_0 min_0 (j := 0) (by decide) rfl gw_1256 rfl dX9_look_72 ?_
        refine r_bipush C dX9_look_75 (by decide +kernel) ?_
        refine lv_iload_n C.1 C.2.1 dX9_look_77 rfl (lv_at hl 3 rfl) ?_
        refine r_iadd C dX9_look_78 ?_
        refine r_iald C hp h mk_1 ms_1 dX9_look_79 (fun h => ?_)
        refine lv_iload_n C.1 C.2.1 dX9_look_80 rfl (lv_at hl 1 rfl) ?_
        refine r_icmp_ne (tgt := 96) C h dX9_look_81 (by decide) (fun h => ?_) (fun h => ?_)
        · exact hJ26 _ _ _ _ h hp hl
        · refine lv_iload_n C.1 C.2.1 dX9_look_84 rfl (lv_at hl 2 rfl) ?_
          refine r_iconst C dX9_look_85 ?_
          refine lv_aload_n C.1 C.2.1 dX9_look_86 rfl (lv_at hl 0 rfl) ?_
          refine lv_iload_n C.1 C.2.1 dX9_look_87 rfl (lv_at hl 3 rfl) ?_
          refine lv_iload C.1 C.2.1 dX9_look_88 (lv_at hl 4 rfl) ?_
          obtain ⟨x28, hr, h⟩ := bd_of h
          refine r_callVI (As := [.int (gI x22), .int (gI x23)]) (rest := [.int (gI 1), .int (gI x21)]) C hl.1 hp (c_X9_nextOf l C.2.2.2.2.2.2.2.2.2.2.2 hr) gw_1603 gw_1605 gw_81 mk_0 ms_0 mc_0 cal_X9_nextOf rfl rfl (Nat.le_of_ble_eq_true rfl) ⟨Nat.le_of_ble_eq_true rfl, Nat.le_of_ble_eq_true rfl⟩ dX9_look_90 (fun H locs hp => ?_)
          refine r_ishl C dX9_look_93 ?_
          refine r_ior C dX9_look_94 ?_
          refine r_istore_n (lv' := fun x29 => [(2, .int (gI x29)), (0, .ref (V.2.2 0)), (1, .int (gI x20)), (3, .int (gI x22)), (4, .int (gI x23))]) C h dX9_look_95 rfl hl (by decide) (fun _ => rfl) (fun x29 ls h hl => ?_)
          exact hJ26 _ _ _ _ h hp (lv_sub hl [1, 2, 0, 3, 4] rfl)
set_option maxRecDepth 100000 in
set_option maxHeartbeats 4000000 in
theorem w_X9_look_L41 (C : g_CX mG V p R s m args meth c cX9_look 5 (some .int) RX9 1 22) {res : Int × g_M} (hR : g_RetI mG V p l e R s m args below meth c Q cX9_look .int res.1 res.2) (x14 : Int) (M17 : g_M) (k18 : Int → Option (Int × g_M)) (hk18 : ∀ (x35 : Int) (H : Heap) (locs : List Loc) (ls : Array Slot), k18 x35 = some res → g_PT mG V M17 s H locs → lv_has ls 5 [(0, .ref (V.2.2 0)), (2, .int (gI x35))] → W p l e R s m args below meth c H locs 0 0 Q (F0 m 108 ls [])) : ∀ (f : Nat) (x15 : Int) (x16 : Int) (H : Heap) (locs : List Loc) (ls : Array Slot), m_X9_look_L41 x14 M17 k18 f x15 x16 = some res → g_PT mG V M17 s H locs → lv_has ls 5 [(0, .ref (V.2.2 0)), (1, .int (gI x14)), (2, .int (gI x15)), (3, .int (gI x16))] → W p l e R s m args below meth c H locs 0 0 Q (F0 m 41 ls []) := by
  intro f
  induction f with
  | zero => intro x15 x16 H locs ls h hp hl; cases h
  | succ f ih =>
    intro x15 x16 H locs ls h hp hl
    rw [m_X9_look_L41] at h
    refine lv_iload_n C.1 C.2.1 dX9_look_41 rfl (lv_at hl 3 rfl) ?_
    refine r_bipush C dX9_look_42 (by decide +kernel) ?_
    refine r_icmp_ge (tgt := 108) C h dX9_look_44 (by decide) (fun h => ?_) (fun h => ?_)
    · exact hk18 _ _ _ _ h hp (lv_sub hl [0, 2] rfl)
    · refine r_iconst C dX9_look_47 ?_
      refine r_istore (lv' := fun x19 => [(4, .int (gI x19)), (0, .ref (V.2.2 0)), (1, .int (gI x14)), (2, .int (gI x15)), (3, .int (gI x16))]) C h dX9_look_48 hl (by decide) (fun _ => rfl) (fun x19 ls h hl => ?_)
      refine w_X9_look_L50 C hR _ _ _ _ ?_ _ _ _ H locs ls h hp (lv_sub hl [1, 2, 3, 4, 0] rfl)
      · intro x33 H locs ls h hp hl
        refine r_iinc (lv' := fun x34 => [(3, .int (gI x34)), (0, .ref (V.2.2 0)), (1, .int (gI x14)), (2, .int (gI x33))]) C h dX9_look_102 hl (j := 3) rfl (by decide) (fun _ => rfl) (fun x34 ls h hl => ?_)
        refine r_goto (tgt := 41) C dX9_look_105 (by decide) ?_
        exact ih _ _ _ _ _ h hp (lv_sub hl [1, 2, 3, 0] rfl)
set_option maxRecDepth 100000 in
set_option maxHeartbeats 4000000 in
theorem b_X9_look (C : g_CX mG V p R s m args meth c cX9_look 5 (some .int) RX9 1 22) {res : Int × g_M} (hR : g_RetI mG V p l e R s m args below meth c Q cX9_look .int res.1 res.2) {a1 : Int} {M : g_M} {H : Heap} {locs : List Loc} {ls : Array Slot} (h : m_X9_look a1 M = some res) (hp : g_PT mG V M s H locs) (hl : lv_has ls 5 [(0, .ref (V.2.2 0)), (1, .int (gI a1))]) : W p l e R s m args below meth c H locs 0 0 Q (F0 m 0 ls []) := by
  unfold m_X9_look at h
  refine lv_iload_n C.1 C.2.1 dX9_look_0 rfl (lv_at hl 1 rfl) ?_
  refine r_iconst C dX9_look_1 ?_
  refine r_icmp_ne (tgt := 25) C h dX9_look_2 (by decide) (fun h => ?_) (fun h => ?_)
  · refine lv_iload_n C.1 C.2.1 dX9_look_25 rfl (lv_at hl 1 rfl) ?_
    refine r_iconst C dX9_look_26 ?_
    refine r_iconst C dX9_look_27 ?_
    obtain ⟨x11, hr, h⟩ := bd_of h
    refine r_callSI (As := [.int (gI a1), .int (gI 0), .int (gI 3)]) (rest := []) C hl.1 hp (c_X9_isIn l C.2.2.2.2.2.2.2.2.2.2.2 hr) gw_1378 gw_1379 cal_X9_isIn rfl rfl (Nat.le_of_ble_eq_true rfl) ⟨Nat.le_of_ble_eq_true rfl, Nat.le_of_ble_eq_true rfl⟩ dX9_look_28 (fun H locs hp => ?_)
    refine r_if_ne (tgt := 37) C h dX9_look_31 (by decide) (fun h => ?_) (fun h => ?_)
    · refine r_iconst C dX9_look_37 ?_
      refine r_istore_n (lv' := fun x12 => [(2, .int (gI x12)), (0, .ref (V.2.2 0)), (1, .int (gI a1))]) C h dX9_look_38 rfl hl (by decide) (fun _ => rfl) (fun x12 ls h hl => ?_)
      refine r_iconst C dX9_look_39 ?_
      refine r_istore_n (lv' := fun x13 => [(3, .int (gI x13)), (2, .int (gI x12)), (0, .ref (V.2.2 0)), (1, .int (gI a1))]) C h dX9_look_40 rfl hl (by decide) (fun _ => rfl) (fun x13 ls h hl => ?_)
      refine w_X9_look_L41 C hR _ _ _ ?_ _ _ _ H locs ls h hp (lv_sub hl [2, 3, 1, 0] rfl)
      · intro x36 H locs ls h hp hl
        refine lv_aload_n C.1 C.2.1 dX9_look_108 rfl (lv_at hl 0 rfl) ?_
        refine r_getr (t := 1) C hp mk_0 ms_0 mc_0 min_0 (j := 0) (by decide) rfl gw_1256 rfl dX9_look_109 ?_
        refine r_sipush C dX9_look_112 (by decide +kernel) ?_
        refine lv_iload_n C.1 C.2.1 dX9_look_115 rfl (lv_at hl 1 rfl) ?_
        refine r_sipush C dX9_look_116 (by decide +kernel) ?_
        refine r_iand C dX9_look_119 ?_
        refine r_iast C hp h mk_1 ms_1 dX9_look_120 (fun M37 H locs h hp => ?_)
        refine lv_aload_n C.1 C.2.1 dX9_look_121 rfl (lv_at hl 0 rfl) ?_
        refine r_getr (t := 1) C hp mk_0 ms_0 mc_0 min_0 (j := 0) (by decide) rfl gw_1256 rfl dX9_look_122 ?_
        refine r_sipush C dX9_look_125 (by decide +kernel) ?_
        refine r_iald C hp h mk_1 ms_1 dX9_look_128 (fun h => ?_)
        cases h
        exact hR _ _ _ _ dX9_look_129 rfl hp
    · refine r_bipush C dX9_look_34 (by decide +kernel) ?_
      cases h
      exact hR _ _ _ _ dX9_look_36 rfl hp
  · refine lv_aload_n C.1 C.2.1 dX9_look_5 rfl (lv_at hl 0 rfl) ?_
    refine r_getr (t := 1) C hp mk_0 ms_0 mc_0 min_0 (j := 0) (by decide) rfl gw_1256 rfl dX9_look_6 ?_
    refine r_sipush C dX9_look_9 (by decide +kernel) ?_
    refine r_sipush C dX9_look_12 (by decide +kernel) ?_
    refine r_iast C hp h mk_1 ms_1 dX9_look_15 (fun M38 H locs h hp => ?_)
    refine lv_aload_n C.1 C.2.1 dX9_look_16 rfl (lv_at hl 0 rfl) ?_
    refine r_getr (t := 1) C hp mk_0 ms_0 mc_0 min_0 (j := 0) (by decide) rfl gw_1256 rfl dX9_look_17 ?_
    refine r_sipush C dX9_look_20 (by decide +kernel) ?_
    refine r_iald C hp h mk_1 ms_1 dX9_look_23 (fun h => ?_)
    cases h
    exact hR _ _ _ _ dX9_look_24 rfl hp
theorem c_X9_look (l : Launch) {V : g_V} (hok : g_ok mG V) {a1 : Int} {M : g_M} {x : Int} {M2 : g_M} (h : m_X9_look a1 M = some (x, M2)) : MetI mG V l yX9_look cX9_look 5 (some .int) 1 22 [.ref (V.2.2 0), .int (gI a1)] M x M2 :=
  g_metI hok cal_X9_look.2.2.2 rfl (Nat.le_of_ble_eq_true rfl) (@fun p e R s m args below meth c Q ls C hR hp hl => b_X9_look C hR h hp hl)
set_option maxRecDepth 100000 in
set_option maxHeartbeats 4000000 in
theorem w_X9_sure_L19 (C : g_CX mG V p R s m args meth c cX9_sure 2 (some .int) RX9 1 22) {res : Int} {M14 : g_M} (hR : g_RetI mG V p l e R s m args below meth c Q cX9_sure .int res M14)    : ∀ (f : Nat) (x13 : Int) (H : Heap) (locs : List Loc) (ls : Array Slot), m_X9_sure_L19 M14  f x13 = some res → g_PT mG V M14 s H locs → lv_has ls 2 [(0, .ref (V.2.2 0)), (1, .int (gI x13))] → W p l e R s m args below meth c H locs 0 0 Q (F0 m 19 ls []) := by
  intro f
  induction f with
  | zero => intro x13 H locs ls h hp hl; cases h
  | succ f ih =>
    intro x13 H locs ls h hp hl
    rw [m_X9_sure_L19] at h
    refine lv_aload_n C.1 C.2.1 dX9_sure_19 rfl (lv_at hl 0 rfl) ?_
    refine r_getr (t := 1) C hp mk_0 ms_0 mc_0 min_0 (j := 0) (by decide) rfl gw_1256 rfl dX9_sure_20 ?_
    refine r_sipush C dX9_sure_23 (by decide +kernel) ?_
    refine r_iald C hp h mk_1 ms_1 dX9_sure_26 (fun h => ?_)
    refine lv_iload_n C.1 C.2.1 dX9_sure_27 rfl (lv_at hl 1 rfl) ?_
    obtain ⟨x15, hr, h⟩ := bd_of h
    refine r_callSI (As := [.int (gI (M14 1 (gs 142).toNat)), .int (gI x13)]) (rest := []) C hl.1 hp (c_X9_has l C.2.2.2.2.2.2.2.2.2.2.2 hr) gw_1477 gw_1478 cal_X9_has rfl rfl (Nat.le_of_ble_eq_true rfl) ⟨Nat.le_of_ble_eq_true rfl, Nat.le_of_ble_eq_true rfl⟩ dX9_sure_28 (fun H locs hp => ?_)
    refine r_if_ne (tgt := 40) C h dX9_sure_31 (by decide) (fun h => ?_) (fun h => ?_)
    · refine lv_iload_n C.1 C.2.1 dX9_sure_40 rfl (lv_at hl 1 rfl) ?_
      cases h
      exact hR _ _ _ _ dX9_sure_41 rfl hp
    · refine r_iinc (lv' := fun x16 => [(1, .int (gI x16)), (0, .ref (V.2.2 0))]) C h dX9_sure_34 hl (j := 1) rfl (by decide) (fun _ => rfl) (fun x16 ls h hl => ?_)
      refine r_goto (tgt := 19) C dX9_sure_37 (by decide) ?_
      exact ih _ _ _ _ h hp (lv_sub hl [1, 0] rfl)
set_option maxRecDepth 100000 in
set_option maxHeartbeats 4000000 in
theorem b_X9_sure (C : g_CX mG V p R s m args meth c cX9_sure 2 (some .int) RX9 1 22) {res : Int} {M : g_M} (hR : g_RetI mG V p l e R s m args below meth c Q cX9_sure .int res M)  {H : Heap} {locs : List Loc} {ls : Array Slot} (h : m_X9_sure M = some res) (hp : g_PT mG V M s H locs) (hl : lv_has ls 2 [(0, .ref (V.2.2 0))]) : W p l e R s m args below meth c H locs 0 0 Q (F0 m 0 ls []) := by
  unfold m_X9_sure at h
  refine lv_aload_n C.1 C.2.1 dX9_sure_0 rfl (lv_at hl 0 rfl) ?_
  refine r_getr (t := 1) C hp mk_0 ms_0 mc_0 min_0 (j := 0) (by decide) rfl gw_1256 rfl dX9_sure_1 ?_
  refine r_sipush C dX9_sure_4 (by decide +kernel) ?_
  refine r_iald C hp h mk_1 ms_1 dX9_sure_7 (fun h => ?_)
  obtain ⟨x11, hr, h⟩ := bd_of h
  refine r_callSI (As := [.int (gI (M 1 (gs 142).toNat))]) (rest := []) C hl.1 hp (c_X9_bits l C.2.2.2.2.2.2.2.2.2.2.2 hr) gw_1643 gw_1644 cal_X9_bits rfl rfl (Nat.le_of_ble_eq_true rfl) ⟨Nat.le_of_ble_eq_true rfl, Nat.le_of_ble_eq_true rfl⟩ dX9_sure_8 (fun H locs hp => ?_)
  refine r_iconst C dX9_sure_11 ?_
  refine r_icmp_eq (tgt := 17) C h dX9_sure_12 (by decide) (fun h => ?_) (fun h => ?_)
  · refine r_iconst C dX9_sure_17 ?_
    refine r_istore_n (lv' := fun x12 => [(1, .int (gI x12)), (0, .ref (V.2.2 0))]) C h dX9_sure_18 rfl hl (by decide) (fun _ => rfl) (fun x12 ls h hl => ?_)
    refine w_X9_sure_L19 C hR _ _ H locs ls h hp (lv_sub hl [1, 0] rfl)
  · refine r_iconst C dX9_sure_15 ?_
    cases h
    exact hR _ _ _ _ dX9_sure_16 rfl hp
theorem c_X9_sure (l : Launch) {V : g_V} (hok : g_ok mG V)  {M : g_M} {x : Int} (h : m_X9_sure M = some x) : MetI mG V l yX9_sure cX9_sure 2 (some .int) 1 22 [.ref (V.2.2 0)] M x M :=
  g_metI hok cal_X9_sure.2.2.2 rfl (Nat.le_of_ble_eq_true rfl) (@fun p e R s m args below meth c Q ls C hR hp hl => b_X9_sure C hR h hp hl)
set_option maxRecDepth 100000 in
set_option maxHeartbeats 4000000 in
theorem w_X9_tells_L17 (C : g_CX mG V p R s m args meth c cX9_tells 6 (some .int) RX9 1 22) {res : Int} {M25 : g_M} (hR : g_RetI mG V p l e R s m args below meth c Q cX9_tells .int res M25) (x20 : Int) (x21 : Int) (x22 : Int) (k26 : Int → Option (Int)) (hk26 : ∀ (x35 : Int) (H : Heap) (locs : List Loc) (ls : Array Slot), k26 x35 = some res → g_PT mG V M25 s H locs → lv_has ls 6 [(0, .ref (V.2.2 0)), (1, .int (gI x20)), (2, .int (gI x21)), (3, .int (gI x22)), (4, .int (gI x35))] → W p l e R s m args below meth c H locs 0 0 Q (F0 m 68 ls [])) : ∀ (f : Nat) (x23 : Int) (x24 : Int) (H : Heap) (locs : List Loc) (ls : Array Slot), m_X9_tells_L17 x20 x21 x22 M25 k26 f x23 x24 = some res → g_PT mG V M25 s H locs → lv_has ls 6 [(0, .ref (V.2.2 0)), (1, .int (gI x20)), (2, .int (gI x21)), (3, .int (gI x22)), (4, .int (gI x23)), (5, .int (gI x24))] → W p l e R s m args below meth c H locs 0 0 Q (F0 m 17 ls []) := by
  intro f
  induction f with
  | zero => intro x23 x24 H locs ls h hp hl; cases h
  | succ f ih =>
    intro x23 x24 H locs ls h hp hl
    rw [m_X9_tells_L17] at h
    refine lv_iload C.1 C.2.1 dX9_tells_17 (lv_at hl 5 rfl) ?_
    refine r_bipush C dX9_tells_19 (by decide +kernel) ?_
    refine r_icmp_ge (tgt := 68) C h dX9_tells_21 (by decide) (fun h => ?_) (fun h => ?_)
    · exact hk26 _ _ _ _ h hp (lv_sub hl [0, 1, 2, 3, 4] rfl)
    · refine r_jn (P := fun J => ∀ (x31 : Int) (x32 : Int) (H : Heap) (locs : List Loc) (ls : Array Slot), J x31 x32 = some res → g_PT mG V M25 s H locs → lv_has ls 6 [(0, .ref (V.2.2 0)), (1, .int (gI x20)), (2, .int (gI x21)), (3, .int (gI x22)), (5, .int (gI x24))] → W p l e R s m args below meth c H locs 0 0 Q (F0 m 59 ls [.int (gI x31), .int (gI x32)])) h ?_ (fun J27 hJ27 h => ?_)
      · intro x31 x32 H locs ls h hp hl
        refine r_ior C dX9_tells_59 ?_
        refine r_istore (lv' := fun x33 => [(4, .int (gI x33)), (0, .ref (V.2.2 0)), (1, .int (gI x20)), (2, .int (gI x21)), (3, .int (gI x22)), (5, .int (gI x24))]) C h dX9_tells_60 hl (by decide) (fun _ => rfl) (fun x33 ls h hl => ?_)
        refine r_iinc (lv' := fun x34 => [(5, .int (gI x34)), (4, .int (gI x33)), (0, .ref (V.2.2 0)), (1, .int (gI x20)), (2, .int (gI x21)), (3, .int (gI x22))]) C h dX9_tells_62 hl (j := 5) rfl (by decide) (fun _ => rfl) (fun x34 ls h hl => ?_)
        refine r_goto (tgt := 17) C dX9_tells_65 (by decide) ?_
        exact ih _ _ _ _ _ h hp (lv_sub hl [2, 3, 4, 5, 1, 0] rfl)
      refine lv_iload C.1 C.2.1 dX9_tells_24 (lv_at hl 4 rfl) ?_
      refine lv_aload_n C.1 C.2.1 dX9_tells_26 rfl (lv_at hl 0 rfl) ?_
      refine r_getr (t := 1) C hp mk_0 ms_0 mc_0 min_0 (j := 0) (by decide) rfl gw_1256 rfl dX9_tells_27 ?_
      refine r_sipush C dX9_tells_30 (by decide +kernel) ?_
      refine r_iald C hp h mk_1 ms_1 dX9_tells_33 (fun h => ?_)
      refine lv_iload C.1 C.2.1 dX9_tells_34 (lv_at hl 5 rfl) ?_
      obtain ⟨x28, hr, h⟩ := bd_of h
      refine r_callSI (As := [.int (gI (M25 1 (gs 142).toNat)), .int (gI x24)]) (rest := [.int (gI x23)]) C hl.1 hp (c_X9_has l C.2.2.2.2.2.2.2.2.2.2.2 hr) gw_1477 gw_1478 cal_X9_has rfl rfl (Nat.le_of_ble_eq_true rfl) ⟨Nat.le_of_ble_eq_true rfl, Nat.le_of_ble_eq_true rfl⟩ dX9_tells_36 (fun H locs hp => ?_)
      refine r_if_eq (tgt := 58) C h dX9_tells_39 (by decide) (fun h => ?_) (fun h => ?_)
      · refine r_iconst C dX9_tells_58 ?_
        exact hJ27 _ _ _ _ _ h hp (lv_sub hl [0, 1, 2, 3, 5] rfl)
      · refine r_iconst C dX9_tells_42 ?_
        refine lv_aload_n C.1 C.2.1 dX9_tells_43 rfl (lv_at hl 0 rfl) ?_
        refine lv_aload_n C.1 C.2.1 dX9_tells_44 rfl (lv_at hl 0 rfl) ?_
        refine lv_iload C.1 C.2.1 dX9_tells_45 (lv_at hl 5 rfl) ?_
        refine lv_iload_n C.1 C.2.1 dX9_tells_47 rfl (lv_at hl 3 rfl) ?_
        obtain ⟨x29, hr, h⟩ := bd_of h
        refine r_callVI (As := [.int (gI x24), .int (gI x22)]) (rest := [.ref (V.2.2 0), .int (gI 1), .int (gI x23)]) C hl.1 hp (c_X9_nextOf l C.2.2.2.2.2.2.2.2.2.2.2 hr) gw_1603 gw_1605 gw_81 mk_0 ms_0 mc_0 cal_X9_nextOf rfl rfl (Nat.le_of_ble_eq_true rfl) ⟨Nat.le_of_ble_eq_true rfl, Nat.le_of_ble_eq_true rfl⟩ dX9_tells_48 (fun H locs hp => ?_)
        obtain ⟨x30, hr, h⟩ := bd_of h
        refine r_callVI (As := [.int (gI x29)]) (rest := [.int (gI 1), .int (gI x23)]) C hl.1 hp (c_X9_kindAt l C.2.2.2.2.2.2.2.2.2.2.2 hr) gw_1832 gw_1834 gw_106 mk_0 ms_0 mc_0 cal_X9_kindAt rfl rfl (Nat.le_of_ble_eq_true rfl) ⟨Nat.le_of_ble_eq_true rfl, Nat.le_of_ble_eq_true rfl⟩ dX9_tells_51 (fun H locs hp => ?_)
        refine r_ishl C dX9_tells_54 ?_
        refine r_goto (tgt := 59) C dX9_tells_55 (by decide) ?_
        exact hJ27 _ _ _ _ _ h hp (lv_sub hl [0, 1, 2, 3, 5] rfl)
set_option maxRecDepth 100000 in
set_option maxHeartbeats 4000000 in
theorem w_X9_tells_L6 (C : g_CX mG V p R s m args meth c cX9_tells 6 (some .int) RX9 1 22) {res : Int} {M17 : g_M} (hR : g_RetI mG V p l e R s m args below meth c Q cX9_tells .int res M17)    : ∀ (f : Nat) (x14 : Int) (x15 : Int) (x16 : Int) (H : Heap) (locs : List Loc) (ls : Array Slot), m_X9_tells_L6 M17  f x14 x15 x16 = some res → g_PT mG V M17 s H locs → lv_has ls 6 [(0, .ref (V.2.2 0)), (1, .int (gI x14)), (2, .int (gI x15)), (3, .int (gI x16))] → W p l e R s m args below meth c H locs 0 0 Q (F0 m 6 ls []) := by
  intro f
  induction f with
  | zero => intro x14 x15 x16 H locs ls h hp hl; cases h
  | succ f ih =>
    intro x14 x15 x16 H locs ls h hp hl
    rw [m_X9_tells_L6] at h
    refine lv_iload_n C.1 C.2.1 dX9_tells_6 rfl (lv_at hl 3 rfl) ?_
    refine r_iconst C dX9_tells_7 ?_
    refine r_icmp_ge (tgt := 94) C h dX9_tells_8 (by decide) (fun h => ?_) (fun h => ?_)
    · refine lv_iload_n C.1 C.2.1 dX9_tells_94 rfl (lv_at hl 1 rfl) ?_
      cases h
      exact hR _ _ _ _ dX9_tells_95 rfl hp
    · refine r_iconst C dX9_tells_11 ?_
      refine r_istore (lv' := fun x18 => [(4, .int (gI x18)), (0, .ref (V.2.2 0)), (1, .int (gI x14)), (2, .int (gI x15)), (3, .int (gI x16))]) C h dX9_tells_12 hl (by decide) (fun _ => rfl) (fun x18 ls h hl => ?_)
      refine r_iconst C dX9_tells_14 ?_
      refine r_istore (lv' := fun x19 => [(5, .int (gI x19)), (4, .int (gI x18)), (0, .ref (V.2.2 0)), (1, .int (gI x14)), (2, .int (gI x15)), (3, .int (gI x16))]) C h dX9_tells_15 hl (by decide) (fun _ => rfl) (fun x19 ls h hl => ?_)
      refine w_X9_tells_L17 C hR _ _ _ _ ?_ _ _ _ H locs ls h hp (lv_sub hl [2, 3, 4, 5, 1, 0] rfl)
      · intro x36 H locs ls h hp hl
        refine r_jn (P := fun J => ∀ (x42 : Int) (x43 : Int) (H : Heap) (locs : List Loc) (ls : Array Slot), J x42 x43 = some res → g_PT mG V M17 s H locs → lv_has ls 6 [(0, .ref (V.2.2 0)), (1, .int (gI x42)), (2, .int (gI x43)), (3, .int (gI x16))] → W p l e R s m args below meth c H locs 0 0 Q (F0 m 88 ls [])) h ?_ (fun J37 hJ37 h => ?_)
        · intro x42 x43 H locs ls h hp hl
          refine r_iinc (lv' := fun x44 => [(3, .int (gI x44)), (0, .ref (V.2.2 0)), (1, .int (gI x42)), (2, .int (gI x43))]) C h dX9_tells_88 hl (j := 3) rfl (by decide) (fun _ => rfl) (fun x44 ls h hl => ?_)
          refine r_goto (tgt := 6) C dX9_tells_91 (by decide) ?_
          exact ih _ _ _ _ _ _ h hp (lv_sub hl [1, 2, 3, 0] rfl)
        refine lv_iload C.1 C.2.1 dX9_tells_68 (lv_at hl 4 rfl) ?_
        obtain ⟨x38, hr, h⟩ := bd_of h
        refine r_callSI (As := [.int (gI x36)]) (rest := []) C hl.1 hp (c_X9_bits l C.2.2.2.2.2.2.2.2.2.2.2 hr) gw_1643 gw_1644 cal_X9_bits rfl rfl (Nat.le_of_ble_eq_true rfl) ⟨Nat.le_of_ble_eq_true rfl, Nat.le_of_ble_eq_true rfl⟩ dX9_tells_70 (fun H locs hp => ?_)
        refine lv_iload_n C.1 C.2.1 dX9_tells_73 rfl (lv_at hl 2 rfl) ?_
        refine r_icmp_gt (tgt := 80) C h dX9_tells_74 (by decide) (fun h => ?_) (fun h => ?_)
        · refine lv_iload C.1 C.2.1 dX9_tells_80 (lv_at hl 4 rfl) ?_
          obtain ⟨x39, hr, h⟩ := bd_of h
          refine r_callSI (As := [.int (gI x36)]) (rest := []) C hl.1 hp (c_X9_bits l C.2.2.2.2.2.2.2.2.2.2.2 hr) gw_1643 gw_1644 cal_X9_bits rfl rfl (Nat.le_of_ble_eq_true rfl) ⟨Nat.le_of_ble_eq_true rfl, Nat.le_of_ble_eq_true rfl⟩ dX9_tells_82 (fun H locs hp => ?_)
          refine r_istore_n (lv' := fun x40 => [(2, .int (gI x40)), (0, .ref (V.2.2 0)), (1, .int (gI x14)), (3, .int (gI x16)), (4, .int (gI x36))]) C h dX9_tells_85 rfl hl (by decide) (fun _ => rfl) (fun x40 ls h hl => ?_)
          refine lv_iload_n C.1 C.2.1 dX9_tells_86 rfl (lv_at hl 3 rfl) ?_
          refine r_istore_n (lv' := fun x41 => [(1, .int (gI x41)), (2, .int (gI x40)), (0, .ref (V.2.2 0)), (3, .int (gI x16)), (4, .int (gI x36))]) C h dX9_tells_87 rfl hl (by decide) (fun _ => rfl) (fun x41 ls h hl => ?_)
          exact hJ37 _ _ _ _ _ h hp (lv_sub hl [2, 0, 1, 3] rfl)
        · refine r_goto (tgt := 88) C dX9_tells_77 (by decide) ?_
          exact hJ37 _ _ _ _ _ h hp (lv_sub hl [0, 1, 2, 3] rfl)
set_option maxRecDepth 100000 in
set_option maxHeartbeats 4000000 in
theorem b_X9_tells (C : g_CX mG V p R s m args meth c cX9_tells 6 (some .int) RX9 1 22) {res : Int} {M : g_M} (hR : g_RetI mG V p l e R s m args below meth c Q cX9_tells .int res M)  {H : Heap} {locs : List Loc} {ls : Array Slot} (h : m_X9_tells M = some res) (hp : g_PT mG V M s H locs) (hl : lv_has ls 6 [(0, .ref (V.2.2 0))]) : W p l e R s m args below meth c H locs 0 0 Q (F0 m 0 ls []) := by
  unfold m_X9_tells at h
  refine r_iconst C dX9_tells_0 ?_
  refine r_istore_n (lv' := fun x11 => [(1, .int (gI x11)), (0, .ref (V.2.2 0))]) C h dX9_tells_1 rfl hl (by decide) (fun _ => rfl) (fun x11 ls h hl => ?_)
  refine r_iconst C dX9_tells_2 ?_
  refine r_istore_n (lv' := fun x12 => [(2, .int (gI x12)), (1, .int (gI x11)), (0, .ref (V.2.2 0))]) C h dX9_tells_3 rfl hl (by decide) (fun _ => rfl) (fun x12 ls h hl => ?_)
  refine r_iconst C dX9_tells_4 ?_
  refine r_istore_n (lv' := fun x13 => [(3, .int (gI x13)), (2, .int (gI x12)), (1, .int (gI x11)), (0, .ref (V.2.2 0))]) C h dX9_tells_5 rfl hl (by decide) (fun _ => rfl) (fun x13 ls h hl => ?_)
  refine w_X9_tells_L6 C hR _ _ _ _ H locs ls h hp (lv_sub hl [3, 2, 1, 0] rfl)
theorem c_X9_tells (l : Launch) {V : g_V} (hok : g_ok mG V)  {M : g_M} {x : Int} (h : m_X9_tells M = some x) : MetI mG V l yX9_tells cX9_tells 6 (some .int) 1 22 [.ref (V.2.2 0)] M x M :=
  g_metI hok cal_X9_tells.2.2.2 rfl (Nat.le_of_ble_eq_true rfl) (@fun p e R s m args below meth c Q ls C hR hp hl => b_X9_tells C hR h hp hl)
set_option maxRecDepth 100000 in
set_option maxHeartbeats 4000000 in
theorem b_X9_likes (C : g_CX mG V p R s m args meth c cX9_likes 4 (some .boolean) RX9 1 22) {res : Int × g_M} (hR : g_RetI mG V p l e R s m args below meth c Q cX9_likes .boolean res.1 res.2) {a1 : Int} {a2 : Int} {a3 : Int} {M : g_M} {H : Heap} {locs : List Loc} {ls : Array Slot} (h : m_X9_likes a1 a2 a3 M = some res) (hp : g_PT mG V M s H locs) (hl : lv_has ls 4 [(0, .ref (V.2.2 0)), (1, .int (gI a1)), (2, .int (gI a2)), (3, .int (gI a3))]) : W p l e R s m args below meth c H locs 0 0 Q (F0 m 0 ls []) := by
  unfold m_X9_likes at h
  refine lv_iload_n C.1 C.2.1 dX9_likes_0 rfl (lv_at hl 1 rfl) ?_
  refine r_iconst C dX9_likes_1 ?_
  refine r_bipush C dX9_likes_2 (by decide +kernel) ?_
  obtain ⟨x11, hr, h⟩ := bd_of h
  refine r_callSI (As := [.int (gI a1), .int (gI 0), .int (gI 7)]) (rest := []) C hl.1 hp (c_X9_isIn l C.2.2.2.2.2.2.2.2.2.2.2 hr) gw_1378 gw_1379 cal_X9_isIn rfl rfl (Nat.le_of_ble_eq_true rfl) ⟨Nat.le_of_ble_eq_true rfl, Nat.le_of_ble_eq_true rfl⟩ dX9_likes_4 (fun H locs hp => ?_)
  refine r_if_eq (tgt := 29) C h dX9_likes_7 (by decide) (fun h => ?_) (fun h => ?_)
  · refine r_iconst C dX9_likes_29 ?_
    cases h
    exact hR _ _ _ _ dX9_likes_30 g_nz0 hp
  · refine lv_iload_n C.1 C.2.1 dX9_likes_10 rfl (lv_at hl 2 rfl) ?_
    refine r_iconst C dX9_likes_11 ?_
    refine r_iconst C dX9_likes_12 ?_
    obtain ⟨x12, hr, h⟩ := bd_of h
    refine r_callSI (As := [.int (gI a2), .int (gI 0), .int (gI 4)]) (rest := []) C hl.1 hp (c_X9_isIn l C.2.2.2.2.2.2.2.2.2.2.2 hr) gw_1378 gw_1379 cal_X9_isIn rfl rfl (Nat.le_of_ble_eq_true rfl) ⟨Nat.le_of_ble_eq_true rfl, Nat.le_of_ble_eq_true rfl⟩ dX9_likes_13 (fun H locs hp => ?_)
    refine r_if_eq (tgt := 29) C h dX9_likes_16 (by decide) (fun h => ?_) (fun h => ?_)
    · refine r_iconst C dX9_likes_29 ?_
      cases h
      exact hR _ _ _ _ dX9_likes_30 g_nz0 hp
    · refine lv_iload_n C.1 C.2.1 dX9_likes_19 rfl (lv_at hl 3 rfl) ?_
      refine r_iconst C dX9_likes_20 ?_
      refine r_bipush C dX9_likes_21 (by decide +kernel) ?_
      obtain ⟨x13, hr, h⟩ := bd_of h
      refine r_callSI (As := [.int (gI a3), .int (gI 0), .int (gI 99)]) (rest := []) C hl.1 hp (c_X9_isIn l C.2.2.2.2.2.2.2.2.2.2.2 hr) gw_1378 gw_1379 cal_X9_isIn rfl rfl (Nat.le_of_ble_eq_true rfl) ⟨Nat.le_of_ble_eq_true rfl, Nat.le_of_ble_eq_true rfl⟩ dX9_likes_23 (fun H locs hp => ?_)
      refine r_if_ne (tgt := 31) C h dX9_likes_26 (by decide) (fun h => ?_) (fun h => ?_)
      · refine lv_aload_n C.1 C.2.1 dX9_likes_31 rfl (lv_at hl 0 rfl) ?_
        refine r_getr (t := 1) C hp mk_0 ms_0 mc_0 min_0 (j := 0) (by decide) rfl gw_1256 rfl dX9_likes_32 ?_
        refine r_sipush C dX9_likes_35 (by decide +kernel) ?_
        refine r_iconst C dX9_likes_38 ?_
        refine lv_iload_n C.1 C.2.1 dX9_likes_39 rfl (lv_at hl 1 rfl) ?_
        refine r_imul C dX9_likes_40 ?_
        refine r_iadd C dX9_likes_41 ?_
        refine lv_iload_n C.1 C.2.1 dX9_likes_42 rfl (lv_at hl 2 rfl) ?_
        refine r_iadd C dX9_likes_43 ?_
        refine lv_iload_n C.1 C.2.1 dX9_likes_44 rfl (lv_at hl 3 rfl) ?_
        refine r_iast C hp h mk_1 ms_1 dX9_likes_45 (fun M14 H locs h hp => ?_)
        refine r_iconst C dX9_likes_46 ?_
        cases h
        exact hR _ _ _ _ dX9_likes_47 g_nz1 hp
      · refine r_iconst C dX9_likes_29 ?_
        cases h
        exact hR _ _ _ _ dX9_likes_30 g_nz0 hp
theorem c_X9_likes (l : Launch) {V : g_V} (hok : g_ok mG V) {a1 : Int} {a2 : Int} {a3 : Int} {M : g_M} {x : Int} {M2 : g_M} (h : m_X9_likes a1 a2 a3 M = some (x, M2)) : MetI mG V l yX9_likes cX9_likes 4 (some .boolean) 1 22 [.ref (V.2.2 0), .int (gI a1), .int (gI a2), .int (gI a3)] M x M2 :=
  g_metI hok cal_X9_likes.2.2.2 rfl (Nat.le_of_ble_eq_true rfl) (@fun p e R s m args below meth c Q ls C hR hp hl => b_X9_likes C hR h hp hl)
set_option maxRecDepth 100000 in
set_option maxHeartbeats 4000000 in
theorem w_X9_isNextRow_L43 (C : g_CX mG V p R s m args meth c cX9_isNextRow 5 (some .boolean) RX9 0 0) {res : Int × g_M} (hR : g_RetI mG V p l e R s m args below meth c Q cX9_isNextRow .boolean res.1 res.2) (x22 : Int) (x23 : Int) (M25 : g_M) (k26 : Int → Option (Int × g_M)) (hk26 : ∀ (x28 : Int) (H : Heap) (locs : List Loc) (ls : Array Slot), k26 x28 = some res → g_PT mG V M25 s H locs → lv_has ls 5 [(0, .ref (V.2.2 0)), (1, .int (gI x22)), (3, .int (gI x23)), (4, .int (gI x28))] → W p l e R s m args below meth c H locs 0 0 Q (F0 m 66 ls [])) : ∀ (f : Nat) (x24 : Int) (H : Heap) (locs : List Loc) (ls : Array Slot), m_X9_isNextRow_L43 x22 x23 M25 k26 f x24 = some res → g_PT mG V M25 s H locs → lv_has ls 5 [(0, .ref (V.2.2 0)), (1, .int (gI x22)), (3, .int (gI x23)), (4, .int (gI x24))] → W p l e R s m args below meth c H locs 0 0 Q (F0 m 43 ls []) := by
  intro f
  induction f with
  | zero => intro x24 H locs ls h hp hl; cases h
  | succ f ih =>
    intro x24 H locs ls h hp hl
    rw [m_X9_isNextRow_L43] at h
    refine lv_iload C.1 C.2.1 dX9_isNextRow_43 (lv_at hl 3 rfl) ?_
    refine r_iconst C dX9_isNextRow_45 ?_
    refine r_icmp_ge (tgt := 66) C h dX9_isNextRow_46 (by decide) (fun h => ?_) (fun h => ?_)
    · exact hk26 _ _ _ _ h hp hl
    · refine lv_aload_n C.1 C.2.1 dX9_isNextRow_49 rfl (lv_at hl 0 rfl) ?_
      refine r_getr (t := 17) C hp mk_0 ms_0 mc_0 min_0 (j := 35) (by decide) rfl gw_1291 rfl dX9_isNextRow_50 ?_
      refine lv_iload C.1 C.2.1 dX9_isNextRow_53 (lv_at hl 3 rfl) ?_
      refine r_iald C hp h mk_17 ms_17 dX9_isNextRow_55 (fun h => ?_)
      refine lv_iload_n C.1 C.2.1 dX9_isNextRow_56 rfl (lv_at hl 1 rfl) ?_
      refine r_icmp_ne (tgt := 66) C h dX9_isNextRow_57 (by decide) (fun h => ?_) (fun h => ?_)
      · exact hk26 _ _ _ _ h hp hl
      · refine r_iinc (lv' := fun x27 => [(4, .int (gI x27)), (0, .ref (V.2.2 0)), (1, .int (gI x22)), (3, .int (gI x23))]) C h dX9_isNextRow_60 hl (j := 3) rfl (by decide) (fun _ => rfl) (fun x27 ls h hl => ?_)
        refine r_goto (tgt := 43) C dX9_isNextRow_63 (by decide) ?_
        exact ih _ _ _ _ h hp (lv_sub hl [1, 2, 3, 0] rfl)
set_option maxRecDepth 100000 in
set_option maxHeartbeats 4000000 in
theorem w_X9_isNextRow_L2 (C : g_CX mG V p R s m args meth c cX9_isNextRow 5 (some .boolean) RX9 0 0) {res : Int × g_M} (hR : g_RetI mG V p l e R s m args below meth c Q cX9_isNextRow .boolean res.1 res.2) (x12 : Int) (k15 : Int → g_M → Option (Int × g_M)) (hk15 : ∀ (x41 : Int) (M42 : g_M) (H : Heap) (locs : List Loc) (ls : Array Slot), k15 x41 M42 = some res → g_PT mG V M42 s H locs → lv_has ls 5 [(3, .int (gI x41))] → W p l e R s m args below meth c H locs 0 0 Q (F0 m 118 ls [])) : ∀ (f : Nat) (x13 : Int) (M14 : g_M) (H : Heap) (locs : List Loc) (ls : Array Slot), m_X9_isNextRow_L2 x12 k15 f x13 M14 = some res → g_PT mG V M14 s H locs → lv_has ls 5 [(0, .ref (V.2.2 0)), (1, .int (gI x12)), (3, .int (gI x13))] → W p l e R s m args below meth c H locs 0 0 Q (F0 m 2 ls []) := by
  intro f
  induction f with
  | zero => intro x13 M14 H locs ls h hp hl; cases h
  | succ f ih =>
    intro x13 M14 H locs ls h hp hl
    rw [m_X9_isNextRow_L2] at h
    refine lv_iload_n C.1 C.2.1 dX9_isNextRow_2 rfl (lv_at hl 2 rfl) ?_
    refine r_if_lt (tgt := 118) C h dX9_isNextRow_3 (by decide) (fun h => ?_) (fun h => ?_)
    · exact hk15 _ _ _ _ _ h hp (lv_sub hl [2] rfl)
    · refine lv_iload_n C.1 C.2.1 dX9_isNextRow_6 rfl (lv_at hl 2 rfl) ?_
      refine lv_aload_n C.1 C.2.1 dX9_isNextRow_7 rfl (lv_at hl 0 rfl) ?_
      refine r_getr (t := 1) C hp mk_0 ms_0 mc_0 min_0 (j := 0) (by decide) rfl gw_1256 rfl dX9_isNextRow_8 ?_
      refine r_iconst C dX9_isNextRow_11 ?_
      refine r_iald C hp h mk_1 ms_1 dX9_isNextRow_12 (fun h => ?_)
      refine r_icmp_ge (tgt := 118) C h dX9_isNextRow_13 (by decide) (fun h => ?_) (fun h => ?_)
      · exact hk15 _ _ _ _ _ h hp (lv_sub hl [2] rfl)
      · refine r_jn (P := fun J => ∀ (x19 : Int) (M20 : g_M) (H : Heap) (locs : List Loc) (ls : Array Slot), J x19 M20 = some res → g_PT mG V M20 s H locs → lv_has ls 5 [(0, .ref (V.2.2 0)), (1, .int (gI x12)), (3, .int (gI x13)), (4, .int (gI x19))] → W p l e R s m args below meth c H locs 0 0 Q (F0 m 40 ls [])) h ?_ (fun J16 hJ16 h => ?_)
        · intro x19 M20 H locs ls h hp hl
          refine r_iinc (lv' := fun x21 => [(4, .int (gI x21)), (0, .ref (V.2.2 0)), (1, .int (gI x12)), (3, .int (gI x13))]) C h dX9_isNextRow_40 hl (j := 3) rfl (by decide) (fun _ => rfl) (fun x21 ls h hl => ?_)
          refine w_X9_isNextRow_L43 C hR _ _ _ _ ?_ _ _ H locs ls h hp (lv_sub hl [1, 2, 3, 0] rfl)
          · intro x29 H locs ls h hp hl
            refine r_jn (P := fun J => ∀ (x31 : Int) (x32 : Int) (H : Heap) (locs : List Loc) (ls : Array Slot), J x31 x32 = some res → g_PT mG V M20 s H locs → lv_has ls 5 [(0, .ref (V.2.2 0)), (1, .int (gI x12)), (3, .int (gI x13)), (4, .int (gI x29))] → W p l e R s m args below meth c H locs 0 0 Q (F0 m 83 ls [.int (gI x31), .int (gI x32), .ref (V.2.2 15)])) h ?_ (fun J30 hJ30 h => ?_)
            · intro x31 x32 H locs ls h hp hl
              refine r_jn (P := fun J => ∀ (M36 : g_M) (H : Heap) (locs : List Loc) (ls : Array Slot), J M36 = some res → g_PT mG V M36 s H locs → lv_has ls 5 [(0, .ref (V.2.2 0)), (1, .int (gI x12)), (3, .int (gI x13)), (4, .int (gI x29))] → W p l e R s m args below meth c H locs 0 0 Q (F0 m 101 ls [])) h ?_ (fun J33 hJ33 h => ?_)
              · intro M36 H locs ls h hp hl
                refine r_jn (P := fun J => ∀ (x38 : Int) (x39 : Int) (H : Heap) (locs : List Loc) (ls : Array Slot), J x38 x39 = some res → g_PT mG V M36 s H locs → lv_has ls 5 [(0, .ref (V.2.2 0)), (1, .int (gI x12))] → W p l e R s m args below meth c H locs 0 0 Q (F0 m 113 ls [.int (gI x38), .int (gI x39)])) h ?_ (fun J37 hJ37 h => ?_)
                · intro x38 x39 H locs ls h hp hl
                  refine r_iadd C dX9_isNextRow_113 ?_
                  refine r_istore_n (lv' := fun x40 => [(3, .int (gI x40)), (0, .ref (V.2.2 0)), (1, .int (gI x12))]) C h dX9_isNextRow_114 rfl hl (by decide) (fun _ => rfl) (fun x40 ls h hl => ?_)
                  refine r_goto (tgt := 2) C dX9_isNextRow_115 (by decide) ?_
                  exact ih _ _ _ _ _ h hp (lv_sub hl [1, 2, 0] rfl)
                refine lv_iload_n C.1 C.2.1 dX9_isNextRow_101 rfl (lv_at hl 2 rfl) ?_
                refine lv_iload C.1 C.2.1 dX9_isNextRow_102 (lv_at hl 3 rfl) ?_
                refine r_iconst C dX9_isNextRow_104 ?_
                refine r_icmp_ge (tgt := 112) C h dX9_isNextRow_105 (by decide) (fun h => ?_) (fun h => ?_)
                · refine r_iconst C dX9_isNextRow_112 ?_
                  exact hJ37 _ _ _ _ _ h hp (lv_sub hl [0, 1] rfl)
                · refine r_iconst C dX9_isNextRow_108 ?_
                  refine r_goto (tgt := 113) C dX9_isNextRow_109 (by decide) ?_
                  exact hJ37 _ _ _ _ _ h hp (lv_sub hl [0, 1] rfl)
              refine r_iast C hp h mk_15 ms_15 dX9_isNextRow_83 (fun M34 H locs h hp => ?_)
              refine lv_iload C.1 C.2.1 dX9_isNextRow_84 (lv_at hl 3 rfl) ?_
              refine r_iconst C dX9_isNextRow_86 ?_
              refine r_icmp_ge (tgt := 101) C h dX9_isNextRow_87 (by decide) (fun h => ?_) (fun h => ?_)
              · exact hJ33 _ _ _ _ h hp hl
              · refine lv_aload_n C.1 C.2.1 dX9_isNextRow_90 rfl (lv_at hl 0 rfl) ?_
                refine r_getr (t := 17) C hp mk_0 ms_0 mc_0 min_0 (j := 35) (by decide) rfl gw_1291 rfl dX9_isNextRow_91 ?_
                refine lv_iload C.1 C.2.1 dX9_isNextRow_94 (lv_at hl 3 rfl) ?_
                refine lv_dup2_11 C.1 C.2.1 dX9_isNextRow_96 rfl rfl ?_
                refine r_iald C hp h mk_17 ms_17 dX9_isNextRow_97 (fun h => ?_)
                refine r_iconst C dX9_isNextRow_98 ?_
                refine r_iadd C dX9_isNextRow_99 ?_
                refine r_iast C hp h mk_17 ms_17 dX9_isNextRow_100 (fun M35 H locs h hp => ?_)
                exact hJ33 _ _ _ _ h hp hl
            refine lv_aload_n C.1 C.2.1 dX9_isNextRow_66 rfl (lv_at hl 0 rfl) ?_
            refine r_getr (t := 15) C hp mk_0 ms_0 mc_0 min_0 (j := 33) (by decide) rfl gw_1289 rfl dX9_isNextRow_67 ?_
            refine lv_iload_n C.1 C.2.1 dX9_isNextRow_70 rfl (lv_at hl 2 rfl) ?_
            refine lv_iload C.1 C.2.1 dX9_isNextRow_71 (lv_at hl 3 rfl) ?_
            refine r_iconst C dX9_isNextRow_73 ?_
            refine r_icmp_ge (tgt := 82) C h dX9_isNextRow_74 (by decide) (fun h => ?_) (fun h => ?_)
            · refine r_iconst C dX9_isNextRow_82 ?_
              exact hJ30 _ _ _ _ _ h hp hl
            · refine lv_iload C.1 C.2.1 dX9_isNextRow_77 (lv_at hl 3 rfl) ?_
              refine r_goto (tgt := 83) C dX9_isNextRow_79 (by decide) ?_
              exact hJ30 _ _ _ _ _ h hp hl
        refine lv_aload_n C.1 C.2.1 dX9_isNextRow_16 rfl (lv_at hl 0 rfl) ?_
        refine r_getr (t := 15) C hp mk_0 ms_0 mc_0 min_0 (j := 33) (by decide) rfl gw_1289 rfl dX9_isNextRow_17 ?_
        refine lv_iload_n C.1 C.2.1 dX9_isNextRow_20 rfl (lv_at hl 2 rfl) ?_
        refine r_iald C hp h mk_15 ms_15 dX9_isNextRow_21 (fun h => ?_)
        refine r_istore (lv' := fun x17 => [(4, .int (gI x17)), (0, .ref (V.2.2 0)), (1, .int (gI x12)), (3, .int (gI x13))]) C h dX9_isNextRow_22 hl (by decide) (fun _ => rfl) (fun x17 ls h hl => ?_)
        refine lv_iload C.1 C.2.1 dX9_isNextRow_24 (lv_at hl 0 rfl) ?_
        refine r_if_lt (tgt := 40) C h dX9_isNextRow_26 (by decide) (fun h => ?_) (fun h => ?_)
        · exact hJ16 _ _ _ _ _ h hp (lv_sub hl [1, 2, 3, 0] rfl)
        · refine lv_aload_n C.1 C.2.1 dX9_isNextRow_29 rfl (lv_at hl 1 rfl) ?_
          refine r_getr (t := 17) C hp mk_0 ms_0 mc_0 min_0 (j := 35) (by decide) rfl gw_1291 rfl dX9_isNextRow_30 ?_
          refine lv_iload C.1 C.2.1 dX9_isNextRow_33 (lv_at hl 0 rfl) ?_
          refine lv_dup2_11 C.1 C.2.1 dX9_isNextRow_35 rfl rfl ?_
          refine r_iald C hp h mk_17 ms_17 dX9_isNextRow_36 (fun h => ?_)
          refine r_iconst C dX9_isNextRow_37 ?_
          refine r_isub C dX9_isNextRow_38 ?_
          refine r_iast C hp h mk_17 ms_17 dX9_isNextRow_39 (fun M18 H locs h hp => ?_)
          exact hJ16 _ _ _ _ _ h hp (lv_sub hl [1, 2, 3, 0] rfl)
set_option maxRecDepth 100000 in
set_option maxHeartbeats 4000000 in
theorem b_X9_isNextRow (C : g_CX mG V p R s m args meth c cX9_isNextRow 5 (some .boolean) RX9 0 0) {res : Int × g_M} (hR : g_RetI mG V p l e R s m args below meth c Q cX9_isNextRow .boolean res.1 res.2) {a1 : Int} {a2 : Int} {M : g_M} {H : Heap} {locs : List Loc} {ls : Array Slot} (h : m_X9_isNextRow a1 a2 M = some res) (hp : g_PT mG V M s H locs) (hl : lv_has ls 5 [(0, .ref (V.2.2 0)), (1, .int (gI a1)), (2, .int (gI a2))]) : W p l e R s m args below meth c H locs 0 0 Q (F0 m 0 ls []) := by
  unfold m_X9_isNextRow at h
  refine lv_iload_n C.1 C.2.1 dX9_isNextRow_0 rfl (lv_at hl 2 rfl) ?_
  refine r_istore_n (lv' := fun x11 => [(3, .int (gI x11)), (0, .ref (V.2.2 0)), (1, .int (gI a1)), (2, .int (gI a2))]) C h dX9_isNextRow_1 rfl hl (by decide) (fun _ => rfl) (fun x11 ls h hl => ?_)
  refine w_X9_isNextRow_L2 C hR _ _ ?_ _ _ _ H locs ls h hp (lv_sub hl [1, 2, 0] rfl)
  · intro x43 M44 H locs ls h hp hl
    refine lv_iload_n C.1 C.2.1 dX9_isNextRow_118 rfl (lv_at hl 0 rfl) ?_
    refine r_if_lt (tgt := 126) C h dX9_isNextRow_119 (by decide) (fun h => ?_) (fun h => ?_)
    · refine r_iconst C dX9_isNextRow_126 ?_
      cases h
      exact hR _ _ _ _ dX9_isNextRow_127 g_nz0 hp
    · refine r_iconst C dX9_isNextRow_122 ?_
      refine r_goto (tgt := 127) C dX9_isNextRow_123 (by decide) ?_
      cases h
      exact hR _ _ _ _ dX9_isNextRow_127 g_nz1 hp
theorem c_X9_isNextRow (l : Launch) {V : g_V} (hok : g_ok mG V) {a1 : Int} {a2 : Int} {M : g_M} {x : Int} {M2 : g_M} (h : m_X9_isNextRow a1 a2 M = some (x, M2)) : MetI mG V l yX9_isNextRow cX9_isNextRow 5 (some .boolean) 0 0 [.ref (V.2.2 0), .int (gI a1), .int (gI a2)] M x M2 :=
  g_metI hok cal_X9_isNextRow.2.2.2 rfl (Nat.le_of_ble_eq_true rfl) (@fun p e R s m args below meth c Q ls C hR hp hl => b_X9_isNextRow C hR h hp hl)
set_option maxRecDepth 100000 in
set_option maxHeartbeats 4000000 in
theorem w_X9_layRoster_L2 (C : g_CX mG V p R s m args meth c cX9_layRoster 6 (some .int) RX9 1 24) {res : Int × g_M} (hR : g_RetI mG V p l e R s m args below meth c Q cX9_layRoster .int res.1 res.2) (x12 : Int) (k15 : g_M → Option (Int × g_M)) (hk15 : ∀ (M18 : g_M) (H : Heap) (locs : List Loc) (ls : Array Slot), k15 M18 = some res → g_PT mG V M18 s H locs → lv_has ls 6 [(0, .ref (V.2.2 0)), (1, .int (gI x12))] → W p l e R s m args below meth c H locs 0 0 Q (F0 m 20 ls [])) : ∀ (f : Nat) (x13 : Int) (M14 : g_M) (H : Heap) (locs : List Loc) (ls : Array Slot), m_X9_layRoster_L2 x12 k15 f x13 M14 = some res → g_PT mG V M14 s H locs → lv_has ls 6 [(0, .ref (V.2.2 0)), (1, .int (gI x12)), (2, .int (gI x13))] → W p l e R s m args below meth c H locs 0 0 Q (F0 m 2 ls []) := by
  intro f
  induction f with
  | zero => intro x13 M14 H locs ls h hp hl; cases h
  | succ f ih =>
    intro x13 M14 H locs ls h hp hl
    rw [m_X9_layRoster_L2] at h
    refine lv_iload_n C.1 C.2.1 dX9_layRoster_2 rfl (lv_at hl 2 rfl) ?_
    refine r_iconst C dX9_layRoster_3 ?_
    refine r_icmp_ge (tgt := 20) C h dX9_layRoster_4 (by decide) (fun h => ?_) (fun h => ?_)
    · exact hk15 _ _ _ _ h hp (lv_sub hl [0, 1] rfl)
    · refine lv_aload_n C.1 C.2.1 dX9_layRoster_7 rfl (lv_at hl 0 rfl) ?_
      refine r_getr (t := 17) C hp mk_0 ms_0 mc_0 min_0 (j := 35) (by decide) rfl gw_1291 rfl dX9_layRoster_8 ?_
      refine lv_iload_n C.1 C.2.1 dX9_layRoster_11 rfl (lv_at hl 2 rfl) ?_
      refine r_iconst C dX9_layRoster_12 ?_
      refine r_iast C hp h mk_17 ms_17 dX9_layRoster_13 (fun M16 H locs h hp => ?_)
      refine r_iinc (lv' := fun x17 => [(2, .int (gI x17)), (0, .ref (V.2.2 0)), (1, .int (gI x12))]) C h dX9_layRoster_14 hl (j := 2) rfl (by decide) (fun _ => rfl) (fun x17 ls h hl => ?_)
      refine r_goto (tgt := 2) C dX9_layRoster_17 (by decide) ?_
      exact ih _ _ _ _ _ h hp (lv_sub hl [1, 2, 0] rfl)
set_option maxRecDepth 100000 in
set_option maxHeartbeats 4000000 in
theorem w_X9_layRoster_L22 (C : g_CX mG V p R s m args meth c cX9_layRoster 6 (some .int) RX9 1 24) {res : Int × g_M} (hR : g_RetI mG V p l e R s m args below meth c Q cX9_layRoster .int res.1 res.2) (x21 : Int) (k24 : g_M → Option (Int × g_M)) (hk24 : ∀ (M27 : g_M) (H : Heap) (locs : List Loc) (ls : Array Slot), k24 M27 = some res → g_PT mG V M27 s H locs → lv_has ls 6 [(0, .ref (V.2.2 0)), (1, .int (gI x21))] → W p l e R s m args below meth c H locs 0 0 Q (F0 m 41 ls [])) : ∀ (f : Nat) (x22 : Int) (M23 : g_M) (H : Heap) (locs : List Loc) (ls : Array Slot), m_X9_layRoster_L22 x21 k24 f x22 M23 = some res → g_PT mG V M23 s H locs → lv_has ls 6 [(0, .ref (V.2.2 0)), (1, .int (gI x21)), (2, .int (gI x22))] → W p l e R s m args below meth c H locs 0 0 Q (F0 m 22 ls []) := by
  intro f
  induction f with
  | zero => intro x22 M23 H locs ls h hp hl; cases h
  | succ f ih =>
    intro x22 M23 H locs ls h hp hl
    rw [m_X9_layRoster_L22] at h
    refine lv_iload_n C.1 C.2.1 dX9_layRoster_22 rfl (lv_at hl 2 rfl) ?_
    refine r_bipush C dX9_layRoster_23 (by decide +kernel) ?_
    refine r_icmp_ge (tgt := 41) C h dX9_layRoster_25 (by decide) (fun h => ?_) (fun h => ?_)
    · exact hk24 _ _ _ _ h hp (lv_sub hl [0, 1] rfl)
    · refine lv_aload_n C.1 C.2.1 dX9_layRoster_28 rfl (lv_at hl 0 rfl) ?_
      refine r_getr (t := 15) C hp mk_0 ms_0 mc_0 min_0 (j := 33) (by decide) rfl gw_1289 rfl dX9_layRoster_29 ?_
      refine lv_iload_n C.1 C.2.1 dX9_layRoster_32 rfl (lv_at hl 2 rfl) ?_
      refine r_iconst C dX9_layRoster_33 ?_
      refine r_iast C hp h mk_15 ms_15 dX9_layRoster_34 (fun M25 H locs h hp => ?_)
      refine r_iinc (lv' := fun x26 => [(2, .int (gI x26)), (0, .ref (V.2.2 0)), (1, .int (gI x21))]) C h dX9_layRoster_35 hl (j := 2) rfl (by decide) (fun _ => rfl) (fun x26 ls h hl => ?_)
      refine r_goto (tgt := 22) C dX9_layRoster_38 (by decide) ?_
      exact ih _ _ _ _ _ h hp (lv_sub hl [1, 2, 0] rfl)
set_option maxRecDepth 100000 in
set_option maxHeartbeats 4000000 in
theorem w_X9_layRoster_L60 (C : g_CX mG V p R s m args meth c cX9_layRoster 6 (some .int) RX9 1 24) {res : Int × g_M} (hR : g_RetI mG V p l e R s m args below meth c Q cX9_layRoster .int res.1 res.2) (x39 : Int) (x40 : Int) (M43 : g_M) (k44 : Int → Option (Int × g_M)) (hk44 : ∀ (x47 : Int) (H : Heap) (locs : List Loc) (ls : Array Slot), k44 x47 = some res → g_PT mG V M43 s H locs → lv_has ls 6 [(0, .ref (V.2.2 0)), (1, .int (gI x39)), (2, .int (gI x40)), (4, .int (gI x47))] → W p l e R s m args below meth c H locs 0 0 Q (F0 m 103 ls [])) : ∀ (f : Nat) (x41 : Int) (x42 : Int) (H : Heap) (locs : List Loc) (ls : Array Slot), m_X9_layRoster_L60 x39 x40 M43 k44 f x41 x42 = some res → g_PT mG V M43 s H locs → lv_has ls 6 [(0, .ref (V.2.2 0)), (1, .int (gI x39)), (2, .int (gI x40)), (4, .int (gI x41)), (5, .int (gI x42))] → W p l e R s m args below meth c H locs 0 0 Q (F0 m 60 ls []) := by
  intro f
  induction f with
  | zero => intro x41 x42 H locs ls h hp hl; cases h
  | succ f ih =>
    intro x41 x42 H locs ls h hp hl
    rw [m_X9_layRoster_L60] at h
    refine lv_iload C.1 C.2.1 dX9_layRoster_60 (lv_at hl 4 rfl) ?_
    refine lv_aload_n C.1 C.2.1 dX9_layRoster_62 rfl (lv_at hl 0 rfl) ?_
    refine r_getr (t := 1) C hp mk_0 ms_0 mc_0 min_0 (j := 0) (by decide) rfl gw_1256 rfl dX9_layRoster_63 ?_
    refine r_iconst C dX9_layRoster_66 ?_
    refine r_iald C hp h mk_1 ms_1 dX9_layRoster_67 (fun h => ?_)
    refine r_icmp_ge (tgt := 103) C h dX9_layRoster_68 (by decide) (fun h => ?_) (fun h => ?_)
    · exact hk44 _ _ _ _ h hp (lv_sub hl [0, 1, 2, 3] rfl)
    · refine lv_iload C.1 C.2.1 dX9_layRoster_71 (lv_at hl 3 rfl) ?_
      refine lv_aload_n C.1 C.2.1 dX9_layRoster_73 rfl (lv_at hl 0 rfl) ?_
      refine r_getr (t := 1) C hp mk_0 ms_0 mc_0 min_0 (j := 0) (by decide) rfl gw_1256 rfl dX9_layRoster_74 ?_
      refine r_sipush C dX9_layRoster_77 (by decide +kernel) ?_
      refine r_iconst C dX9_layRoster_80 ?_
      refine lv_iload C.1 C.2.1 dX9_layRoster_81 (lv_at hl 4 rfl) ?_
      refine r_imul C dX9_layRoster_83 ?_
      refine r_iadd C dX9_layRoster_84 ?_
      refine lv_aload_n C.1 C.2.1 dX9_layRoster_85 rfl (lv_at hl 0 rfl) ?_
      refine r_getr (t := 15) C hp mk_0 ms_0 mc_0 min_0 (j := 33) (by decide) rfl gw_1289 rfl dX9_layRoster_86 ?_
      refine lv_iload C.1 C.2.1 dX9_layRoster_89 (lv_at hl 4 rfl) ?_
      refine r_iald C hp h mk_15 ms_15 dX9_layRoster_91 (fun h => ?_)
      refine r_iadd C dX9_layRoster_92 ?_
      refine r_iald C hp h mk_1 ms_1 dX9_layRoster_93 (fun h => ?_)
      refine r_iadd C dX9_layRoster_94 ?_
      refine r_istore (lv' := fun x45 => [(4, .int (gI x45)), (0, .ref (V.2.2 0)), (1, .int (gI x39)), (2, .int (gI x40)), (5, .int (gI x42))]) C h dX9_layRoster_95 hl (by decide) (fun _ => rfl) (fun x45 ls h hl => ?_)
      refine r_iinc (lv' := fun x46 => [(5, .int (gI x46)), (4, .int (gI x45)), (0, .ref (V.2.2 0)), (1, .int (gI x39)), (2, .int (gI x40))]) C h dX9_layRoster_97 hl (j := 4) rfl (by decide) (fun _ => rfl) (fun x46 ls h hl => ?_)
      refine r_goto (tgt := 60) C dX9_layRoster_100 (by decide) ?_
      exact ih _ _ _ _ _ h hp (lv_sub hl [2, 3, 4, 1, 0] rfl)
set_option maxRecDepth 100000 in
set_option maxHeartbeats 4000000 in
theorem w_X9_layRoster_L115 (C : g_CX mG V p R s m args meth c cX9_layRoster 6 (some .int) RX9 1 24) {res : Int × g_M} (hR : g_RetI mG V p l e R s m args below meth c Q cX9_layRoster .int res.1 res.2) (x52 : Int) (x53 : Int) (k56 : g_M → Option (Int × g_M)) (hk56 : ∀ (M59 : g_M) (H : Heap) (locs : List Loc) (ls : Array Slot), k56 M59 = some res → g_PT mG V M59 s H locs → lv_has ls 6 [(0, .ref (V.2.2 0)), (1, .int (gI x52)), (2, .int (gI x53))] → W p l e R s m args below meth c H locs 0 0 Q (F0 m 142 ls [])) : ∀ (f : Nat) (x54 : Int) (M55 : g_M) (H : Heap) (locs : List Loc) (ls : Array Slot), m_X9_layRoster_L115 x52 x53 k56 f x54 M55 = some res → g_PT mG V M55 s H locs → lv_has ls 6 [(0, .ref (V.2.2 0)), (1, .int (gI x52)), (2, .int (gI x53)), (5, .int (gI x54))] → W p l e R s m args below meth c H locs 0 0 Q (F0 m 115 ls []) := by
  intro f
  induction f with
  | zero => intro x54 M55 H locs ls h hp hl; cases h
  | succ f ih =>
    intro x54 M55 H locs ls h hp hl
    rw [m_X9_layRoster_L115] at h
    refine lv_iload C.1 C.2.1 dX9_layRoster_115 (lv_at hl 3 rfl) ?_
    refine r_bipush C dX9_layRoster_117 (by decide +kernel) ?_
    refine r_icmp_ge (tgt := 142) C h dX9_layRoster_119 (by decide) (fun h => ?_) (fun h => ?_)
    · exact hk56 _ _ _ _ h hp (lv_sub hl [0, 1, 2] rfl)
    · refine lv_aload_n C.1 C.2.1 dX9_layRoster_122 rfl (lv_at hl 0 rfl) ?_
      refine r_getr (t := 16) C hp mk_0 ms_0 mc_0 min_0 (j := 34) (by decide) rfl gw_1290 rfl dX9_layRoster_123 ?_
      refine lv_iload C.1 C.2.1 dX9_layRoster_126 (lv_at hl 3 rfl) ?_
      refine lv_aload_n C.1 C.2.1 dX9_layRoster_128 rfl (lv_at hl 0 rfl) ?_
      refine r_getr (t := 15) C hp mk_0 ms_0 mc_0 min_0 (j := 33) (by decide) rfl gw_1289 rfl dX9_layRoster_129 ?_
      refine lv_iload C.1 C.2.1 dX9_layRoster_132 (lv_at hl 3 rfl) ?_
      refine r_iald C hp h mk_15 ms_15 dX9_layRoster_134 (fun h => ?_)
      refine r_iast C hp h mk_16 ms_16 dX9_layRoster_135 (fun M57 H locs h hp => ?_)
      refine r_iinc (lv' := fun x58 => [(5, .int (gI x58)), (0, .ref (V.2.2 0)), (1, .int (gI x52)), (2, .int (gI x53))]) C h dX9_layRoster_136 hl (j := 3) rfl (by decide) (fun _ => rfl) (fun x58 ls h hl => ?_)
      refine r_goto (tgt := 115) C dX9_layRoster_139 (by decide) ?_
      exact ih _ _ _ _ _ h hp (lv_sub hl [1, 2, 3, 0] rfl)
set_option maxRecDepth 100000 in
set_option maxHeartbeats 4000000 in
theorem w_X9_layRoster_L50 (C : g_CX mG V p R s m args meth c cX9_layRoster 6 (some .int) RX9 1 24) {res : Int × g_M} (hR : g_RetI mG V p l e R s m args below meth c Q cX9_layRoster .int res.1 res.2) (x33 : Int)   : ∀ (f : Nat) (x34 : Int) (x35 : Int) (M36 : g_M) (H : Heap) (locs : List Loc) (ls : Array Slot), m_X9_layRoster_L50 x33  f x34 x35 M36 = some res → g_PT mG V M36 s H locs → lv_has ls 6 [(0, .ref (V.2.2 0)), (1, .int (gI x33)), (2, .int (gI x34)), (3, .int (gI x35))] → W p l e R s m args below meth c H locs 0 0 Q (F0 m 50 ls []) := by
  intro f
  induction f with
  | zero => intro x34 x35 M36 H locs ls h hp hl; cases h
  | succ f ih =>
    intro x34 x35 M36 H locs ls h hp hl
    rw [m_X9_layRoster_L50] at h
    refine lv_iload_n C.1 C.2.1 dX9_layRoster_50 rfl (lv_at hl 3 rfl) ?_
    refine r_if_eq (tgt := 176) C h dX9_layRoster_51 (by decide) (fun h => ?_) (fun h => ?_)
    · refine lv_iload_n C.1 C.2.1 dX9_layRoster_176 rfl (lv_at hl 2 rfl) ?_
      cases h
      exact hR _ _ _ _ dX9_layRoster_177 rfl hp
    · refine r_iconst C dX9_layRoster_54 ?_
      refine r_istore (lv' := fun x37 => [(4, .int (gI x37)), (0, .ref (V.2.2 0)), (1, .int (gI x33)), (2, .int (gI x34)), (3, .int (gI x35))]) C h dX9_layRoster_55 hl (by decide) (fun _ => rfl) (fun x37 ls h hl => ?_)
      refine r_iconst C dX9_layRoster_57 ?_
      refine r_istore (lv' := fun x38 => [(5, .int (gI x38)), (4, .int (gI x37)), (0, .ref (V.2.2 0)), (1, .int (gI x33)), (2, .int (gI x34)), (3, .int (gI x35))]) C h dX9_layRoster_58 hl (by decide) (fun _ => rfl) (fun x38 ls h hl => ?_)
      refine w_X9_layRoster_L60 C hR _ _ _ _ ?_ _ _ _ H locs ls h hp (lv_sub hl [2, 3, 4, 1, 0] rfl)
      · intro x48 H locs ls h hp hl
        refine r_jn (P := fun J => ∀ (x61 : Int) (M62 : g_M) (H : Heap) (locs : List Loc) (ls : Array Slot), J x61 M62 = some res → g_PT mG V M62 s H locs → lv_has ls 6 [(0, .ref (V.2.2 0)), (1, .int (gI x33)), (2, .int (gI x61))] → W p l e R s m args below meth c H locs 0 0 Q (F0 m 142 ls [])) h ?_ (fun J49 hJ49 h => ?_)
        · intro x61 M62 H locs ls h hp hl
          refine r_jn (P := fun J => ∀ (x68 : Int) (M69 : g_M) (H : Heap) (locs : List Loc) (ls : Array Slot), J x68 M69 = some res → g_PT mG V M69 s H locs → lv_has ls 6 [(0, .ref (V.2.2 0)), (1, .int (gI x33)), (2, .int (gI x61))] → W p l e R s m args below meth c H locs 0 0 Q (F0 m 172 ls [.int (gI x68)])) h ?_ (fun J64 hJ64 h => ?_)
          · intro x68 M69 H locs ls h hp hl
            refine r_istore_n (lv' := fun x70 => [(3, .int (gI x70)), (0, .ref (V.2.2 0)), (1, .int (gI x33)), (2, .int (gI x61))]) C h dX9_layRoster_172 rfl hl (by decide) (fun _ => rfl) (fun x70 ls h hl => ?_)
            refine r_goto (tgt := 50) C dX9_layRoster_173 (by decide) ?_
            exact ih _ _ _ _ _ _ h hp (lv_sub hl [1, 2, 3, 0] rfl)
          refine r_jn (P := fun J => ∀ (M67 : g_M) (H : Heap) (locs : List Loc) (ls : Array Slot), J M67 = some res → g_PT mG V M67 s H locs → lv_has ls 6 [(0, .ref (V.2.2 0)), (1, .int (gI x33)), (2, .int (gI x61))] → W p l e R s m args below meth c H locs 0 0 Q (F0 m 171 ls [])) h ?_ (fun J63 hJ63 h => ?_)
          · intro M67 H locs ls h hp hl
            refine r_iconst C dX9_layRoster_171 ?_
            exact hJ64 _ _ _ _ _ h hp hl
          refine lv_aload_n C.1 C.2.1 dX9_layRoster_142 rfl (lv_at hl 0 rfl) ?_
          refine r_getr (t := 1) C hp mk_0 ms_0 mc_0 min_0 (j := 0) (by decide) rfl gw_1256 rfl dX9_layRoster_143 ?_
          refine r_iconst C dX9_layRoster_146 ?_
          refine r_iald C hp h mk_1 ms_1 dX9_layRoster_147 (fun h => ?_)
          refine r_if_le (tgt := 171) C h dX9_layRoster_148 (by decide) (fun h => ?_) (fun h => ?_)
          · exact hJ63 _ _ _ _ h hp hl
          · refine lv_aload_n C.1 C.2.1 dX9_layRoster_151 rfl (lv_at hl 0 rfl) ?_
            refine lv_iload_n C.1 C.2.1 dX9_layRoster_152 rfl (lv_at hl 1 rfl) ?_
            refine lv_aload_n C.1 C.2.1 dX9_layRoster_153 rfl (lv_at hl 0 rfl) ?_
            refine r_getr (t := 1) C hp mk_0 ms_0 mc_0 min_0 (j := 0) (by decide) rfl gw_1256 rfl dX9_layRoster_154 ?_
            refine r_iconst C dX9_layRoster_157 ?_
            refine r_iald C hp h mk_1 ms_1 dX9_layRoster_158 (fun h => ?_)
            refine r_iconst C dX9_layRoster_159 ?_
            refine r_isub C dX9_layRoster_160 ?_
            obtain ⟨x65, M66, hr, h⟩ := bW_of h
            refine r_callVI (As := [.int (gI x33), .int (gI ((M62 1 (gs 0).toNat) - 1))]) (rest := []) C hl.1 hp (c_X9_isNextRow l C.2.2.2.2.2.2.2.2.2.2.2 hr) gw_1884 gw_1886 gw_110 mk_0 ms_0 mc_0 cal_X9_isNextRow rfl rfl (Nat.le_of_ble_eq_true rfl) ⟨Nat.le_of_ble_eq_true rfl, Nat.le_of_ble_eq_true rfl⟩ dX9_layRoster_161 (fun H locs hp => ?_)
            refine r_if_eq (tgt := 171) C h dX9_layRoster_164 (by decide) (fun h => ?_) (fun h => ?_)
            · exact hJ63 _ _ _ _ h hp hl
            · refine r_iconst C dX9_layRoster_167 ?_
              refine r_goto (tgt := 172) C dX9_layRoster_168 (by decide) ?_
              exact hJ64 _ _ _ _ _ h hp hl
        refine lv_iload C.1 C.2.1 dX9_layRoster_103 (lv_at hl 3 rfl) ?_
        refine lv_iload_n C.1 C.2.1 dX9_layRoster_105 rfl (lv_at hl 2 rfl) ?_
        refine r_icmp_le (tgt := 142) C h dX9_layRoster_106 (by decide) (fun h => ?_) (fun h => ?_)
        · exact hJ49 _ _ _ _ _ h hp (lv_sub hl [0, 1, 2] rfl)
        · refine lv_iload C.1 C.2.1 dX9_layRoster_109 (lv_at hl 3 rfl) ?_
          refine r_istore_n (lv' := fun x50 => [(2, .int (gI x50)), (0, .ref (V.2.2 0)), (1, .int (gI x33)), (4, .int (gI x48))]) C h dX9_layRoster_111 rfl hl (by decide) (fun _ => rfl) (fun x50 ls h hl => ?_)
          refine r_iconst C dX9_layRoster_112 ?_
          refine r_istore (lv' := fun x51 => [(5, .int (gI x51)), (2, .int (gI x50)), (0, .ref (V.2.2 0)), (1, .int (gI x33)), (4, .int (gI x48))]) C h dX9_layRoster_113 hl (by decide) (fun _ => rfl) (fun x51 ls h hl => ?_)
          refine w_X9_layRoster_L115 C hR _ _ _ ?_ _ _ _ H locs ls h hp (lv_sub hl [2, 3, 1, 0] rfl)
          · intro M60 H locs ls h hp hl
            exact hJ49 _ _ _ _ _ h hp hl
set_option maxRecDepth 100000 in
set_option maxHeartbeats 4000000 in
theorem b_X9_layRoster (C : g_CX mG V p R s m args meth c cX9_layRoster 6 (some .int) RX9 1 24) {res : Int × g_M} (hR : g_RetI mG V p l e R s m args below meth c Q cX9_layRoster .int res.1 res.2) {a1 : Int} {M : g_M} {H : Heap} {locs : List Loc} {ls : Array Slot} (h : m_X9_layRoster a1 M = some res) (hp : g_PT mG V M s H locs) (hl : lv_has ls 6 [(0, .ref (V.2.2 0)), (1, .int (gI a1))]) : W p l e R s m args below meth c H locs 0 0 Q (F0 m 0 ls []) := by
  unfold m_X9_layRoster at h
  refine r_iconst C dX9_layRoster_0 ?_
  refine r_istore_n (lv' := fun x11 => [(2, .int (gI x11)), (0, .ref (V.2.2 0)), (1, .int (gI a1))]) C h dX9_layRoster_1 rfl hl (by decide) (fun _ => rfl) (fun x11 ls h hl => ?_)
  refine w_X9_layRoster_L2 C hR _ _ ?_ _ _ _ H locs ls h hp (lv_sub hl [1, 2, 0] rfl)
  · intro M19 H locs ls h hp hl
    refine r_iconst C dX9_layRoster_20 ?_
    refine r_istore_n (lv' := fun x20 => [(2, .int (gI x20)), (0, .ref (V.2.2 0)), (1, .int (gI a1))]) C h dX9_layRoster_21 rfl hl (by decide) (fun _ => rfl) (fun x20 ls h hl => ?_)
    refine w_X9_layRoster_L22 C hR _ _ ?_ _ _ _ H locs ls h hp (lv_sub hl [1, 2, 0] rfl)
    · intro M28 H locs ls h hp hl
      refine r_iconst C dX9_layRoster_41 ?_
      refine r_istore_n (lv' := fun x29 => [(2, .int (gI x29)), (0, .ref (V.2.2 0)), (1, .int (gI a1))]) C h dX9_layRoster_42 rfl hl (by decide) (fun _ => rfl) (fun x29 ls h hl => ?_)
      refine lv_aload_n C.1 C.2.1 dX9_layRoster_43 rfl (lv_at hl 1 rfl) ?_
      refine lv_iload_n C.1 C.2.1 dX9_layRoster_44 rfl (lv_at hl 2 rfl) ?_
      refine r_iconst C dX9_layRoster_45 ?_
      obtain ⟨x30, M31, hr, h⟩ := bW_of h
      refine r_callVI (As := [.int (gI a1), .int (gI 0)]) (rest := []) C hl.1 hp (c_X9_isNextRow l C.2.2.2.2.2.2.2.2.2.2.2 hr) gw_1884 gw_1886 gw_110 mk_0 ms_0 mc_0 cal_X9_isNextRow rfl rfl (Nat.le_of_ble_eq_true rfl) ⟨Nat.le_of_ble_eq_true rfl, Nat.le_of_ble_eq_true rfl⟩ dX9_layRoster_46 (fun H locs hp => ?_)
      refine r_istore_n (lv' := fun x32 => [(3, .int (gI x32)), (2, .int (gI x29)), (0, .ref (V.2.2 0)), (1, .int (gI a1))]) C h dX9_layRoster_49 rfl hl (by decide) (fun _ => rfl) (fun x32 ls h hl => ?_)
      refine w_X9_layRoster_L50 C hR _ _ _ _ _ H locs ls h hp (lv_sub hl [2, 3, 1, 0] rfl)
theorem c_X9_layRoster (l : Launch) {V : g_V} (hok : g_ok mG V) {a1 : Int} {M : g_M} {x : Int} {M2 : g_M} (h : m_X9_layRoster a1 M = some (x, M2)) : MetI mG V l yX9_layRoster cX9_layRoster 6 (some .int) 1 24 [.ref (V.2.2 0), .int (gI a1)] M x M2 :=
  g_metI hok cal_X9_layRoster.2.2.2 rfl (Nat.le_of_ble_eq_true rfl) (@fun p e R s m args below meth c Q ls C hR hp hl => b_X9_layRoster C hR h hp hl)
set_option maxRecDepth 100000 in
set_option maxHeartbeats 4000000 in
theorem b_X9_roster (C : g_CX mG V p R s m args meth c cX9_roster 4 (some .int) RX9 2 49) {res : Int × g_M} (hR : g_RetI mG V p l e R s m args below meth c Q cX9_roster .int res.1 res.2) {a1 : Int} {a2 : Int} {M : g_M} {H : Heap} {locs : List Loc} {ls : Array Slot} (h : m_X9_roster a1 a2 M = some res) (hp : g_PT mG V M s H locs) (hl : lv_has ls 4 [(0, .ref (V.2.2 0)), (1, .int (gI a1)), (2, .int (gI a2))]) : W p l e R s m args below meth c H locs 0 0 Q (F0 m 0 ls []) := by
  unfold m_X9_roster at h
  refine lv_iload_n C.1 C.2.1 dX9_roster_0 rfl (lv_at hl 1 rfl) ?_
  refine r_iconst C dX9_roster_1 ?_
  refine r_bipush C dX9_roster_2 (by decide +kernel) ?_
  obtain ⟨x11, hr, h⟩ := bd_of h
  refine r_callSI (As := [.int (gI a1), .int (gI 1), .int (gI 8)]) (rest := []) C hl.1 hp (c_X9_isIn l C.2.2.2.2.2.2.2.2.2.2.2 hr) gw_1378 gw_1379 cal_X9_isIn rfl rfl (Nat.le_of_ble_eq_true rfl) ⟨Nat.le_of_ble_eq_true rfl, Nat.le_of_ble_eq_true rfl⟩ dX9_roster_4 (fun H locs hp => ?_)
  refine r_if_eq (tgt := 35) C h dX9_roster_7 (by decide) (fun h => ?_) (fun h => ?_)
  · refine r_iconst C dX9_roster_35 ?_
    cases h
    exact hR _ _ _ _ dX9_roster_36 rfl hp
  · refine r_jn (P := fun J => ∀  (H : Heap) (locs : List Loc) (ls : Array Slot), J  = some res → g_PT mG V M s H locs → lv_has ls 4 [(0, .ref (V.2.2 0)), (1, .int (gI a1)), (2, .int (gI a2))] → W p l e R s m args below meth c H locs 0 0 Q (F0 m 23 ls [])) h ?_ (fun J12 hJ12 h => ?_)
    · intro  H locs ls h hp hl
      refine lv_aload_n C.1 C.2.1 dX9_roster_23 rfl (lv_at hl 0 rfl) ?_
      refine r_getr (t := 1) C hp mk_0 ms_0 mc_0 min_0 (j := 0) (by decide) rfl gw_1256 rfl dX9_roster_24 ?_
      refine r_iconst C dX9_roster_27 ?_
      refine r_iald C hp h mk_1 ms_1 dX9_roster_28 (fun h => ?_)
      refine r_iconst C dX9_roster_29 ?_
      refine lv_iload_n C.1 C.2.1 dX9_roster_30 rfl (lv_at hl 1 rfl) ?_
      refine r_imul C dX9_roster_31 ?_
      refine r_icmp_le (tgt := 37) C h dX9_roster_32 (by decide) (fun h => ?_) (fun h => ?_)
      · refine lv_aload_n C.1 C.2.1 dX9_roster_37 rfl (lv_at hl 0 rfl) ?_
        refine lv_iload_n C.1 C.2.1 dX9_roster_38 rfl (lv_at hl 1 rfl) ?_
        obtain ⟨x14, M15, hr, h⟩ := bW_of h
        refine r_callVI (As := [.int (gI a1)]) (rest := []) C hl.1 hp (c_X9_layRoster l C.2.2.2.2.2.2.2.2.2.2.2 hr) gw_1880 gw_1882 gw_109 mk_0 ms_0 mc_0 cal_X9_layRoster rfl rfl (Nat.le_of_ble_eq_true rfl) ⟨Nat.le_of_ble_eq_true rfl, Nat.le_of_ble_eq_true rfl⟩ dX9_roster_39 (fun H locs hp => ?_)
        refine r_istore_n (lv' := fun x16 => [(3, .int (gI x16)), (0, .ref (V.2.2 0)), (1, .int (gI a1)), (2, .int (gI a2))]) C h dX9_roster_42 rfl hl (by decide) (fun _ => rfl) (fun x16 ls h hl => ?_)
        refine lv_iload_n C.1 C.2.1 dX9_roster_43 rfl (lv_at hl 3 rfl) ?_
        refine r_iconst C dX9_roster_44 ?_
        refine r_icmp_ne (tgt := 52) C h dX9_roster_45 (by decide) (fun h => ?_) (fun h => ?_)
        · refine lv_aload_n C.1 C.2.1 dX9_roster_52 rfl (lv_at hl 1 rfl) ?_
          refine r_getr (t := 16) C hp mk_0 ms_0 mc_0 min_0 (j := 34) (by decide) rfl gw_1290 rfl dX9_roster_53 ?_
          refine lv_iload_n C.1 C.2.1 dX9_roster_56 rfl (lv_at hl 3 rfl) ?_
          refine r_iald C hp h mk_16 ms_16 dX9_roster_57 (fun h => ?_)
          cases h
          exact hR _ _ _ _ dX9_roster_58 rfl hp
        · refine lv_iload_n C.1 C.2.1 dX9_roster_48 rfl (lv_at hl 0 rfl) ?_
          refine r_goto (tgt := 58) C dX9_roster_49 (by decide) ?_
          cases h
          exact hR _ _ _ _ dX9_roster_58 rfl hp
      · refine r_iconst C dX9_roster_35 ?_
        cases h
        exact hR _ _ _ _ dX9_roster_36 rfl hp
    refine lv_iload_n C.1 C.2.1 dX9_roster_10 rfl (lv_at hl 2 rfl) ?_
    refine r_iconst C dX9_roster_11 ?_
    refine r_icmp_eq (tgt := 23) C h dX9_roster_12 (by decide) (fun h => ?_) (fun h => ?_)
    · exact hJ12  _ _ _ h hp hl
    · refine lv_aload_n C.1 C.2.1 dX9_roster_15 rfl (lv_at hl 0 rfl) ?_
      refine lv_iload_n C.1 C.2.1 dX9_roster_16 rfl (lv_at hl 2 rfl) ?_
      obtain ⟨x13, hr, h⟩ := bd_of h
      refine r_callVI (As := [.int (gI a2)]) (rest := []) C hl.1 hp (c_X9_isPerson l C.2.2.2.2.2.2.2.2.2.2.2 hr) gw_1587 gw_1589 gw_78 mk_0 ms_0 mc_0 cal_X9_isPerson rfl rfl (Nat.le_of_ble_eq_true rfl) ⟨Nat.le_of_ble_eq_true rfl, Nat.le_of_ble_eq_true rfl⟩ dX9_roster_17 (fun H locs hp => ?_)
      refine r_if_eq (tgt := 35) C h dX9_roster_20 (by decide) (fun h => ?_) (fun h => ?_)
      · refine r_iconst C dX9_roster_35 ?_
        cases h
        exact hR _ _ _ _ dX9_roster_36 rfl hp
      · exact hJ12  _ _ _ h hp hl
theorem c_X9_roster (l : Launch) {V : g_V} (hok : g_ok mG V) {a1 : Int} {a2 : Int} {M : g_M} {x : Int} {M2 : g_M} (h : m_X9_roster a1 a2 M = some (x, M2)) : MetI mG V l yX9_roster cX9_roster 4 (some .int) 2 49 [.ref (V.2.2 0), .int (gI a1), .int (gI a2)] M x M2 :=
  g_metI hok cal_X9_roster.2.2.2 rfl (Nat.le_of_ble_eq_true rfl) (@fun p e R s m args below meth c Q ls C hR hp hl => b_X9_roster C hR h hp hl)
set_option maxRecDepth 100000 in
set_option maxHeartbeats 4000000 in
theorem b_X9_felt (C : g_CX mG V p R s m args meth c cX9_felt 3 (some .int) RX9 2 43) {res : Int × g_M} (hR : g_RetI mG V p l e R s m args below meth c Q cX9_felt .int res.1 res.2) {a1 : Int} {a2 : Int} {M : g_M} {H : Heap} {locs : List Loc} {ls : Array Slot} (h : m_X9_felt a1 a2 M = some res) (hp : g_PT mG V M s H locs) (hl : lv_has ls 3 [(0, .ref (V.2.2 0)), (1, .int (gI a1)), (2, .int (gI a2))]) : W p l e R s m args below meth c H locs 0 0 Q (F0 m 0 ls []) := by
  unfold m_X9_felt at h
  refine lv_iload_n C.1 C.2.1 dX9_felt_0 rfl (lv_at hl 1 rfl) ?_
  refine r_iconst C dX9_felt_1 ?_
  refine r_icmp_ne (tgt := 14) C h dX9_felt_2 (by decide) (fun h => ?_) (fun h => ?_)
  · refine lv_aload_n C.1 C.2.1 dX9_felt_14 rfl (lv_at hl 0 rfl) ?_
    refine lv_iload_n C.1 C.2.1 dX9_felt_15 rfl (lv_at hl 1 rfl) ?_
    obtain ⟨x11, hr, h⟩ := bd_of h
    refine r_callVI (As := [.int (gI a1)]) (rest := []) C hl.1 hp (c_X9_isPerson l C.2.2.2.2.2.2.2.2.2.2.2 hr) gw_1587 gw_1589 gw_78 mk_0 ms_0 mc_0 cal_X9_isPerson rfl rfl (Nat.le_of_ble_eq_true rfl) ⟨Nat.le_of_ble_eq_true rfl, Nat.le_of_ble_eq_true rfl⟩ dX9_felt_16 (fun H locs hp => ?_)
    refine r_if_eq (tgt := 43) C h dX9_felt_19 (by decide) (fun h => ?_) (fun h => ?_)
    · refine r_bipush C dX9_felt_43 (by decide +kernel) ?_
      cases h
      exact hR _ _ _ _ dX9_felt_45 rfl hp
    · refine lv_iload_n C.1 C.2.1 dX9_felt_22 rfl (lv_at hl 2 rfl) ?_
      refine r_iconst C dX9_felt_23 ?_
      refine r_bipush C dX9_felt_24 (by decide +kernel) ?_
      obtain ⟨x12, hr, h⟩ := bd_of h
      refine r_callSI (As := [.int (gI a2), .int (gI 0), .int (gI 99)]) (rest := []) C hl.1 hp (c_X9_isIn l C.2.2.2.2.2.2.2.2.2.2.2 hr) gw_1378 gw_1379 cal_X9_isIn rfl rfl (Nat.le_of_ble_eq_true rfl) ⟨Nat.le_of_ble_eq_true rfl, Nat.le_of_ble_eq_true rfl⟩ dX9_felt_26 (fun H locs hp => ?_)
      refine r_if_eq (tgt := 43) C h dX9_felt_29 (by decide) (fun h => ?_) (fun h => ?_)
      · refine r_bipush C dX9_felt_43 (by decide +kernel) ?_
        cases h
        exact hR _ _ _ _ dX9_felt_45 rfl hp
      · refine lv_aload_n C.1 C.2.1 dX9_felt_32 rfl (lv_at hl 0 rfl) ?_
        refine r_getr (t := 1) C hp mk_0 ms_0 mc_0 min_0 (j := 0) (by decide) rfl gw_1256 rfl dX9_felt_33 ?_
        refine r_iconst C dX9_felt_36 ?_
        refine r_iald C hp h mk_1 ms_1 dX9_felt_37 (fun h => ?_)
        refine r_bipush C dX9_felt_38 (by decide +kernel) ?_
        refine r_icmp_ne (tgt := 46) C h dX9_felt_40 (by decide) (fun h => ?_) (fun h => ?_)
        · refine lv_aload_n C.1 C.2.1 dX9_felt_46 rfl (lv_at hl 0 rfl) ?_
          refine r_getr (t := 1) C hp mk_0 ms_0 mc_0 min_0 (j := 0) (by decide) rfl gw_1256 rfl dX9_felt_47 ?_
          refine r_sipush C dX9_felt_50 (by decide +kernel) ?_
          refine r_iconst C dX9_felt_53 ?_
          refine lv_aload_n C.1 C.2.1 dX9_felt_54 rfl (lv_at hl 0 rfl) ?_
          refine r_getr (t := 1) C hp mk_0 ms_0 mc_0 min_0 (j := 0) (by decide) rfl gw_1256 rfl dX9_felt_55 ?_
          refine r_iconst C dX9_felt_58 ?_
          refine r_iald C hp h mk_1 ms_1 dX9_felt_59 (fun h => ?_)
          refine r_imul C dX9_felt_60 ?_
          refine r_iadd C dX9_felt_61 ?_
          refine lv_iload_n C.1 C.2.1 dX9_felt_62 rfl (lv_at hl 1 rfl) ?_
          refine r_iast C hp h mk_1 ms_1 dX9_felt_63 (fun M13 H locs h hp => ?_)
          refine lv_aload_n C.1 C.2.1 dX9_felt_64 rfl (lv_at hl 0 rfl) ?_
          refine r_getr (t := 1) C hp mk_0 ms_0 mc_0 min_0 (j := 0) (by decide) rfl gw_1256 rfl dX9_felt_65 ?_
          refine r_sipush C dX9_felt_68 (by decide +kernel) ?_
          refine r_iconst C dX9_felt_71 ?_
          refine lv_aload_n C.1 C.2.1 dX9_felt_72 rfl (lv_at hl 0 rfl) ?_
          refine r_getr (t := 1) C hp mk_0 ms_0 mc_0 min_0 (j := 0) (by decide) rfl gw_1256 rfl dX9_felt_73 ?_
          refine r_iconst C dX9_felt_76 ?_
          refine r_iald C hp h mk_1 ms_1 dX9_felt_77 (fun h => ?_)
          refine r_imul C dX9_felt_78 ?_
          refine r_iadd C dX9_felt_79 ?_
          refine r_iconst C dX9_felt_80 ?_
          refine r_iadd C dX9_felt_81 ?_
          refine lv_iload_n C.1 C.2.1 dX9_felt_82 rfl (lv_at hl 2 rfl) ?_
          refine r_iast C hp h mk_1 ms_1 dX9_felt_83 (fun M14 H locs h hp => ?_)
          refine lv_aload_n C.1 C.2.1 dX9_felt_84 rfl (lv_at hl 0 rfl) ?_
          refine r_getr (t := 1) C hp mk_0 ms_0 mc_0 min_0 (j := 0) (by decide) rfl gw_1256 rfl dX9_felt_85 ?_
          refine r_iconst C dX9_felt_88 ?_
          refine lv_dup2_11 C.1 C.2.1 dX9_felt_89 rfl rfl ?_
          refine r_iald C hp h mk_1 ms_1 dX9_felt_90 (fun h => ?_)
          refine r_iconst C dX9_felt_91 ?_
          refine r_iadd C dX9_felt_92 ?_
          refine r_iast C hp h mk_1 ms_1 dX9_felt_93 (fun M15 H locs h hp => ?_)
          refine lv_aload_n C.1 C.2.1 dX9_felt_94 rfl (lv_at hl 0 rfl) ?_
          refine r_getr (t := 1) C hp mk_0 ms_0 mc_0 min_0 (j := 0) (by decide) rfl gw_1256 rfl dX9_felt_95 ?_
          refine r_iconst C dX9_felt_98 ?_
          refine r_iald C hp h mk_1 ms_1 dX9_felt_99 (fun h => ?_)
          cases h
          exact hR _ _ _ _ dX9_felt_100 rfl hp
        · refine r_bipush C dX9_felt_43 (by decide +kernel) ?_
          cases h
          exact hR _ _ _ _ dX9_felt_45 rfl hp
  · refine lv_aload_n C.1 C.2.1 dX9_felt_5 rfl (lv_at hl 0 rfl) ?_
    refine r_getr (t := 1) C hp mk_0 ms_0 mc_0 min_0 (j := 0) (by decide) rfl gw_1256 rfl dX9_felt_6 ?_
    refine r_iconst C dX9_felt_9 ?_
    refine r_iconst C dX9_felt_10 ?_
    refine r_iast C hp h mk_1 ms_1 dX9_felt_11 (fun M16 H locs h hp => ?_)
    refine r_iconst C dX9_felt_12 ?_
    cases h
    exact hR _ _ _ _ dX9_felt_13 rfl hp
theorem c_X9_felt (l : Launch) {V : g_V} (hok : g_ok mG V) {a1 : Int} {a2 : Int} {M : g_M} {x : Int} {M2 : g_M} (h : m_X9_felt a1 a2 M = some (x, M2)) : MetI mG V l yX9_felt cX9_felt 3 (some .int) 2 43 [.ref (V.2.2 0), .int (gI a1), .int (gI a2)] M x M2 :=
  g_metI hok cal_X9_felt.2.2.2 rfl (Nat.le_of_ble_eq_true rfl) (@fun p e R s m args below meth c Q ls C hR hp hl => b_X9_felt C hR h hp hl)
set_option maxRecDepth 100000 in
set_option maxHeartbeats 4000000 in
theorem w_X9_whose_L19 (C : g_CX mG V p R s m args meth c cX9_whose 5 (some .int) RX9 5 122) {res : Int × g_M} (hR : g_RetI mG V p l e R s m args below meth c Q cX9_whose .int res.1 res.2) (x18 : Int) (x19 : Int) (k23 : Int → g_M → Option (Int × g_M)) (hk23 : ∀ (x33 : Int) (M34 : g_M) (H : Heap) (locs : List Loc) (ls : Array Slot), k23 x33 M34 = some res → g_PT mG V M34 s H locs → lv_has ls 5 [(0, .ref (V.2.2 0)), (1, .int (gI x18)), (2, .int (gI x19)), (3, .int (gI x33))] → W p l e R s m args below meth c H locs 0 0 Q (F0 m 83 ls [])) : ∀ (f : Nat) (x20 : Int) (x21 : Int) (M22 : g_M) (H : Heap) (locs : List Loc) (ls : Array Slot), m_X9_whose_L19 x18 x19 k23 f x20 x21 M22 = some res → g_PT mG V M22 s H locs → lv_has ls 5 [(0, .ref (V.2.2 0)), (1, .int (gI x18)), (2, .int (gI x19)), (3, .int (gI x20)), (4, .int (gI x21))] → W p l e R s m args below meth c H locs 0 0 Q (F0 m 19 ls []) := by
  intro f
  induction f with
  | zero => intro x20 x21 M22 H locs ls h hp hl; cases h
  | succ f ih =>
    intro x20 x21 M22 H locs ls h hp hl
    rw [m_X9_whose_L19] at h
    refine lv_iload C.1 C.2.1 dX9_whose_19 (lv_at hl 4 rfl) ?_
    refine lv_aload_n C.1 C.2.1 dX9_whose_21 rfl (lv_at hl 0 rfl) ?_
    refine r_getr (t := 1) C hp mk_0 ms_0 mc_0 min_0 (j := 0) (by decide) rfl gw_1256 rfl dX9_whose_22 ?_
    refine r_iconst C dX9_whose_25 ?_
    refine r_iald C hp h mk_1 ms_1 dX9_whose_26 (fun h => ?_)
    refine r_icmp_ge (tgt := 83) C h dX9_whose_27 (by decide) (fun h => ?_) (fun h => ?_)
    · exact hk23 _ _ _ _ _ h hp (lv_sub hl [0, 1, 2, 3] rfl)
    · refine r_jn (P := fun J => ∀ (x29 : Int) (M30 : g_M) (H : Heap) (locs : List Loc) (ls : Array Slot), J x29 M30 = some res → g_PT mG V M30 s H locs → lv_has ls 5 [(0, .ref (V.2.2 0)), (1, .int (gI x18)), (2, .int (gI x19)), (4, .int (gI x21))] → W p l e R s m args below meth c H locs 0 0 Q (F0 m 76 ls [.int (gI x29)])) h ?_ (fun J25 hJ25 h => ?_)
      · intro x29 M30 H locs ls h hp hl
        refine r_istore_n (lv' := fun x31 => [(3, .int (gI x31)), (0, .ref (V.2.2 0)), (1, .int (gI x18)), (2, .int (gI x19)), (4, .int (gI x21))]) C h dX9_whose_76 rfl hl (by decide) (fun _ => rfl) (fun x31 ls h hl => ?_)
        refine r_iinc (lv' := fun x32 => [(4, .int (gI x32)), (3, .int (gI x31)), (0, .ref (V.2.2 0)), (1, .int (gI x18)), (2, .int (gI x19))]) C h dX9_whose_77 hl (j := 4) rfl (by decide) (fun _ => rfl) (fun x32 ls h hl => ?_)
        refine r_goto (tgt := 19) C dX9_whose_80 (by decide) ?_
        exact ih _ _ _ _ _ _ h hp (lv_sub hl [2, 3, 4, 1, 0] rfl)
      refine r_jn (P := fun J => ∀ (M28 : g_M) (H : Heap) (locs : List Loc) (ls : Array Slot), J M28 = some res → g_PT mG V M28 s H locs → lv_has ls 5 [(0, .ref (V.2.2 0)), (1, .int (gI x18)), (2, .int (gI x19)), (4, .int (gI x21))] → W p l e R s m args below meth c H locs 0 0 Q (F0 m 75 ls [])) h ?_ (fun J24 hJ24 h => ?_)
      · intro M28 H locs ls h hp hl
        refine r_iconst C dX9_whose_75 ?_
        exact hJ25 _ _ _ _ _ h hp hl
      refine lv_iload_n C.1 C.2.1 dX9_whose_30 rfl (lv_at hl 3 rfl) ?_
      refine r_if_eq (tgt := 75) C h dX9_whose_31 (by decide) (fun h => ?_) (fun h => ?_)
      · exact hJ24 _ _ _ _ h hp (lv_sub hl [0, 1, 2, 4] rfl)
      · refine lv_aload_n C.1 C.2.1 dX9_whose_34 rfl (lv_at hl 0 rfl) ?_
        refine lv_iload_n C.1 C.2.1 dX9_whose_35 rfl (lv_at hl 2 rfl) ?_
        refine lv_aload_n C.1 C.2.1 dX9_whose_36 rfl (lv_at hl 0 rfl) ?_
        refine r_getr (t := 1) C hp mk_0 ms_0 mc_0 min_0 (j := 0) (by decide) rfl gw_1256 rfl dX9_whose_37 ?_
        refine r_sipush C dX9_whose_40 (by decide +kernel) ?_
        refine r_iconst C dX9_whose_43 ?_
        refine lv_iload C.1 C.2.1 dX9_whose_44 (lv_at hl 4 rfl) ?_
        refine r_imul C dX9_whose_46 ?_
        refine r_iadd C dX9_whose_47 ?_
        refine r_iald C hp h mk_1 ms_1 dX9_whose_48 (fun h => ?_)
        refine r_iconst C dX9_whose_49 ?_
        obtain ⟨x26, M27, hr, h⟩ := bW_of h
        refine r_callVI (As := [.int (gI x19), .int (gI (M22 1 (gs (183 + (2 * x21))).toNat)), .int (gI 1)]) (rest := []) C hl.1 hp (c_X9_gladdensOf l C.2.2.2.2.2.2.2.2.2.2.2 hr) gw_1695 gw_1697 gw_95 mk_0 ms_0 mc_0 cal_X9_gladdensOf rfl rfl (Nat.le_of_ble_eq_true rfl) ⟨Nat.le_of_ble_eq_true rfl, Nat.le_of_ble_eq_true rfl⟩ dX9_whose_50 (fun H locs hp => ?_)
        refine lv_aload_n C.1 C.2.1 dX9_whose_53 rfl (lv_at hl 0 rfl) ?_
        refine r_getr (t := 1) C hp mk_0 ms_0 mc_0 min_0 (j := 0) (by decide) rfl gw_1256 rfl dX9_whose_54 ?_
        refine r_sipush C dX9_whose_57 (by decide +kernel) ?_
        refine r_iconst C dX9_whose_60 ?_
        refine lv_iload C.1 C.2.1 dX9_whose_61 (lv_at hl 4 rfl) ?_
        refine r_imul C dX9_whose_63 ?_
        refine r_iadd C dX9_whose_64 ?_
        refine r_iconst C dX9_whose_65 ?_
        refine r_iadd C dX9_whose_66 ?_
        refine r_iald C hp h mk_1 ms_1 dX9_whose_67 (fun h => ?_)
        refine r_icmp_ne (tgt := 75) C h dX9_whose_68 (by decide) (fun h => ?_) (fun h => ?_)
        · exact hJ24 _ _ _ _ h hp (lv_sub hl [0, 1, 2, 4] rfl)
        · refine r_iconst C dX9_whose_71 ?_
          refine r_goto (tgt := 76) C dX9_whose_72 (by decide) ?_
          exact hJ25 _ _ _ _ _ h hp (lv_sub hl [0, 1, 2, 4] rfl)
set_option maxRecDepth 100000 in
set_option maxHeartbeats 4000000 in
theorem w_X9_whose_L4 (C : g_CX mG V p R s m args meth c cX9_whose 5 (some .int) RX9 5 122) {res : Int × g_M} (hR : g_RetI mG V p l e R s m args below meth c Q cX9_whose .int res.1 res.2)    : ∀ (f : Nat) (x13 : Int) (x14 : Int) (M15 : g_M) (H : Heap) (locs : List Loc) (ls : Array Slot), m_X9_whose_L4  f x13 x14 M15 = some res → g_PT mG V M15 s H locs → lv_has ls 5 [(0, .ref (V.2.2 0)), (1, .int (gI x13)), (2, .int (gI x14))] → W p l e R s m args below meth c H locs 0 0 Q (F0 m 4 ls []) := by
  intro f
  induction f with
  | zero => intro x13 x14 M15 H locs ls h hp hl; cases h
  | succ f ih =>
    intro x13 x14 M15 H locs ls h hp hl
    rw [m_X9_whose_L4] at h
    refine lv_iload_n C.1 C.2.1 dX9_whose_4 rfl (lv_at hl 2 rfl) ?_
    refine lv_aload_n C.1 C.2.1 dX9_whose_5 rfl (lv_at hl 0 rfl) ?_
    refine r_getr (t := 1) C hp mk_0 ms_0 mc_0 min_0 (j := 0) (by decide) rfl gw_1256 rfl dX9_whose_6 ?_
    refine r_iconst C dX9_whose_9 ?_
    refine r_iald C hp h mk_1 ms_1 dX9_whose_10 (fun h => ?_)
    refine r_icmp_ge (tgt := 103) C h dX9_whose_11 (by decide) (fun h => ?_) (fun h => ?_)
    · refine lv_iload_n C.1 C.2.1 dX9_whose_103 rfl (lv_at hl 1 rfl) ?_
      cases h
      exact hR _ _ _ _ dX9_whose_104 rfl hp
    · refine r_iconst C dX9_whose_14 ?_
      refine r_istore_n (lv' := fun x16 => [(3, .int (gI x16)), (0, .ref (V.2.2 0)), (1, .int (gI x13)), (2, .int (gI x14))]) C h dX9_whose_15 rfl hl (by decide) (fun _ => rfl) (fun x16 ls h hl => ?_)
      refine r_iconst C dX9_whose_16 ?_
      refine r_istore (lv' := fun x17 => [(4, .int (gI x17)), (3, .int (gI x16)), (0, .ref (V.2.2 0)), (1, .int (gI x13)), (2, .int (gI x14))]) C h dX9_whose_17 hl (by decide) (fun _ => rfl) (fun x17 ls h hl => ?_)
      refine w_X9_whose_L19 C hR _ _ _ ?_ _ _ _ _ H locs ls h hp (lv_sub hl [2, 3, 4, 1, 0] rfl)
      · intro x35 M36 H locs ls h hp hl
        refine r_jn (P := fun J => ∀ (x38 : Int) (x39 : Int) (H : Heap) (locs : List Loc) (ls : Array Slot), J x38 x39 = some res → g_PT mG V M36 s H locs → lv_has ls 5 [(0, .ref (V.2.2 0)), (2, .int (gI x14))] → W p l e R s m args below meth c H locs 0 0 Q (F0 m 95 ls [.int (gI x38), .int (gI x39)])) h ?_ (fun J37 hJ37 h => ?_)
        · intro x38 x39 H locs ls h hp hl
          refine r_ior C dX9_whose_95 ?_
          refine r_istore_n (lv' := fun x40 => [(1, .int (gI x40)), (0, .ref (V.2.2 0)), (2, .int (gI x14))]) C h dX9_whose_96 rfl hl (by decide) (fun _ => rfl) (fun x40 ls h hl => ?_)
          refine r_iinc (lv' := fun x41 => [(2, .int (gI x41)), (1, .int (gI x40)), (0, .ref (V.2.2 0))]) C h dX9_whose_97 hl (j := 2) rfl (by decide) (fun _ => rfl) (fun x41 ls h hl => ?_)
          refine r_goto (tgt := 4) C dX9_whose_100 (by decide) ?_
          exact ih _ _ _ _ _ _ h hp (lv_sub hl [2, 1, 0] rfl)
        refine lv_iload_n C.1 C.2.1 dX9_whose_83 rfl (lv_at hl 1 rfl) ?_
        refine lv_iload_n C.1 C.2.1 dX9_whose_84 rfl (lv_at hl 3 rfl) ?_
        refine r_if_eq (tgt := 94) C h dX9_whose_85 (by decide) (fun h => ?_) (fun h => ?_)
        · refine r_iconst C dX9_whose_94 ?_
          exact hJ37 _ _ _ _ _ h hp (lv_sub hl [0, 2] rfl)
        · refine r_iconst C dX9_whose_88 ?_
          refine lv_iload_n C.1 C.2.1 dX9_whose_89 rfl (lv_at hl 2 rfl) ?_
          refine r_ishl C dX9_whose_90 ?_
          refine r_goto (tgt := 95) C dX9_whose_91 (by decide) ?_
          exact hJ37 _ _ _ _ _ h hp (lv_sub hl [0, 2] rfl)
set_option maxRecDepth 100000 in
set_option maxHeartbeats 4000000 in
theorem b_X9_whose (C : g_CX mG V p R s m args meth c cX9_whose 5 (some .int) RX9 5 122) {res : Int × g_M} (hR : g_RetI mG V p l e R s m args below meth c Q cX9_whose .int res.1 res.2)  {M : g_M} {H : Heap} {locs : List Loc} {ls : Array Slot} (h : m_X9_whose M = some res) (hp : g_PT mG V M s H locs) (hl : lv_has ls 5 [(0, .ref (V.2.2 0))]) : W p l e R s m args below meth c H locs 0 0 Q (F0 m 0 ls []) := by
  unfold m_X9_whose at h
  refine r_iconst C dX9_whose_0 ?_
  refine r_istore_n (lv' := fun x11 => [(1, .int (gI x11)), (0, .ref (V.2.2 0))]) C h dX9_whose_1 rfl hl (by decide) (fun _ => rfl) (fun x11 ls h hl => ?_)
  refine r_iconst C dX9_whose_2 ?_
  refine r_istore_n (lv' := fun x12 => [(2, .int (gI x12)), (1, .int (gI x11)), (0, .ref (V.2.2 0))]) C h dX9_whose_3 rfl hl (by decide) (fun _ => rfl) (fun x12 ls h hl => ?_)
  refine w_X9_whose_L4 C hR _ _ _ _ H locs ls h hp (lv_sub hl [2, 1, 0] rfl)
theorem c_X9_whose (l : Launch) {V : g_V} (hok : g_ok mG V)  {M : g_M} {x : Int} {M2 : g_M} (h : m_X9_whose M = some (x, M2)) : MetI mG V l yX9_whose cX9_whose 5 (some .int) 5 122 [.ref (V.2.2 0)] M x M2 :=
  g_metI hok cal_X9_whose.2.2.2 rfl (Nat.le_of_ble_eq_true rfl) (@fun p e R s m args below meth c Q ls C hR hp hl => b_X9_whose C hR h hp hl)
set_option maxRecDepth 100000 in
set_option maxHeartbeats 4000000 in
theorem w_X9_copy_1_2_L2 (C : g_CX mG V p R s m args meth c cX9_copy 3 none RX9 0 0) {res : g_M} (hR : g_RetV mG V p l e R s m args below meth c Q cX9_copy res)    : ∀ (f : Nat) (x12 : Int) (M13 : g_M) (H : Heap) (locs : List Loc) (ls : Array Slot), m_X9_copy_1_2_L2  f x12 M13 = some res → g_PT mG V M13 s H locs → lv_has ls 3 [(0, .ref (V.2.2 1)), (1, .ref (V.2.2 2)), (2, .int (gI x12))] → W p l e R s m args below meth c H locs 0 0 Q (F0 m 2 ls []) := by
  intro f
  induction f with
  | zero => intro x12 M13 H locs ls h hp hl; cases h
  | succ f ih =>
    intro x12 M13 H locs ls h hp hl
    rw [m_X9_copy_1_2_L2] at h
    refine lv_iload_n C.1 C.2.1 dX9_copy_2 rfl (lv_at hl 2 rfl) ?_
    refine r_sipush C dX9_copy_3 (by decide +kernel) ?_
    refine r_icmp_ge (tgt := 21) C h dX9_copy_6 (by decide) (fun h => ?_) (fun h => ?_)
    · cases h
      exact hR _ _ _ _ dX9_copy_21 hp
    · refine lv_aload_n C.1 C.2.1 dX9_copy_9 rfl (lv_at hl 1 rfl) ?_
      refine lv_iload_n C.1 C.2.1 dX9_copy_10 rfl (lv_at hl 2 rfl) ?_
      refine lv_aload_n C.1 C.2.1 dX9_copy_11 rfl (lv_at hl 0 rfl) ?_
      refine lv_iload_n C.1 C.2.1 dX9_copy_12 rfl (lv_at hl 2 rfl) ?_
      refine r_iald C hp h mk_1 ms_1 dX9_copy_13 (fun h => ?_)
      refine r_iast C hp h mk_2 ms_2 dX9_copy_14 (fun M14 H locs h hp => ?_)
      refine r_iinc (lv' := fun x15 => [(2, .int (gI x15)), (0, .ref (V.2.2 1)), (1, .ref (V.2.2 2))]) C h dX9_copy_15 hl (j := 2) rfl (by decide) (fun _ => rfl) (fun x15 ls h hl => ?_)
      refine r_goto (tgt := 2) C dX9_copy_18 (by decide) ?_
      exact ih _ _ _ _ _ h hp (lv_sub hl [1, 2, 0] rfl)
set_option maxRecDepth 100000 in
set_option maxHeartbeats 4000000 in
theorem b_X9_copy_1_2 (C : g_CX mG V p R s m args meth c cX9_copy 3 none RX9 0 0) {res : g_M} (hR : g_RetV mG V p l e R s m args below meth c Q cX9_copy res)  {M : g_M} {H : Heap} {locs : List Loc} {ls : Array Slot} (h : m_X9_copy_1_2 M = some res) (hp : g_PT mG V M s H locs) (hl : lv_has ls 3 [(0, .ref (V.2.2 1)), (1, .ref (V.2.2 2))]) : W p l e R s m args below meth c H locs 0 0 Q (F0 m 0 ls []) := by
  unfold m_X9_copy_1_2 at h
  refine r_iconst C dX9_copy_0 ?_
  refine r_istore_n (lv' := fun x11 => [(2, .int (gI x11)), (0, .ref (V.2.2 1)), (1, .ref (V.2.2 2))]) C h dX9_copy_1 rfl hl (by decide) (fun _ => rfl) (fun x11 ls h hl => ?_)
  refine w_X9_copy_1_2_L2 C hR _ _ _ H locs ls h hp (lv_sub hl [1, 2, 0] rfl)
theorem c_X9_copy_1_2 (l : Launch) {V : g_V} (hok : g_ok mG V)  {M : g_M} {res : g_M} (h : m_X9_copy_1_2 M = some res) : MetV mG V l yX9_copy cX9_copy 3 none 0 0 [.ref (V.2.2 1), .ref (V.2.2 2)] M res :=
  g_metV hok cal_X9_copy.2.2.2 rfl (Nat.le_of_ble_eq_true rfl) (@fun p e R s m args below meth c Q ls C hR hp hl => b_X9_copy_1_2 C hR h hp hl)
set_option maxRecDepth 100000 in
set_option maxHeartbeats 4000000 in
theorem b_X9_image (C : g_CX mG V p R s m args meth c cX9_image 1 (some .int) RX9 1 22) {res : Int × g_M} (hR : g_RetI mG V p l e R s m args below meth c Q cX9_image .int res.1 res.2)  {M : g_M} {H : Heap} {locs : List Loc} {ls : Array Slot} (h : m_X9_image M = some res) (hp : g_PT mG V M s H locs) (hl : lv_has ls 1 [(0, .ref (V.2.2 0))]) : W p l e R s m args below meth c H locs 0 0 Q (F0 m 0 ls []) := by
  unfold m_X9_image at h
  refine lv_aload_n C.1 C.2.1 dX9_image_0 rfl (lv_at hl 0 rfl) ?_
  refine r_getr (t := 1) C hp mk_0 ms_0 mc_0 min_0 (j := 0) (by decide) rfl gw_1256 rfl dX9_image_1 ?_
  refine lv_aload_n C.1 C.2.1 dX9_image_4 rfl (lv_at hl 0 rfl) ?_
  refine r_getr (t := 2) C hp mk_0 ms_0 mc_0 min_0 (j := 1) (by decide) rfl gw_1257 rfl dX9_image_5 ?_
  obtain ⟨M11, hr, h⟩ := bd_of h
  refine r_callSV (As := [.ref (V.2.2 1), .ref (V.2.2 2)]) (rest := []) C hl.1 hp (c_X9_copy_1_2 l C.2.2.2.2.2.2.2.2.2.2.2 hr) gw_1253 gw_1254 cal_X9_copy rfl rfl (Nat.le_of_ble_eq_true rfl) ⟨Nat.le_of_ble_eq_true rfl, Nat.le_of_ble_eq_true rfl⟩ dX9_image_8 (fun H locs hp => ?_)
  refine lv_aload_n C.1 C.2.1 dX9_image_11 rfl (lv_at hl 0 rfl) ?_
  refine r_getr (t := 1) C hp mk_0 ms_0 mc_0 min_0 (j := 0) (by decide) rfl gw_1256 rfl dX9_image_12 ?_
  refine r_bipush C dX9_image_15 (by decide +kernel) ?_
  refine r_iald C hp h mk_1 ms_1 dX9_image_17 (fun h => ?_)
  cases h
  exact hR _ _ _ _ dX9_image_18 rfl hp
theorem c_X9_image (l : Launch) {V : g_V} (hok : g_ok mG V)  {M : g_M} {x : Int} {M2 : g_M} (h : m_X9_image M = some (x, M2)) : MetI mG V l yX9_image cX9_image 1 (some .int) 1 22 [.ref (V.2.2 0)] M x M2 :=
  g_metI hok cal_X9_image.2.2.2 rfl (Nat.le_of_ble_eq_true rfl) (@fun p e R s m args below meth c Q ls C hR hp hl => b_X9_image C hR h hp hl)
set_option maxRecDepth 100000 in
set_option maxHeartbeats 4000000 in
theorem w_X9_copy_2_1_L2 (C : g_CX mG V p R s m args meth c cX9_copy 3 none RX9 0 0) {res : g_M} (hR : g_RetV mG V p l e R s m args below meth c Q cX9_copy res)    : ∀ (f : Nat) (x12 : Int) (M13 : g_M) (H : Heap) (locs : List Loc) (ls : Array Slot), m_X9_copy_2_1_L2  f x12 M13 = some res → g_PT mG V M13 s H locs → lv_has ls 3 [(0, .ref (V.2.2 2)), (1, .ref (V.2.2 1)), (2, .int (gI x12))] → W p l e R s m args below meth c H locs 0 0 Q (F0 m 2 ls []) := by
  intro f
  induction f with
  | zero => intro x12 M13 H locs ls h hp hl; cases h
  | succ f ih =>
    intro x12 M13 H locs ls h hp hl
    rw [m_X9_copy_2_1_L2] at h
    refine lv_iload_n C.1 C.2.1 dX9_copy_2 rfl (lv_at hl 2 rfl) ?_
    refine r_sipush C dX9_copy_3 (by decide +kernel) ?_
    refine r_icmp_ge (tgt := 21) C h dX9_copy_6 (by decide) (fun h => ?_) (fun h => ?_)
    · cases h
      exact hR _ _ _ _ dX9_copy_21 hp
    · refine lv_aload_n C.1 C.2.1 dX9_copy_9 rfl (lv_at hl 1 rfl) ?_
      refine lv_iload_n C.1 C.2.1 dX9_copy_10 rfl (lv_at hl 2 rfl) ?_
      refine lv_aload_n C.1 C.2.1 dX9_copy_11 rfl (lv_at hl 0 rfl) ?_
      refine lv_iload_n C.1 C.2.1 dX9_copy_12 rfl (lv_at hl 2 rfl) ?_
      refine r_iald C hp h mk_2 ms_2 dX9_copy_13 (fun h => ?_)
      refine r_iast C hp h mk_1 ms_1 dX9_copy_14 (fun M14 H locs h hp => ?_)
      refine r_iinc (lv' := fun x15 => [(2, .int (gI x15)), (0, .ref (V.2.2 2)), (1, .ref (V.2.2 1))]) C h dX9_copy_15 hl (j := 2) rfl (by decide) (fun _ => rfl) (fun x15 ls h hl => ?_)
      refine r_goto (tgt := 2) C dX9_copy_18 (by decide) ?_
      exact ih _ _ _ _ _ h hp (lv_sub hl [1, 2, 0] rfl)
set_option maxRecDepth 100000 in
set_option maxHeartbeats 4000000 in
theorem b_X9_copy_2_1 (C : g_CX mG V p R s m args meth c cX9_copy 3 none RX9 0 0) {res : g_M} (hR : g_RetV mG V p l e R s m args below meth c Q cX9_copy res)  {M : g_M} {H : Heap} {locs : List Loc} {ls : Array Slot} (h : m_X9_copy_2_1 M = some res) (hp : g_PT mG V M s H locs) (hl : lv_has ls 3 [(0, .ref (V.2.2 2)), (1, .ref (V.2.2 1))]) : W p l e R s m args below meth c H locs 0 0 Q (F0 m 0 ls []) := by
  unfold m_X9_copy_2_1 at h
  refine r_iconst C dX9_copy_0 ?_
  refine r_istore_n (lv' := fun x11 => [(2, .int (gI x11)), (0, .ref (V.2.2 2)), (1, .ref (V.2.2 1))]) C h dX9_copy_1 rfl hl (by decide) (fun _ => rfl) (fun x11 ls h hl => ?_)
  refine w_X9_copy_2_1_L2 C hR _ _ _ H locs ls h hp (lv_sub hl [1, 2, 0] rfl)
theorem c_X9_copy_2_1 (l : Launch) {V : g_V} (hok : g_ok mG V)  {M : g_M} {res : g_M} (h : m_X9_copy_2_1 M = some res) : MetV mG V l yX9_copy cX9_copy 3 none 0 0 [.ref (V.2.2 2), .ref (V.2.2 1)] M res :=
  g_metV hok cal_X9_copy.2.2.2 rfl (Nat.le_of_ble_eq_true rfl) (@fun p e R s m args below meth c Q ls C hR hp hl => b_X9_copy_2_1 C hR h hp hl)
set_option maxRecDepth 100000 in
set_option maxHeartbeats 4000000 in
theorem b_X9_back (C : g_CX mG V p R s m args meth c cX9_back 1 (some .int) RX9 1 22) {res : Int × g_M} (hR : g_RetI mG V p l e R s m args below meth c Q cX9_back .int res.1 res.2)  {M : g_M} {H : Heap} {locs : List Loc} {ls : Array Slot} (h : m_X9_back M = some res) (hp : g_PT mG V M s H locs) (hl : lv_has ls 1 [(0, .ref (V.2.2 0))]) : W p l e R s m args below meth c H locs 0 0 Q (F0 m 0 ls []) := by
  unfold m_X9_back at h
  refine lv_aload_n C.1 C.2.1 dX9_back_0 rfl (lv_at hl 0 rfl) ?_
  refine r_getr (t := 2) C hp mk_0 ms_0 mc_0 min_0 (j := 1) (by decide) rfl gw_1257 rfl dX9_back_1 ?_
  refine lv_aload_n C.1 C.2.1 dX9_back_4 rfl (lv_at hl 0 rfl) ?_
  refine r_getr (t := 1) C hp mk_0 ms_0 mc_0 min_0 (j := 0) (by decide) rfl gw_1256 rfl dX9_back_5 ?_
  obtain ⟨M11, hr, h⟩ := bd_of h
  refine r_callSV (As := [.ref (V.2.2 2), .ref (V.2.2 1)]) (rest := []) C hl.1 hp (c_X9_copy_2_1 l C.2.2.2.2.2.2.2.2.2.2.2 hr) gw_1253 gw_1254 cal_X9_copy rfl rfl (Nat.le_of_ble_eq_true rfl) ⟨Nat.le_of_ble_eq_true rfl, Nat.le_of_ble_eq_true rfl⟩ dX9_back_8 (fun H locs hp => ?_)
  refine lv_aload_n C.1 C.2.1 dX9_back_11 rfl (lv_at hl 0 rfl) ?_
  refine r_getr (t := 1) C hp mk_0 ms_0 mc_0 min_0 (j := 0) (by decide) rfl gw_1256 rfl dX9_back_12 ?_
  refine r_bipush C dX9_back_15 (by decide +kernel) ?_
  refine r_iald C hp h mk_1 ms_1 dX9_back_17 (fun h => ?_)
  cases h
  exact hR _ _ _ _ dX9_back_18 rfl hp
theorem c_X9_back (l : Launch) {V : g_V} (hok : g_ok mG V)  {M : g_M} {x : Int} {M2 : g_M} (h : m_X9_back M = some (x, M2)) : MetI mG V l yX9_back cX9_back 1 (some .int) 1 22 [.ref (V.2.2 0)] M x M2 :=
  g_metI hok cal_X9_back.2.2.2 rfl (Nat.le_of_ble_eq_true rfl) (@fun p e R s m args below meth c Q ls C hR hp hl => b_X9_back C hR h hp hl)
set_option maxRecDepth 100000 in
set_option maxHeartbeats 4000000 in
theorem b_X9_about (C : g_CX mG V p R s m args meth c cX9_about 2 (some .int) RX9 1 22) {res : Int} {M : g_M} (hR : g_RetI mG V p l e R s m args below meth c Q cX9_about .int res M) {a1 : Int} {H : Heap} {locs : List Loc} {ls : Array Slot} (h : m_X9_about a1 M = some res) (hp : g_PT mG V M s H locs) (hl : lv_has ls 2 [(0, .ref (V.2.2 0)), (1, .int (gI a1))]) : W p l e R s m args below meth c H locs 0 0 Q (F0 m 0 ls []) := by
  unfold m_X9_about at h
  refine lv_iload_n C.1 C.2.1 dX9_about_0 rfl (lv_at hl 1 rfl) ?_
  refine r_iconst C dX9_about_1 ?_
  refine r_iconst C dX9_about_2 ?_
  obtain ⟨x11, hr, h⟩ := bd_of h
  refine r_callSI (As := [.int (gI a1), .int (gI 0), .int (gI 5)]) (rest := []) C hl.1 hp (c_X9_isIn l C.2.2.2.2.2.2.2.2.2.2.2 hr) gw_1378 gw_1379 cal_X9_isIn rfl rfl (Nat.le_of_ble_eq_true rfl) ⟨Nat.le_of_ble_eq_true rfl, Nat.le_of_ble_eq_true rfl⟩ dX9_about_3 (fun H locs hp => ?_)
  refine r_if_eq (tgt := 18) C h dX9_about_6 (by decide) (fun h => ?_) (fun h => ?_)
  · refine lv_iload_n C.1 C.2.1 dX9_about_18 rfl (lv_at hl 1 rfl) ?_
    refine r_bipush C dX9_about_19 (by decide +kernel) ?_
    refine r_icmp_ne (tgt := 31) C h dX9_about_21 (by decide) (fun h => ?_) (fun h => ?_)
    · refine r_bipush C dX9_about_31 (by decide +kernel) ?_
      cases h
      exact hR _ _ _ _ dX9_about_33 rfl hp
    · refine lv_aload_n C.1 C.2.1 dX9_about_24 rfl (lv_at hl 0 rfl) ?_
      refine r_geti (t := 0) C hp mk_0 ms_0 mc_0 min_0 (j := 4) (by decide) rfl gw_1260 rfl dX9_about_25 ?_
      refine r_goto (tgt := 33) C dX9_about_28 (by decide) ?_
      cases h
      exact hR _ _ _ _ dX9_about_33 rfl hp
  · refine lv_aload_n C.1 C.2.1 dX9_about_9 rfl (lv_at hl 0 rfl) ?_
    refine r_getr (t := 1) C hp mk_0 ms_0 mc_0 min_0 (j := 0) (by decide) rfl gw_1256 rfl dX9_about_10 ?_
    refine lv_iload_n C.1 C.2.1 dX9_about_13 rfl (lv_at hl 1 rfl) ?_
    refine r_iald C hp h mk_1 ms_1 dX9_about_14 (fun h => ?_)
    refine r_goto (tgt := 33) C dX9_about_15 (by decide) ?_
    cases h
    exact hR _ _ _ _ dX9_about_33 rfl hp
theorem c_X9_about (l : Launch) {V : g_V} (hok : g_ok mG V) {a1 : Int} {M : g_M} {x : Int} (h : m_X9_about a1 M = some x) : MetI mG V l yX9_about cX9_about 2 (some .int) 1 22 [.ref (V.2.2 0), .int (gI a1)] M x M :=
  g_metI hok cal_X9_about.2.2.2 rfl (Nat.le_of_ble_eq_true rfl) (@fun p e R s m args below meth c Q ls C hR hp hl => b_X9_about C hR h hp hl)
end
