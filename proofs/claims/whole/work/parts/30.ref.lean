theorem dX9_isIn_0 : decode cX9_isIn 0 = .ok (.iload_n 0, 1) := by decide +kernel
theorem dX9_isIn_1 : decode cX9_isIn 1 = .ok (.iload_n 1, 1) := by decide +kernel
theorem dX9_isIn_2 : decode cX9_isIn 2 = .ok (.if_icmp .lt 12, 3) := by decide +kernel
theorem dX9_isIn_5 : decode cX9_isIn 5 = .ok (.iload_n 0, 1) := by decide +kernel
theorem dX9_isIn_6 : decode cX9_isIn 6 = .ok (.iload_n 2, 1) := by decide +kernel
theorem dX9_isIn_7 : decode cX9_isIn 7 = .ok (.if_icmp .gt 7, 3) := by decide +kernel
theorem dX9_isIn_10 : decode cX9_isIn 10 = .ok (.iconst 1, 1) := by decide +kernel
theorem dX9_isIn_11 : decode cX9_isIn 11 = .ok (.goto 4, 3) := by decide +kernel
theorem dX9_isIn_14 : decode cX9_isIn 14 = .ok (.iconst 0, 1) := by decide +kernel
theorem dX9_isIn_15 : decode cX9_isIn 15 = .ok (.ireturn, 1) := by decide +kernel
theorem dX9_cut_0 : decode cX9_cut 0 = .ok (.lload_n 0, 1) := by decide +kernel
theorem dX9_cut_1 : decode cX9_cut 1 = .ok (.iload_n 2, 1) := by decide +kernel
theorem dX9_cut_2 : decode cX9_cut 2 = .ok (.i2l, 1) := by decide +kernel
theorem dX9_cut_3 : decode cX9_cut 3 = .ok (.lcmp, 1) := by decide +kernel
theorem dX9_cut_4 : decode cX9_cut 4 = .ok (.ifCond .ge 7, 3) := by decide +kernel
theorem dX9_cut_7 : decode cX9_cut 7 = .ok (.iload_n 2, 1) := by decide +kernel
theorem dX9_cut_8 : decode cX9_cut 8 = .ok (.goto 16, 3) := by decide +kernel
theorem dX9_cut_11 : decode cX9_cut 11 = .ok (.lload_n 0, 1) := by decide +kernel
theorem dX9_cut_12 : decode cX9_cut 12 = .ok (.iload_n 3, 1) := by decide +kernel
theorem dX9_cut_13 : decode cX9_cut 13 = .ok (.i2l, 1) := by decide +kernel
theorem dX9_cut_14 : decode cX9_cut 14 = .ok (.lcmp, 1) := by decide +kernel
theorem dX9_cut_15 : decode cX9_cut 15 = .ok (.ifCond .le 7, 3) := by decide +kernel
theorem dX9_cut_18 : decode cX9_cut 18 = .ok (.iload_n 3, 1) := by decide +kernel
theorem dX9_cut_19 : decode cX9_cut 19 = .ok (.goto 5, 3) := by decide +kernel
theorem dX9_cut_22 : decode cX9_cut 22 = .ok (.lload_n 0, 1) := by decide +kernel
theorem dX9_cut_23 : decode cX9_cut 23 = .ok (.l2i, 1) := by decide +kernel
theorem dX9_cut_24 : decode cX9_cut 24 = .ok (.ireturn, 1) := by decide +kernel
theorem dX9_has_0 : decode cX9_has 0 = .ok (.iload_n 0, 1) := by decide +kernel
theorem dX9_has_1 : decode cX9_has 1 = .ok (.iload_n 1, 1) := by decide +kernel
theorem dX9_has_2 : decode cX9_has 2 = .ok (.ishr, 1) := by decide +kernel
theorem dX9_has_3 : decode cX9_has 3 = .ok (.iconst 1, 1) := by decide +kernel
theorem dX9_has_4 : decode cX9_has 4 = .ok (.iand, 1) := by decide +kernel
theorem dX9_has_5 : decode cX9_has 5 = .ok (.iconst 1, 1) := by decide +kernel
theorem dX9_has_6 : decode cX9_has 6 = .ok (.if_icmp .ne 7, 3) := by decide +kernel
theorem dX9_has_9 : decode cX9_has 9 = .ok (.iconst 1, 1) := by decide +kernel
theorem dX9_has_10 : decode cX9_has 10 = .ok (.goto 4, 3) := by decide +kernel
theorem dX9_has_13 : decode cX9_has 13 = .ok (.iconst 0, 1) := by decide +kernel
theorem dX9_has_14 : decode cX9_has 14 = .ok (.ireturn, 1) := by decide +kernel
theorem dX9_bits_0 : decode cX9_bits 0 = .ok (.iconst 0, 1) := by decide +kernel
theorem dX9_bits_1 : decode cX9_bits 1 = .ok (.istore_n 1, 1) := by decide +kernel
theorem dX9_bits_2 : decode cX9_bits 2 = .ok (.iload_n 0, 1) := by decide +kernel
theorem dX9_bits_3 : decode cX9_bits 3 = .ok (.istore_n 2, 1) := by decide +kernel
theorem dX9_bits_4 : decode cX9_bits 4 = .ok (.iload_n 2, 1) := by decide +kernel
theorem dX9_bits_5 : decode cX9_bits 5 = .ok (.ifCond .eq 15, 3) := by decide +kernel
theorem dX9_bits_8 : decode cX9_bits 8 = .ok (.iinc 1 1, 3) := by decide +kernel
theorem dX9_bits_11 : decode cX9_bits 11 = .ok (.iload_n 2, 1) := by decide +kernel
theorem dX9_bits_12 : decode cX9_bits 12 = .ok (.iload_n 2, 1) := by decide +kernel
theorem dX9_bits_13 : decode cX9_bits 13 = .ok (.iconst 1, 1) := by decide +kernel
theorem dX9_bits_14 : decode cX9_bits 14 = .ok (.isub, 1) := by decide +kernel
theorem dX9_bits_15 : decode cX9_bits 15 = .ok (.iand, 1) := by decide +kernel
theorem dX9_bits_16 : decode cX9_bits 16 = .ok (.istore_n 2, 1) := by decide +kernel
theorem dX9_bits_17 : decode cX9_bits 17 = .ok (.goto (-13), 3) := by decide +kernel
theorem dX9_bits_20 : decode cX9_bits 20 = .ok (.iload_n 1, 1) := by decide +kernel
theorem dX9_bits_21 : decode cX9_bits 21 = .ok (.ireturn, 1) := by decide +kernel
theorem dX9_isScene_0 : decode cX9_isScene 0 = .ok (.iload_n 0, 1) := by decide +kernel
theorem dX9_isScene_1 : decode cX9_isScene 1 = .ok (.iconst 0, 1) := by decide +kernel
theorem dX9_isScene_2 : decode cX9_isScene 2 = .ok (.bipush 11, 2) := by decide +kernel
theorem dX9_isScene_4 : decode cX9_isScene 4 = .ok (.invokestatic 78, 3) := by decide +kernel
theorem dX9_isScene_7 : decode cX9_isScene 7 = .ok (.ireturn, 1) := by decide +kernel
theorem dX9_isAny_0 : decode cX9_isAny 0 = .ok (.iload_n 0, 1) := by decide +kernel
theorem dX9_isAny_1 : decode cX9_isAny 1 = .ok (.iconst 0, 1) := by decide +kernel
theorem dX9_isAny_2 : decode cX9_isAny 2 = .ok (.bipush 12, 2) := by decide +kernel
theorem dX9_isAny_4 : decode cX9_isAny 4 = .ok (.invokestatic 78, 3) := by decide +kernel
theorem dX9_isAny_7 : decode cX9_isAny 7 = .ok (.ireturn, 1) := by decide +kernel
theorem dX9_isPerson_0 : decode cX9_isPerson 0 = .ok (.iload_n 1, 1) := by decide +kernel
theorem dX9_isPerson_1 : decode cX9_isPerson 1 = .ok (.iconst 0, 1) := by decide +kernel
theorem dX9_isPerson_2 : decode cX9_isPerson 2 = .ok (.aload_n 0, 1) := by decide +kernel
theorem dX9_isPerson_3 : decode cX9_isPerson 3 = .ok (.getfield 7, 3) := by decide +kernel
theorem dX9_isPerson_6 : decode cX9_isPerson 6 = .ok (.iconst 0, 1) := by decide +kernel
theorem dX9_isPerson_7 : decode cX9_isPerson 7 = .ok (.iaload, 1) := by decide +kernel
theorem dX9_isPerson_8 : decode cX9_isPerson 8 = .ok (.iconst 1, 1) := by decide +kernel
theorem dX9_isPerson_9 : decode cX9_isPerson 9 = .ok (.isub, 1) := by decide +kernel
theorem dX9_isPerson_10 : decode cX9_isPerson 10 = .ok (.invokestatic 78, 3) := by decide +kernel
theorem dX9_isPerson_13 : decode cX9_isPerson 13 = .ok (.ireturn, 1) := by decide +kernel
theorem dX9_get_0 : decode cX9_get 0 = .ok (.aload_n 0, 1) := by decide +kernel
theorem dX9_get_1 : decode cX9_get 1 = .ok (.getfield 7, 3) := by decide +kernel
theorem dX9_get_4 : decode cX9_get 4 = .ok (.bipush 34, 2) := by decide +kernel
theorem dX9_get_6 : decode cX9_get 6 = .ok (.iconst 4, 1) := by decide +kernel
theorem dX9_get_7 : decode cX9_get 7 = .ok (.iload_n 1, 1) := by decide +kernel
theorem dX9_get_8 : decode cX9_get 8 = .ok (.imul, 1) := by decide +kernel
theorem dX9_get_9 : decode cX9_get 9 = .ok (.iadd, 1) := by decide +kernel
theorem dX9_get_10 : decode cX9_get 10 = .ok (.iload_n 2, 1) := by decide +kernel
theorem dX9_get_11 : decode cX9_get 11 = .ok (.iadd, 1) := by decide +kernel
theorem dX9_get_12 : decode cX9_get 12 = .ok (.iaload, 1) := by decide +kernel
theorem dX9_get_13 : decode cX9_get 13 = .ok (.ireturn, 1) := by decide +kernel
theorem dX9_put_0 : decode cX9_put 0 = .ok (.aload_n 0, 1) := by decide +kernel
theorem dX9_put_1 : decode cX9_put 1 = .ok (.getfield 7, 3) := by decide +kernel
theorem dX9_put_4 : decode cX9_put 4 = .ok (.bipush 34, 2) := by decide +kernel
theorem dX9_put_6 : decode cX9_put 6 = .ok (.iconst 4, 1) := by decide +kernel
theorem dX9_put_7 : decode cX9_put 7 = .ok (.iload_n 1, 1) := by decide +kernel
theorem dX9_put_8 : decode cX9_put 8 = .ok (.imul, 1) := by decide +kernel
theorem dX9_put_9 : decode cX9_put 9 = .ok (.iadd, 1) := by decide +kernel
theorem dX9_put_10 : decode cX9_put 10 = .ok (.iload_n 2, 1) := by decide +kernel
theorem dX9_put_11 : decode cX9_put 11 = .ok (.iadd, 1) := by decide +kernel
theorem dX9_put_12 : decode cX9_put 12 = .ok (.iload_n 3, 1) := by decide +kernel
theorem dX9_put_13 : decode cX9_put 13 = .ok (.iastore, 1) := by decide +kernel
theorem dX9_put_14 : decode cX9_put 14 = .ok (.return_, 1) := by decide +kernel
theorem dX9_nextOf_0 : decode cX9_nextOf 0 = .ok (.iload_n 1, 1) := by decide +kernel
theorem dX9_nextOf_1 : decode cX9_nextOf 1 = .ok (.bipush 12, 2) := by decide +kernel
theorem dX9_nextOf_3 : decode cX9_nextOf 3 = .ok (.if_icmp .ne 8, 3) := by decide +kernel
theorem dX9_nextOf_6 : decode cX9_nextOf 6 = .ok (.bipush 12, 2) := by decide +kernel
theorem dX9_nextOf_8 : decode cX9_nextOf 8 = .ok (.goto 32, 3) := by decide +kernel
theorem dX9_nextOf_11 : decode cX9_nextOf 11 = .ok (.iload_n 2, 1) := by decide +kernel
theorem dX9_nextOf_12 : decode cX9_nextOf 12 = .ok (.ifCond .ne 15, 3) := by decide +kernel
theorem dX9_nextOf_15 : decode cX9_nextOf 15 = .ok (.aload_n 0, 1) := by decide +kernel
theorem dX9_nextOf_16 : decode cX9_nextOf 16 = .ok (.getfield 7, 3) := by decide +kernel
theorem dX9_nextOf_19 : decode cX9_nextOf 19 = .ok (.bipush 22, 2) := by decide +kernel
theorem dX9_nextOf_21 : decode cX9_nextOf 21 = .ok (.iload_n 1, 1) := by decide +kernel
theorem dX9_nextOf_22 : decode cX9_nextOf 22 = .ok (.iadd, 1) := by decide +kernel
theorem dX9_nextOf_23 : decode cX9_nextOf 23 = .ok (.iaload, 1) := by decide +kernel
theorem dX9_nextOf_24 : decode cX9_nextOf 24 = .ok (.goto 16, 3) := by decide +kernel
theorem dX9_nextOf_27 : decode cX9_nextOf 27 = .ok (.aload_n 0, 1) := by decide +kernel
theorem dX9_nextOf_28 : decode cX9_nextOf 28 = .ok (.getfield 7, 3) := by decide +kernel
theorem dX9_nextOf_31 : decode cX9_nextOf 31 = .ok (.bipush 66, 2) := by decide +kernel
theorem dX9_nextOf_33 : decode cX9_nextOf 33 = .ok (.iconst 4, 1) := by decide +kernel
theorem dX9_nextOf_34 : decode cX9_nextOf 34 = .ok (.iload_n 1, 1) := by decide +kernel
theorem dX9_nextOf_35 : decode cX9_nextOf 35 = .ok (.imul, 1) := by decide +kernel
theorem dX9_nextOf_36 : decode cX9_nextOf 36 = .ok (.iadd, 1) := by decide +kernel
theorem dX9_nextOf_37 : decode cX9_nextOf 37 = .ok (.iload_n 2, 1) := by decide +kernel
theorem dX9_nextOf_38 : decode cX9_nextOf 38 = .ok (.iadd, 1) := by decide +kernel
theorem dX9_nextOf_39 : decode cX9_nextOf 39 = .ok (.iaload, 1) := by decide +kernel
theorem dX9_nextOf_40 : decode cX9_nextOf 40 = .ok (.ireturn, 1) := by decide +kernel
theorem dX9_isSeen_0 : decode cX9_isSeen 0 = .ok (.aload_n 0, 1) := by decide +kernel
theorem dX9_isSeen_1 : decode cX9_isSeen 1 = .ok (.iload_n 1, 1) := by decide +kernel
theorem dX9_isSeen_2 : decode cX9_isSeen 2 = .ok (.iconst 0, 1) := by decide +kernel
theorem dX9_isSeen_3 : decode cX9_isSeen 3 = .ok (.invokevirtual 82, 3) := by decide +kernel
theorem dX9_isSeen_6 : decode cX9_isSeen 6 = .ok (.iconst 1, 1) := by decide +kernel
theorem dX9_isSeen_7 : decode cX9_isSeen 7 = .ok (.bipush 6, 2) := by decide +kernel
theorem dX9_isSeen_9 : decode cX9_isSeen 9 = .ok (.invokestatic 78, 3) := by decide +kernel
theorem dX9_isSeen_12 : decode cX9_isSeen 12 = .ok (.ireturn, 1) := by decide +kernel
theorem dX9_seen_0 : decode cX9_seen 0 = .ok (.iconst 0, 1) := by decide +kernel
theorem dX9_seen_1 : decode cX9_seen 1 = .ok (.istore_n 1, 1) := by decide +kernel
theorem dX9_seen_2 : decode cX9_seen 2 = .ok (.iconst 0, 1) := by decide +kernel
theorem dX9_seen_3 : decode cX9_seen 3 = .ok (.istore_n 2, 1) := by decide +kernel
theorem dX9_seen_4 : decode cX9_seen 4 = .ok (.iload_n 2, 1) := by decide +kernel
theorem dX9_seen_5 : decode cX9_seen 5 = .ok (.aload_n 0, 1) := by decide +kernel
theorem dX9_seen_6 : decode cX9_seen 6 = .ok (.getfield 7, 3) := by decide +kernel
theorem dX9_seen_9 : decode cX9_seen 9 = .ok (.iconst 0, 1) := by decide +kernel
theorem dX9_seen_10 : decode cX9_seen 10 = .ok (.iaload, 1) := by decide +kernel
theorem dX9_seen_11 : decode cX9_seen 11 = .ok (.if_icmp .ge 27, 3) := by decide +kernel
theorem dX9_seen_14 : decode cX9_seen 14 = .ok (.iload_n 1, 1) := by decide +kernel
theorem dX9_seen_15 : decode cX9_seen 15 = .ok (.aload_n 0, 1) := by decide +kernel
theorem dX9_seen_16 : decode cX9_seen 16 = .ok (.iload_n 2, 1) := by decide +kernel
theorem dX9_seen_17 : decode cX9_seen 17 = .ok (.invokevirtual 86, 3) := by decide +kernel
theorem dX9_seen_20 : decode cX9_seen 20 = .ok (.ifCond .eq 9, 3) := by decide +kernel
theorem dX9_seen_23 : decode cX9_seen 23 = .ok (.iconst 1, 1) := by decide +kernel
theorem dX9_seen_24 : decode cX9_seen 24 = .ok (.iload_n 2, 1) := by decide +kernel
theorem dX9_seen_25 : decode cX9_seen 25 = .ok (.ishl, 1) := by decide +kernel
theorem dX9_seen_26 : decode cX9_seen 26 = .ok (.goto 4, 3) := by decide +kernel
theorem dX9_seen_29 : decode cX9_seen 29 = .ok (.iconst 0, 1) := by decide +kernel
theorem dX9_seen_30 : decode cX9_seen 30 = .ok (.ior, 1) := by decide +kernel
theorem dX9_seen_31 : decode cX9_seen 31 = .ok (.istore_n 1, 1) := by decide +kernel
theorem dX9_seen_32 : decode cX9_seen 32 = .ok (.iinc 2 1, 3) := by decide +kernel
theorem dX9_seen_35 : decode cX9_seen 35 = .ok (.goto (-31), 3) := by decide +kernel
theorem dX9_seen_38 : decode cX9_seen 38 = .ok (.iload_n 1, 1) := by decide +kernel
theorem dX9_seen_39 : decode cX9_seen 39 = .ok (.ireturn, 1) := by decide +kernel
theorem dX9_front_0 : decode cX9_front 0 = .ok (.iconst 0, 1) := by decide +kernel
theorem dX9_front_1 : decode cX9_front 1 = .ok (.istore_n 1, 1) := by decide +kernel
theorem dX9_front_2 : decode cX9_front 2 = .ok (.iconst 0, 1) := by decide +kernel
theorem dX9_front_3 : decode cX9_front 3 = .ok (.istore_n 2, 1) := by decide +kernel
theorem dX9_front_4 : decode cX9_front 4 = .ok (.iload_n 2, 1) := by decide +kernel
theorem dX9_front_5 : decode cX9_front 5 = .ok (.aload_n 0, 1) := by decide +kernel
theorem dX9_front_6 : decode cX9_front 6 = .ok (.getfield 7, 3) := by decide +kernel
theorem dX9_front_9 : decode cX9_front 9 = .ok (.iconst 0, 1) := by decide +kernel
theorem dX9_front_10 : decode cX9_front 10 = .ok (.iaload, 1) := by decide +kernel
theorem dX9_front_11 : decode cX9_front 11 = .ok (.if_icmp .ge 30, 3) := by decide +kernel
theorem dX9_front_14 : decode cX9_front 14 = .ok (.iload_n 1, 1) := by decide +kernel
theorem dX9_front_15 : decode cX9_front 15 = .ok (.aload_n 0, 1) := by decide +kernel
theorem dX9_front_16 : decode cX9_front 16 = .ok (.iload_n 2, 1) := by decide +kernel
theorem dX9_front_17 : decode cX9_front 17 = .ok (.invokevirtual 86, 3) := by decide +kernel
theorem dX9_front_20 : decode cX9_front 20 = .ok (.ifCond .eq 12, 3) := by decide +kernel
theorem dX9_front_23 : decode cX9_front 23 = .ok (.aload_n 0, 1) := by decide +kernel
theorem dX9_front_24 : decode cX9_front 24 = .ok (.iload_n 2, 1) := by decide +kernel
theorem dX9_front_25 : decode cX9_front 25 = .ok (.iconst 2, 1) := by decide +kernel
theorem dX9_front_26 : decode cX9_front 26 = .ok (.invokevirtual 82, 3) := by decide +kernel
theorem dX9_front_29 : decode cX9_front 29 = .ok (.goto 4, 3) := by decide +kernel
theorem dX9_front_32 : decode cX9_front 32 = .ok (.iconst 0, 1) := by decide +kernel
theorem dX9_front_33 : decode cX9_front 33 = .ok (.iadd, 1) := by decide +kernel
theorem dX9_front_34 : decode cX9_front 34 = .ok (.istore_n 1, 1) := by decide +kernel
theorem dX9_front_35 : decode cX9_front 35 = .ok (.iinc 2 1, 3) := by decide +kernel
theorem dX9_front_38 : decode cX9_front 38 = .ok (.goto (-34), 3) := by decide +kernel
theorem dX9_front_41 : decode cX9_front 41 = .ok (.iload_n 1, 1) := by decide +kernel
theorem dX9_front_42 : decode cX9_front 42 = .ok (.ireturn, 1) := by decide +kernel
theorem dX9_scene_0 : decode cX9_scene 0 = .ok (.iload_n 1, 1) := by decide +kernel
theorem dX9_scene_1 : decode cX9_scene 1 = .ok (.invokestatic 90, 3) := by decide +kernel
theorem dX9_scene_4 : decode cX9_scene 4 = .ok (.ifCond .eq 19, 3) := by decide +kernel
theorem dX9_scene_7 : decode cX9_scene 7 = .ok (.iload_n 2, 1) := by decide +kernel
theorem dX9_scene_8 : decode cX9_scene 8 = .ok (.iconst 0, 1) := by decide +kernel
theorem dX9_scene_9 : decode cX9_scene 9 = .ok (.iconst 3, 1) := by decide +kernel
theorem dX9_scene_10 : decode cX9_scene 10 = .ok (.invokestatic 78, 3) := by decide +kernel
theorem dX9_scene_13 : decode cX9_scene 13 = .ok (.ifCond .eq 10, 3) := by decide +kernel
theorem dX9_scene_16 : decode cX9_scene 16 = .ok (.iload_n 3, 1) := by decide +kernel
theorem dX9_scene_17 : decode cX9_scene 17 = .ok (.invokestatic 93, 3) := by decide +kernel
theorem dX9_scene_20 : decode cX9_scene 20 = .ok (.ifCond .ne 5, 3) := by decide +kernel
theorem dX9_scene_23 : decode cX9_scene 23 = .ok (.iconst 0, 1) := by decide +kernel
theorem dX9_scene_24 : decode cX9_scene 24 = .ok (.ireturn, 1) := by decide +kernel
theorem dX9_scene_25 : decode cX9_scene 25 = .ok (.aload_n 0, 1) := by decide +kernel
theorem dX9_scene_26 : decode cX9_scene 26 = .ok (.getfield 7, 3) := by decide +kernel
theorem dX9_scene_29 : decode cX9_scene 29 = .ok (.bipush 66, 2) := by decide +kernel
theorem dX9_scene_31 : decode cX9_scene 31 = .ok (.iconst 4, 1) := by decide +kernel
theorem dX9_scene_32 : decode cX9_scene 32 = .ok (.iload_n 1, 1) := by decide +kernel
theorem dX9_scene_33 : decode cX9_scene 33 = .ok (.imul, 1) := by decide +kernel
theorem dX9_scene_34 : decode cX9_scene 34 = .ok (.iadd, 1) := by decide +kernel
theorem dX9_scene_35 : decode cX9_scene 35 = .ok (.iload_n 2, 1) := by decide +kernel
theorem dX9_scene_36 : decode cX9_scene 36 = .ok (.iadd, 1) := by decide +kernel
theorem dX9_scene_37 : decode cX9_scene 37 = .ok (.iload_n 3, 1) := by decide +kernel
theorem dX9_scene_38 : decode cX9_scene 38 = .ok (.iastore, 1) := by decide +kernel
theorem dX9_scene_39 : decode cX9_scene 39 = .ok (.iload_n 2, 1) := by decide +kernel
theorem dX9_scene_40 : decode cX9_scene 40 = .ok (.ifCond .le 5, 3) := by decide +kernel
theorem dX9_scene_43 : decode cX9_scene 43 = .ok (.iconst 1, 1) := by decide +kernel
theorem dX9_scene_44 : decode cX9_scene 44 = .ok (.ireturn, 1) := by decide +kernel
theorem dX9_scene_45 : decode cX9_scene 45 = .ok (.aload_n 0, 1) := by decide +kernel
theorem dX9_scene_46 : decode cX9_scene 46 = .ok (.getfield 7, 3) := by decide +kernel
theorem dX9_scene_49 : decode cX9_scene 49 = .ok (.bipush 22, 2) := by decide +kernel
theorem dX9_scene_51 : decode cX9_scene 51 = .ok (.iload_n 1, 1) := by decide +kernel
theorem dX9_scene_52 : decode cX9_scene 52 = .ok (.iadd, 1) := by decide +kernel
theorem dX9_scene_53 : decode cX9_scene 53 = .ok (.iload_n 3, 1) := by decide +kernel
theorem dX9_scene_54 : decode cX9_scene 54 = .ok (.iastore, 1) := by decide +kernel
theorem dX9_scene_55 : decode cX9_scene 55 = .ok (.iconst 0, 1) := by decide +kernel
theorem dX9_scene_56 : decode cX9_scene 56 = .ok (.istore 4, 2) := by decide +kernel
theorem dX9_scene_58 : decode cX9_scene 58 = .ok (.iload 4, 2) := by decide +kernel
theorem dX9_scene_60 : decode cX9_scene 60 = .ok (.aload_n 0, 1) := by decide +kernel
theorem dX9_scene_61 : decode cX9_scene 61 = .ok (.getfield 7, 3) := by decide +kernel
theorem dX9_scene_64 : decode cX9_scene 64 = .ok (.iconst 3, 1) := by decide +kernel
theorem dX9_scene_65 : decode cX9_scene 65 = .ok (.iaload, 1) := by decide +kernel
theorem dX9_scene_66 : decode cX9_scene 66 = .ok (.if_icmp .ge 34, 3) := by decide +kernel
theorem dX9_scene_69 : decode cX9_scene 69 = .ok (.aload_n 0, 1) := by decide +kernel
theorem dX9_scene_70 : decode cX9_scene 70 = .ok (.getfield 7, 3) := by decide +kernel
theorem dX9_scene_73 : decode cX9_scene 73 = .ok (.sipush 199, 3) := by decide +kernel
theorem dX9_scene_76 : decode cX9_scene 76 = .ok (.bipush 105, 2) := by decide +kernel
theorem dX9_scene_78 : decode cX9_scene 78 = .ok (.iload 4, 2) := by decide +kernel
theorem dX9_scene_80 : decode cX9_scene 80 = .ok (.imul, 1) := by decide +kernel
theorem dX9_scene_81 : decode cX9_scene 81 = .ok (.iadd, 1) := by decide +kernel
theorem dX9_scene_82 : decode cX9_scene 82 = .ok (.iconst 1, 1) := by decide +kernel
theorem dX9_scene_83 : decode cX9_scene 83 = .ok (.iadd, 1) := by decide +kernel
theorem dX9_scene_84 : decode cX9_scene 84 = .ok (.bipush 22, 2) := by decide +kernel
theorem dX9_scene_86 : decode cX9_scene 86 = .ok (.iadd, 1) := by decide +kernel
theorem dX9_scene_87 : decode cX9_scene 87 = .ok (.bipush 6, 2) := by decide +kernel
theorem dX9_scene_89 : decode cX9_scene 89 = .ok (.isub, 1) := by decide +kernel
theorem dX9_scene_90 : decode cX9_scene 90 = .ok (.iload_n 1, 1) := by decide +kernel
theorem dX9_scene_91 : decode cX9_scene 91 = .ok (.iadd, 1) := by decide +kernel
theorem dX9_scene_92 : decode cX9_scene 92 = .ok (.iload_n 3, 1) := by decide +kernel
theorem dX9_scene_93 : decode cX9_scene 93 = .ok (.iastore, 1) := by decide +kernel
theorem dX9_scene_94 : decode cX9_scene 94 = .ok (.iinc 4 1, 3) := by decide +kernel
theorem dX9_scene_97 : decode cX9_scene 97 = .ok (.goto (-39), 3) := by decide +kernel
theorem dX9_scene_100 : decode cX9_scene 100 = .ok (.iconst 1, 1) := by decide +kernel
theorem dX9_scene_101 : decode cX9_scene 101 = .ok (.ireturn, 1) := by decide +kernel
theorem dX9_kind_0 : decode cX9_kind 0 = .ok (.iload_n 1, 1) := by decide +kernel
theorem dX9_kind_1 : decode cX9_kind 1 = .ok (.invokestatic 90, 3) := by decide +kernel
theorem dX9_kind_4 : decode cX9_kind 4 = .ok (.ifCond .eq 12, 3) := by decide +kernel
theorem dX9_kind_7 : decode cX9_kind 7 = .ok (.iload_n 2, 1) := by decide +kernel
theorem dX9_kind_8 : decode cX9_kind 8 = .ok (.iconst 0, 1) := by decide +kernel
theorem dX9_kind_9 : decode cX9_kind 9 = .ok (.iconst 3, 1) := by decide +kernel
theorem dX9_kind_10 : decode cX9_kind 10 = .ok (.invokestatic 78, 3) := by decide +kernel
theorem dX9_kind_13 : decode cX9_kind 13 = .ok (.ifCond .ne 5, 3) := by decide +kernel
theorem dX9_kind_16 : decode cX9_kind 16 = .ok (.iconst 0, 1) := by decide +kernel
theorem dX9_kind_17 : decode cX9_kind 17 = .ok (.ireturn, 1) := by decide +kernel
theorem dX9_kind_18 : decode cX9_kind 18 = .ok (.aload_n 0, 1) := by decide +kernel
theorem dX9_kind_19 : decode cX9_kind 19 = .ok (.getfield 7, 3) := by decide +kernel
theorem dX9_kind_22 : decode cX9_kind 22 = .ok (.bipush 114, 2) := by decide +kernel
theorem dX9_kind_24 : decode cX9_kind 24 = .ok (.iload_n 1, 1) := by decide +kernel
theorem dX9_kind_25 : decode cX9_kind 25 = .ok (.iadd, 1) := by decide +kernel
theorem dX9_kind_26 : decode cX9_kind 26 = .ok (.iload_n 2, 1) := by decide +kernel
theorem dX9_kind_27 : decode cX9_kind 27 = .ok (.iastore, 1) := by decide +kernel
theorem dX9_kind_28 : decode cX9_kind 28 = .ok (.iconst 1, 1) := by decide +kernel
theorem dX9_kind_29 : decode cX9_kind 29 = .ok (.ireturn, 1) := by decide +kernel
theorem dX9_person_0 : decode cX9_person 0 = .ok (.iload_n 1, 1) := by decide +kernel
theorem dX9_person_1 : decode cX9_person 1 = .ok (.iconst 0, 1) := by decide +kernel
theorem dX9_person_2 : decode cX9_person 2 = .ok (.bipush 9, 2) := by decide +kernel
theorem dX9_person_4 : decode cX9_person 4 = .ok (.invokestatic 78, 3) := by decide +kernel
theorem dX9_person_7 : decode cX9_person 7 = .ok (.ifCond .eq 24, 3) := by decide +kernel
theorem dX9_person_10 : decode cX9_person 10 = .ok (.iload_n 2, 1) := by decide +kernel
theorem dX9_person_11 : decode cX9_person 11 = .ok (.iconst 0, 1) := by decide +kernel
theorem dX9_person_12 : decode cX9_person 12 = .ok (.bipush 9, 2) := by decide +kernel
theorem dX9_person_14 : decode cX9_person 14 = .ok (.invokestatic 78, 3) := by decide +kernel
theorem dX9_person_17 : decode cX9_person 17 = .ok (.ifCond .eq 14, 3) := by decide +kernel
theorem dX9_person_20 : decode cX9_person 20 = .ok (.aload_n 0, 1) := by decide +kernel
theorem dX9_person_21 : decode cX9_person 21 = .ok (.getfield 7, 3) := by decide +kernel
theorem dX9_person_24 : decode cX9_person 24 = .ok (.iconst 0, 1) := by decide +kernel
theorem dX9_person_25 : decode cX9_person 25 = .ok (.iaload, 1) := by decide +kernel
theorem dX9_person_26 : decode cX9_person 26 = .ok (.bipush 8, 2) := by decide +kernel
theorem dX9_person_28 : decode cX9_person 28 = .ok (.if_icmp .ne 5, 3) := by decide +kernel
theorem dX9_person_31 : decode cX9_person 31 = .ok (.iconst (-1), 1) := by decide +kernel
theorem dX9_person_32 : decode cX9_person 32 = .ok (.ireturn, 1) := by decide +kernel
theorem dX9_person_33 : decode cX9_person 33 = .ok (.aload_n 0, 1) := by decide +kernel
theorem dX9_person_34 : decode cX9_person 34 = .ok (.getfield 7, 3) := by decide +kernel
theorem dX9_person_37 : decode cX9_person 37 = .ok (.iconst 0, 1) := by decide +kernel
theorem dX9_person_38 : decode cX9_person 38 = .ok (.iaload, 1) := by decide +kernel
theorem dX9_person_39 : decode cX9_person 39 = .ok (.istore_n 3, 1) := by decide +kernel
theorem dX9_person_40 : decode cX9_person 40 = .ok (.aload_n 0, 1) := by decide +kernel
theorem dX9_person_41 : decode cX9_person 41 = .ok (.iload_n 3, 1) := by decide +kernel
theorem dX9_person_42 : decode cX9_person 42 = .ok (.iconst 2, 1) := by decide +kernel
theorem dX9_person_43 : decode cX9_person 43 = .ok (.iload_n 1, 1) := by decide +kernel
theorem dX9_person_44 : decode cX9_person 44 = .ok (.invokevirtual 96, 3) := by decide +kernel
theorem dX9_person_47 : decode cX9_person 47 = .ok (.aload_n 0, 1) := by decide +kernel
theorem dX9_person_48 : decode cX9_person 48 = .ok (.iload_n 3, 1) := by decide +kernel
theorem dX9_person_49 : decode cX9_person 49 = .ok (.iconst 3, 1) := by decide +kernel
theorem dX9_person_50 : decode cX9_person 50 = .ok (.iload_n 2, 1) := by decide +kernel
theorem dX9_person_51 : decode cX9_person 51 = .ok (.invokevirtual 96, 3) := by decide +kernel
theorem dX9_person_54 : decode cX9_person 54 = .ok (.aload_n 0, 1) := by decide +kernel
theorem dX9_person_55 : decode cX9_person 55 = .ok (.iload_n 3, 1) := by decide +kernel
theorem dX9_person_56 : decode cX9_person 56 = .ok (.invokevirtual 100, 3) := by decide +kernel
theorem dX9_person_59 : decode cX9_person 59 = .ok (.aload_n 0, 1) := by decide +kernel
theorem dX9_person_60 : decode cX9_person 60 = .ok (.getfield 7, 3) := by decide +kernel
theorem dX9_person_63 : decode cX9_person 63 = .ok (.iconst 0, 1) := by decide +kernel
theorem dX9_person_64 : decode cX9_person 64 = .ok (.dup2, 1) := by decide +kernel
theorem dX9_person_65 : decode cX9_person 65 = .ok (.iaload, 1) := by decide +kernel
theorem dX9_person_66 : decode cX9_person 66 = .ok (.iconst 1, 1) := by decide +kernel
theorem dX9_person_67 : decode cX9_person 67 = .ok (.iadd, 1) := by decide +kernel
theorem dX9_person_68 : decode cX9_person 68 = .ok (.iastore, 1) := by decide +kernel
theorem dX9_person_69 : decode cX9_person 69 = .ok (.iload_n 3, 1) := by decide +kernel
theorem dX9_person_70 : decode cX9_person 70 = .ok (.ireturn, 1) := by decide +kernel
theorem dX9_begin_0 : decode cX9_begin 0 = .ok (.aload_n 0, 1) := by decide +kernel
theorem dX9_begin_1 : decode cX9_begin 1 = .ok (.iload_n 1, 1) := by decide +kernel
theorem dX9_begin_2 : decode cX9_begin 2 = .ok (.iconst 0, 1) := by decide +kernel
theorem dX9_begin_3 : decode cX9_begin 3 = .ok (.aload_n 0, 1) := by decide +kernel
theorem dX9_begin_4 : decode cX9_begin 4 = .ok (.iload_n 1, 1) := by decide +kernel
theorem dX9_begin_5 : decode cX9_begin 5 = .ok (.iconst 3, 1) := by decide +kernel
theorem dX9_begin_6 : decode cX9_begin 6 = .ok (.invokevirtual 82, 3) := by decide +kernel
theorem dX9_begin_9 : decode cX9_begin 9 = .ok (.invokevirtual 96, 3) := by decide +kernel
theorem dX9_begin_12 : decode cX9_begin 12 = .ok (.aload_n 0, 1) := by decide +kernel
theorem dX9_begin_13 : decode cX9_begin 13 = .ok (.iload_n 1, 1) := by decide +kernel
theorem dX9_begin_14 : decode cX9_begin 14 = .ok (.iconst 1, 1) := by decide +kernel
theorem dX9_begin_15 : decode cX9_begin 15 = .ok (.iconst 0, 1) := by decide +kernel
theorem dX9_begin_16 : decode cX9_begin 16 = .ok (.invokevirtual 96, 3) := by decide +kernel
theorem dX9_begin_19 : decode cX9_begin 19 = .ok (.return_, 1) := by decide +kernel
theorem dX9_four_0 : decode cX9_four 0 = .ok (.bipush 24, 2) := by decide +kernel
theorem dX9_four_2 : decode cX9_four 2 = .ok (.istore_n 2, 1) := by decide +kernel
theorem dX9_four_3 : decode cX9_four 3 = .ok (.iload_n 2, 1) := by decide +kernel
theorem dX9_four_4 : decode cX9_four 4 = .ok (.ifCond .lt 35, 3) := by decide +kernel
theorem dX9_four_7 : decode cX9_four 7 = .ok (.aload_n 0, 1) := by decide +kernel
theorem dX9_four_8 : decode cX9_four 8 = .ok (.getfield 19, 3) := by decide +kernel
theorem dX9_four_11 : decode cX9_four 11 = .ok (.aload_n 0, 1) := by decide +kernel
theorem dX9_four_12 : decode cX9_four 12 = .ok (.getfield 104, 3) := by decide +kernel
theorem dX9_four_15 : decode cX9_four 15 = .ok (.iload_n 1, 1) := by decide +kernel
theorem dX9_four_16 : decode cX9_four 16 = .ok (.iload_n 2, 1) := by decide +kernel
theorem dX9_four_17 : decode cX9_four 17 = .ok (.ishr, 1) := by decide +kernel
theorem dX9_four_18 : decode cX9_four 18 = .ok (.sipush 255, 3) := by decide +kernel
theorem dX9_four_21 : decode cX9_four 21 = .ok (.iand, 1) := by decide +kernel
theorem dX9_four_22 : decode cX9_four 22 = .ok (.iastore, 1) := by decide +kernel
theorem dX9_four_23 : decode cX9_four 23 = .ok (.aload_n 0, 1) := by decide +kernel
theorem dX9_four_24 : decode cX9_four 24 = .ok (.dup, 1) := by decide +kernel
theorem dX9_four_25 : decode cX9_four 25 = .ok (.getfield 104, 3) := by decide +kernel
theorem dX9_four_28 : decode cX9_four 28 = .ok (.iconst 1, 1) := by decide +kernel
theorem dX9_four_29 : decode cX9_four 29 = .ok (.iadd, 1) := by decide +kernel
theorem dX9_four_30 : decode cX9_four 30 = .ok (.putfield 104, 3) := by decide +kernel
theorem dX9_four_33 : decode cX9_four 33 = .ok (.iinc 2 (-8), 3) := by decide +kernel
theorem dX9_four_36 : decode cX9_four 36 = .ok (.goto (-33), 3) := by decide +kernel
theorem dX9_four_39 : decode cX9_four 39 = .ok (.return_, 1) := by decide +kernel
theorem dX9_feed_0 : decode cX9_feed 0 = .ok (.aload_n 0, 1) := by decide +kernel
theorem dX9_feed_1 : decode cX9_feed 1 = .ok (.getfield 104, 3) := by decide +kernel
theorem dX9_feed_4 : decode cX9_feed 4 = .ok (.bipush 20, 2) := by decide +kernel
theorem dX9_feed_6 : decode cX9_feed 6 = .ok (.iadd, 1) := by decide +kernel
theorem dX9_feed_7 : decode cX9_feed 7 = .ok (.sipush 300, 3) := by decide +kernel
theorem dX9_feed_10 : decode cX9_feed 10 = .ok (.if_icmp .le 5, 3) := by decide +kernel
theorem dX9_feed_13 : decode cX9_feed 13 = .ok (.iconst (-1), 1) := by decide +kernel
theorem dX9_feed_14 : decode cX9_feed 14 = .ok (.ireturn, 1) := by decide +kernel
theorem dX9_feed_15 : decode cX9_feed 15 = .ok (.aload_n 0, 1) := by decide +kernel
theorem dX9_feed_16 : decode cX9_feed 16 = .ok (.iload_n 1, 1) := by decide +kernel
theorem dX9_feed_17 : decode cX9_feed 17 = .ok (.invokevirtual 107, 3) := by decide +kernel
theorem dX9_feed_20 : decode cX9_feed 20 = .ok (.aload_n 0, 1) := by decide +kernel
theorem dX9_feed_21 : decode cX9_feed 21 = .ok (.iload_n 2, 1) := by decide +kernel
theorem dX9_feed_22 : decode cX9_feed 22 = .ok (.invokevirtual 107, 3) := by decide +kernel
theorem dX9_feed_25 : decode cX9_feed 25 = .ok (.aload_n 0, 1) := by decide +kernel
theorem dX9_feed_26 : decode cX9_feed 26 = .ok (.iload_n 3, 1) := by decide +kernel
theorem dX9_feed_27 : decode cX9_feed 27 = .ok (.invokevirtual 107, 3) := by decide +kernel
theorem dX9_feed_30 : decode cX9_feed 30 = .ok (.aload_n 0, 1) := by decide +kernel
theorem dX9_feed_31 : decode cX9_feed 31 = .ok (.iload 4, 2) := by decide +kernel
theorem dX9_feed_33 : decode cX9_feed 33 = .ok (.invokevirtual 107, 3) := by decide +kernel
theorem dX9_feed_36 : decode cX9_feed 36 = .ok (.aload_n 0, 1) := by decide +kernel
theorem dX9_feed_37 : decode cX9_feed 37 = .ok (.iload 5, 2) := by decide +kernel
theorem dX9_feed_39 : decode cX9_feed 39 = .ok (.invokevirtual 107, 3) := by decide +kernel
theorem dX9_feed_42 : decode cX9_feed 42 = .ok (.aload_n 0, 1) := by decide +kernel
theorem dX9_feed_43 : decode cX9_feed 43 = .ok (.getfield 104, 3) := by decide +kernel
theorem dX9_feed_46 : decode cX9_feed 46 = .ok (.ireturn, 1) := by decide +kernel
theorem dX9_end_0 : decode cX9_end 0 = .ok (.iload_n 1, 1) := by decide +kernel
theorem dX9_end_1 : decode cX9_end 1 = .ok (.iconst 0, 1) := by decide +kernel
theorem dX9_end_2 : decode cX9_end 2 = .ok (.aload_n 0, 1) := by decide +kernel
theorem dX9_end_3 : decode cX9_end 3 = .ok (.getfield 104, 3) := by decide +kernel
theorem dX9_end_6 : decode cX9_end 6 = .ok (.invokestatic 78, 3) := by decide +kernel
theorem dX9_end_9 : decode cX9_end 9 = .ok (.ifCond .ne 5, 3) := by decide +kernel
theorem dX9_end_12 : decode cX9_end 12 = .ok (.iconst (-1), 1) := by decide +kernel
theorem dX9_end_13 : decode cX9_end 13 = .ok (.ireturn, 1) := by decide +kernel
theorem dX9_end_14 : decode cX9_end 14 = .ok (.aload_n 0, 1) := by decide +kernel
theorem dX9_end_15 : decode cX9_end 15 = .ok (.iload_n 1, 1) := by decide +kernel
theorem dX9_end_16 : decode cX9_end 16 = .ok (.putfield 104, 3) := by decide +kernel
theorem dX9_end_19 : decode cX9_end 19 = .ok (.iload_n 1, 1) := by decide +kernel
theorem dX9_end_20 : decode cX9_end 20 = .ok (.ireturn, 1) := by decide +kernel
theorem dX9_byteAt_0 : decode cX9_byteAt 0 = .ok (.iload_n 1, 1) := by decide +kernel
theorem dX9_byteAt_1 : decode cX9_byteAt 1 = .ok (.aload_n 0, 1) := by decide +kernel
theorem dX9_byteAt_2 : decode cX9_byteAt 2 = .ok (.getfield 104, 3) := by decide +kernel
theorem dX9_byteAt_5 : decode cX9_byteAt 5 = .ok (.if_icmp .ge 12, 3) := by decide +kernel
theorem dX9_byteAt_8 : decode cX9_byteAt 8 = .ok (.aload_n 0, 1) := by decide +kernel
theorem dX9_byteAt_9 : decode cX9_byteAt 9 = .ok (.getfield 19, 3) := by decide +kernel
theorem dX9_byteAt_12 : decode cX9_byteAt 12 = .ok (.iload_n 1, 1) := by decide +kernel
theorem dX9_byteAt_13 : decode cX9_byteAt 13 = .ok (.iaload, 1) := by decide +kernel
theorem dX9_byteAt_14 : decode cX9_byteAt 14 = .ok (.goto 4, 3) := by decide +kernel
theorem dX9_byteAt_17 : decode cX9_byteAt 17 = .ok (.iconst (-1), 1) := by decide +kernel
theorem dX9_byteAt_18 : decode cX9_byteAt 18 = .ok (.ireturn, 1) := by decide +kernel
theorem dX9_isLetterByte_0 : decode cX9_isLetterByte 0 = .ok (.iload_n 0, 1) := by decide +kernel
theorem dX9_isLetterByte_1 : decode cX9_isLetterByte 1 = .ok (.bipush 97, 2) := by decide +kernel
theorem dX9_isLetterByte_3 : decode cX9_isLetterByte 3 = .ok (.if_icmp .lt 9, 3) := by decide +kernel
theorem dX9_isLetterByte_6 : decode cX9_isLetterByte 6 = .ok (.iload_n 0, 1) := by decide +kernel
theorem dX9_isLetterByte_7 : decode cX9_isLetterByte 7 = .ok (.bipush 122, 2) := by decide +kernel
theorem dX9_isLetterByte_9 : decode cX9_isLetterByte 9 = .ok (.if_icmp .le 15, 3) := by decide +kernel
theorem dX9_isLetterByte_12 : decode cX9_isLetterByte 12 = .ok (.iload_n 0, 1) := by decide +kernel
theorem dX9_isLetterByte_13 : decode cX9_isLetterByte 13 = .ok (.bipush 65, 2) := by decide +kernel
theorem dX9_isLetterByte_15 : decode cX9_isLetterByte 15 = .ok (.if_icmp .lt 13, 3) := by decide +kernel
theorem dX9_isLetterByte_18 : decode cX9_isLetterByte 18 = .ok (.iload_n 0, 1) := by decide +kernel
theorem dX9_isLetterByte_19 : decode cX9_isLetterByte 19 = .ok (.bipush 90, 2) := by decide +kernel
theorem dX9_isLetterByte_21 : decode cX9_isLetterByte 21 = .ok (.if_icmp .gt 7, 3) := by decide +kernel
theorem dX9_isLetterByte_24 : decode cX9_isLetterByte 24 = .ok (.iconst 1, 1) := by decide +kernel
theorem dX9_isLetterByte_25 : decode cX9_isLetterByte 25 = .ok (.goto 4, 3) := by decide +kernel
theorem dX9_isLetterByte_28 : decode cX9_isLetterByte 28 = .ok (.iconst 0, 1) := by decide +kernel
theorem dX9_isLetterByte_29 : decode cX9_isLetterByte 29 = .ok (.ireturn, 1) := by decide +kernel
theorem dX9_isFigure_0 : decode cX9_isFigure 0 = .ok (.iload_n 0, 1) := by decide +kernel
theorem dX9_isFigure_1 : decode cX9_isFigure 1 = .ok (.bipush 48, 2) := by decide +kernel
theorem dX9_isFigure_3 : decode cX9_isFigure 3 = .ok (.if_icmp .lt 13, 3) := by decide +kernel
theorem dX9_isFigure_6 : decode cX9_isFigure 6 = .ok (.iload_n 0, 1) := by decide +kernel
theorem dX9_isFigure_7 : decode cX9_isFigure 7 = .ok (.bipush 57, 2) := by decide +kernel
theorem dX9_isFigure_9 : decode cX9_isFigure 9 = .ok (.if_icmp .gt 7, 3) := by decide +kernel
theorem dX9_isFigure_12 : decode cX9_isFigure 12 = .ok (.iconst 1, 1) := by decide +kernel
theorem dX9_isFigure_13 : decode cX9_isFigure 13 = .ok (.goto 4, 3) := by decide +kernel
theorem dX9_isFigure_16 : decode cX9_isFigure 16 = .ok (.iconst 0, 1) := by decide +kernel
theorem dX9_isFigure_17 : decode cX9_isFigure 17 = .ok (.ireturn, 1) := by decide +kernel
theorem dX9_isSign_0 : decode cX9_isSign 0 = .ok (.iload_n 0, 1) := by decide +kernel
theorem dX9_isSign_1 : decode cX9_isSign 1 = .ok (.tableswitch 129 35 62 #[127, 129, 127, 129, 129, 127, 127, 127, 127, 129, 127, 129, 127, 129, 129, 129, 129, 129, 129, 129, 129, 129, 129, 127, 127, 127, 127, 127], 127) := by decide +kernel
theorem dX9_isSign_128 : decode cX9_isSign 128 = .ok (.iconst 1, 1) := by decide +kernel
theorem dX9_isSign_129 : decode cX9_isSign 129 = .ok (.ireturn, 1) := by decide +kernel
theorem dX9_isSign_130 : decode cX9_isSign 130 = .ok (.iconst 0, 1) := by decide +kernel
theorem dX9_isSign_131 : decode cX9_isSign 131 = .ok (.ireturn, 1) := by decide +kernel
theorem dX9_nextToken_0 : decode cX9_nextToken 0 = .ok (.aload_n 0, 1) := by decide +kernel
theorem dX9_nextToken_1 : decode cX9_nextToken 1 = .ok (.aload_n 0, 1) := by decide +kernel
theorem dX9_nextToken_2 : decode cX9_nextToken 2 = .ok (.getfield 110, 3) := by decide +kernel
theorem dX9_nextToken_5 : decode cX9_nextToken 5 = .ok (.invokevirtual 113, 3) := by decide +kernel
theorem dX9_nextToken_8 : decode cX9_nextToken 8 = .ok (.bipush 32, 2) := by decide +kernel
theorem dX9_nextToken_10 : decode cX9_nextToken 10 = .ok (.if_icmp .eq 16, 3) := by decide +kernel
theorem dX9_nextToken_13 : decode cX9_nextToken 13 = .ok (.aload_n 0, 1) := by decide +kernel
theorem dX9_nextToken_14 : decode cX9_nextToken 14 = .ok (.aload_n 0, 1) := by decide +kernel
theorem dX9_nextToken_15 : decode cX9_nextToken 15 = .ok (.getfield 110, 3) := by decide +kernel
theorem dX9_nextToken_18 : decode cX9_nextToken 18 = .ok (.invokevirtual 113, 3) := by decide +kernel
theorem dX9_nextToken_21 : decode cX9_nextToken 21 = .ok (.bipush 10, 2) := by decide +kernel
theorem dX9_nextToken_23 : decode cX9_nextToken 23 = .ok (.if_icmp .ne 16, 3) := by decide +kernel
theorem dX9_nextToken_26 : decode cX9_nextToken 26 = .ok (.aload_n 0, 1) := by decide +kernel
theorem dX9_nextToken_27 : decode cX9_nextToken 27 = .ok (.dup, 1) := by decide +kernel
theorem dX9_nextToken_28 : decode cX9_nextToken 28 = .ok (.getfield 110, 3) := by decide +kernel
theorem dX9_nextToken_31 : decode cX9_nextToken 31 = .ok (.iconst 1, 1) := by decide +kernel
theorem dX9_nextToken_32 : decode cX9_nextToken 32 = .ok (.iadd, 1) := by decide +kernel
theorem dX9_nextToken_33 : decode cX9_nextToken 33 = .ok (.putfield 110, 3) := by decide +kernel
theorem dX9_nextToken_36 : decode cX9_nextToken 36 = .ok (.goto (-36), 3) := by decide +kernel
theorem dX9_nextToken_39 : decode cX9_nextToken 39 = .ok (.aload_n 0, 1) := by decide +kernel
theorem dX9_nextToken_40 : decode cX9_nextToken 40 = .ok (.aload_n 0, 1) := by decide +kernel
theorem dX9_nextToken_41 : decode cX9_nextToken 41 = .ok (.getfield 110, 3) := by decide +kernel
theorem dX9_nextToken_44 : decode cX9_nextToken 44 = .ok (.putfield 117, 3) := by decide +kernel
theorem dX9_nextToken_47 : decode cX9_nextToken 47 = .ok (.aload_n 0, 1) := by decide +kernel
theorem dX9_nextToken_48 : decode cX9_nextToken 48 = .ok (.aload_n 0, 1) := by decide +kernel
theorem dX9_nextToken_49 : decode cX9_nextToken 49 = .ok (.getfield 110, 3) := by decide +kernel
theorem dX9_nextToken_52 : decode cX9_nextToken 52 = .ok (.invokevirtual 113, 3) := by decide +kernel
theorem dX9_nextToken_55 : decode cX9_nextToken 55 = .ok (.istore_n 1, 1) := by decide +kernel
theorem dX9_nextToken_56 : decode cX9_nextToken 56 = .ok (.iload_n 1, 1) := by decide +kernel
theorem dX9_nextToken_57 : decode cX9_nextToken 57 = .ok (.ifCond .ge 11, 3) := by decide +kernel
theorem dX9_nextToken_60 : decode cX9_nextToken 60 = .ok (.aload_n 0, 1) := by decide +kernel
theorem dX9_nextToken_61 : decode cX9_nextToken 61 = .ok (.iconst 0, 1) := by decide +kernel
theorem dX9_nextToken_62 : decode cX9_nextToken 62 = .ok (.putfield 120, 3) := by decide +kernel
theorem dX9_nextToken_65 : decode cX9_nextToken 65 = .ok (.goto 245, 3) := by decide +kernel
theorem dX9_nextToken_68 : decode cX9_nextToken 68 = .ok (.iload_n 1, 1) := by decide +kernel
theorem dX9_nextToken_69 : decode cX9_nextToken 69 = .ok (.invokestatic 123, 3) := by decide +kernel
theorem dX9_nextToken_72 : decode cX9_nextToken 72 = .ok (.ifCond .eq 79, 3) := by decide +kernel
theorem dX9_nextToken_75 : decode cX9_nextToken 75 = .ok (.aload_n 0, 1) := by decide +kernel
theorem dX9_nextToken_76 : decode cX9_nextToken 76 = .ok (.iconst 1, 1) := by decide +kernel
theorem dX9_nextToken_77 : decode cX9_nextToken 77 = .ok (.putfield 120, 3) := by decide +kernel
theorem dX9_nextToken_80 : decode cX9_nextToken 80 = .ok (.aload_n 0, 1) := by decide +kernel
theorem dX9_nextToken_81 : decode cX9_nextToken 81 = .ok (.iconst 0, 1) := by decide +kernel
theorem dX9_nextToken_82 : decode cX9_nextToken 82 = .ok (.putfield 126, 3) := by decide +kernel
theorem dX9_nextToken_85 : decode cX9_nextToken 85 = .ok (.aload_n 0, 1) := by decide +kernel
theorem dX9_nextToken_86 : decode cX9_nextToken 86 = .ok (.aload_n 0, 1) := by decide +kernel
theorem dX9_nextToken_87 : decode cX9_nextToken 87 = .ok (.getfield 110, 3) := by decide +kernel
theorem dX9_nextToken_90 : decode cX9_nextToken 90 = .ok (.invokevirtual 113, 3) := by decide +kernel
theorem dX9_nextToken_93 : decode cX9_nextToken 93 = .ok (.invokestatic 123, 3) := by decide +kernel
theorem dX9_nextToken_96 : decode cX9_nextToken 96 = .ok (.ifCond .eq 214, 3) := by decide +kernel
theorem dX9_nextToken_99 : decode cX9_nextToken 99 = .ok (.aload_n 0, 1) := by decide +kernel
theorem dX9_nextToken_100 : decode cX9_nextToken 100 = .ok (.aload_n 0, 1) := by decide +kernel
theorem dX9_nextToken_101 : decode cX9_nextToken 101 = .ok (.getfield 126, 3) := by decide +kernel
theorem dX9_nextToken_104 : decode cX9_nextToken 104 = .ok (.ldc 129, 2) := by decide +kernel
theorem dX9_nextToken_106 : decode cX9_nextToken 106 = .ok (.if_icmp .le 10, 3) := by decide +kernel
theorem dX9_nextToken_109 : decode cX9_nextToken 109 = .ok (.aload_n 0, 1) := by decide +kernel
theorem dX9_nextToken_110 : decode cX9_nextToken 110 = .ok (.getfield 126, 3) := by decide +kernel
theorem dX9_nextToken_113 : decode cX9_nextToken 113 = .ok (.goto 22, 3) := by decide +kernel
theorem dX9_nextToken_116 : decode cX9_nextToken 116 = .ok (.bipush 10, 2) := by decide +kernel
theorem dX9_nextToken_118 : decode cX9_nextToken 118 = .ok (.aload_n 0, 1) := by decide +kernel
theorem dX9_nextToken_119 : decode cX9_nextToken 119 = .ok (.getfield 126, 3) := by decide +kernel
theorem dX9_nextToken_122 : decode cX9_nextToken 122 = .ok (.imul, 1) := by decide +kernel
theorem dX9_nextToken_123 : decode cX9_nextToken 123 = .ok (.aload_n 0, 1) := by decide +kernel
theorem dX9_nextToken_124 : decode cX9_nextToken 124 = .ok (.aload_n 0, 1) := by decide +kernel
theorem dX9_nextToken_125 : decode cX9_nextToken 125 = .ok (.getfield 110, 3) := by decide +kernel
theorem dX9_nextToken_128 : decode cX9_nextToken 128 = .ok (.invokevirtual 113, 3) := by decide +kernel
theorem dX9_nextToken_131 : decode cX9_nextToken 131 = .ok (.iadd, 1) := by decide +kernel
theorem dX9_nextToken_132 : decode cX9_nextToken 132 = .ok (.bipush 48, 2) := by decide +kernel
theorem dX9_nextToken_134 : decode cX9_nextToken 134 = .ok (.isub, 1) := by decide +kernel
theorem dX9_nextToken_135 : decode cX9_nextToken 135 = .ok (.putfield 126, 3) := by decide +kernel
theorem dX9_nextToken_138 : decode cX9_nextToken 138 = .ok (.aload_n 0, 1) := by decide +kernel
theorem dX9_nextToken_139 : decode cX9_nextToken 139 = .ok (.dup, 1) := by decide +kernel
theorem dX9_nextToken_140 : decode cX9_nextToken 140 = .ok (.getfield 110, 3) := by decide +kernel
theorem dX9_nextToken_143 : decode cX9_nextToken 143 = .ok (.iconst 1, 1) := by decide +kernel
theorem dX9_nextToken_144 : decode cX9_nextToken 144 = .ok (.iadd, 1) := by decide +kernel
theorem dX9_nextToken_145 : decode cX9_nextToken 145 = .ok (.putfield 110, 3) := by decide +kernel
theorem dX9_nextToken_148 : decode cX9_nextToken 148 = .ok (.goto (-63), 3) := by decide +kernel
theorem dX9_nextToken_151 : decode cX9_nextToken 151 = .ok (.iload_n 1, 1) := by decide +kernel
theorem dX9_nextToken_152 : decode cX9_nextToken 152 = .ok (.invokestatic 130, 3) := by decide +kernel
theorem dX9_nextToken_155 : decode cX9_nextToken 155 = .ok (.ifCond .eq 79, 3) := by decide +kernel
theorem dX9_nextToken_158 : decode cX9_nextToken 158 = .ok (.aload_n 0, 1) := by decide +kernel
theorem dX9_nextToken_159 : decode cX9_nextToken 159 = .ok (.iconst 2, 1) := by decide +kernel
theorem dX9_nextToken_160 : decode cX9_nextToken 160 = .ok (.putfield 120, 3) := by decide +kernel
theorem dX9_nextToken_163 : decode cX9_nextToken 163 = .ok (.aload_n 0, 1) := by decide +kernel
theorem dX9_nextToken_164 : decode cX9_nextToken 164 = .ok (.lconst 0, 1) := by decide +kernel
theorem dX9_nextToken_165 : decode cX9_nextToken 165 = .ok (.putfield 133, 3) := by decide +kernel
theorem dX9_nextToken_168 : decode cX9_nextToken 168 = .ok (.aload_n 0, 1) := by decide +kernel
theorem dX9_nextToken_169 : decode cX9_nextToken 169 = .ok (.aload_n 0, 1) := by decide +kernel
theorem dX9_nextToken_170 : decode cX9_nextToken 170 = .ok (.getfield 110, 3) := by decide +kernel
theorem dX9_nextToken_173 : decode cX9_nextToken 173 = .ok (.invokevirtual 113, 3) := by decide +kernel
theorem dX9_nextToken_176 : decode cX9_nextToken 176 = .ok (.invokestatic 130, 3) := by decide +kernel
theorem dX9_nextToken_179 : decode cX9_nextToken 179 = .ok (.ifCond .eq 131, 3) := by decide +kernel
theorem dX9_nextToken_182 : decode cX9_nextToken 182 = .ok (.aload_n 0, 1) := by decide +kernel
theorem dX9_nextToken_183 : decode cX9_nextToken 183 = .ok (.aload_n 0, 1) := by decide +kernel
theorem dX9_nextToken_184 : decode cX9_nextToken 184 = .ok (.getfield 133, 3) := by decide +kernel
theorem dX9_nextToken_187 : decode cX9_nextToken 187 = .ok (.bipush 48, 2) := by decide +kernel
theorem dX9_nextToken_189 : decode cX9_nextToken 189 = .ok (.lshr, 1) := by decide +kernel
theorem dX9_nextToken_190 : decode cX9_nextToken 190 = .ok (.lconst 0, 1) := by decide +kernel
theorem dX9_nextToken_191 : decode cX9_nextToken 191 = .ok (.lcmp, 1) := by decide +kernel
theorem dX9_nextToken_192 : decode cX9_nextToken 192 = .ok (.ifCond .eq 9, 3) := by decide +kernel
theorem dX9_nextToken_195 : decode cX9_nextToken 195 = .ok (.ldc2_w 137, 3) := by decide +kernel
theorem dX9_nextToken_198 : decode cX9_nextToken 198 = .ok (.goto 20, 3) := by decide +kernel
theorem dX9_nextToken_201 : decode cX9_nextToken 201 = .ok (.aload_n 0, 1) := by decide +kernel
theorem dX9_nextToken_202 : decode cX9_nextToken 202 = .ok (.getfield 133, 3) := by decide +kernel
theorem dX9_nextToken_205 : decode cX9_nextToken 205 = .ok (.bipush 8, 2) := by decide +kernel
theorem dX9_nextToken_207 : decode cX9_nextToken 207 = .ok (.lshl, 1) := by decide +kernel
theorem dX9_nextToken_208 : decode cX9_nextToken 208 = .ok (.aload_n 0, 1) := by decide +kernel
theorem dX9_nextToken_209 : decode cX9_nextToken 209 = .ok (.aload_n 0, 1) := by decide +kernel
theorem dX9_nextToken_210 : decode cX9_nextToken 210 = .ok (.getfield 110, 3) := by decide +kernel
theorem dX9_nextToken_213 : decode cX9_nextToken 213 = .ok (.invokevirtual 113, 3) := by decide +kernel
theorem dX9_nextToken_216 : decode cX9_nextToken 216 = .ok (.i2l, 1) := by decide +kernel
theorem dX9_nextToken_217 : decode cX9_nextToken 217 = .ok (.lor, 1) := by decide +kernel
theorem dX9_nextToken_218 : decode cX9_nextToken 218 = .ok (.putfield 133, 3) := by decide +kernel
theorem dX9_nextToken_221 : decode cX9_nextToken 221 = .ok (.aload_n 0, 1) := by decide +kernel
theorem dX9_nextToken_222 : decode cX9_nextToken 222 = .ok (.dup, 1) := by decide +kernel
theorem dX9_nextToken_223 : decode cX9_nextToken 223 = .ok (.getfield 110, 3) := by decide +kernel
theorem dX9_nextToken_226 : decode cX9_nextToken 226 = .ok (.iconst 1, 1) := by decide +kernel
theorem dX9_nextToken_227 : decode cX9_nextToken 227 = .ok (.iadd, 1) := by decide +kernel
theorem dX9_nextToken_228 : decode cX9_nextToken 228 = .ok (.putfield 110, 3) := by decide +kernel
theorem dX9_nextToken_231 : decode cX9_nextToken 231 = .ok (.goto (-63), 3) := by decide +kernel
theorem dX9_nextToken_234 : decode cX9_nextToken 234 = .ok (.aload_n 0, 1) := by decide +kernel
theorem dX9_nextToken_235 : decode cX9_nextToken 235 = .ok (.iload_n 1, 1) := by decide +kernel
theorem dX9_nextToken_236 : decode cX9_nextToken 236 = .ok (.invokestatic 139, 3) := by decide +kernel
theorem dX9_nextToken_239 : decode cX9_nextToken 239 = .ok (.ifCond .eq 7, 3) := by decide +kernel
theorem dX9_nextToken_242 : decode cX9_nextToken 242 = .ok (.iload_n 1, 1) := by decide +kernel
theorem dX9_nextToken_243 : decode cX9_nextToken 243 = .ok (.goto 4, 3) := by decide +kernel
theorem dX9_nextToken_246 : decode cX9_nextToken 246 = .ok (.iconst 3, 1) := by decide +kernel
theorem dX9_nextToken_247 : decode cX9_nextToken 247 = .ok (.putfield 120, 3) := by decide +kernel
theorem dX9_nextToken_250 : decode cX9_nextToken 250 = .ok (.aload_n 0, 1) := by decide +kernel
theorem dX9_nextToken_251 : decode cX9_nextToken 251 = .ok (.dup, 1) := by decide +kernel
theorem dX9_nextToken_252 : decode cX9_nextToken 252 = .ok (.getfield 110, 3) := by decide +kernel
theorem dX9_nextToken_255 : decode cX9_nextToken 255 = .ok (.iconst 1, 1) := by decide +kernel
theorem dX9_nextToken_256 : decode cX9_nextToken 256 = .ok (.iadd, 1) := by decide +kernel
theorem dX9_nextToken_257 : decode cX9_nextToken 257 = .ok (.putfield 110, 3) := by decide +kernel
theorem dX9_nextToken_260 : decode cX9_nextToken 260 = .ok (.iload_n 1, 1) := by decide +kernel
theorem dX9_nextToken_261 : decode cX9_nextToken 261 = .ok (.bipush 60, 2) := by decide +kernel
theorem dX9_nextToken_263 : decode cX9_nextToken 263 = .ok (.if_icmp .eq 9, 3) := by decide +kernel
theorem dX9_nextToken_266 : decode cX9_nextToken 266 = .ok (.iload_n 1, 1) := by decide +kernel
theorem dX9_nextToken_267 : decode cX9_nextToken 267 = .ok (.bipush 62, 2) := by decide +kernel
theorem dX9_nextToken_269 : decode cX9_nextToken 269 = .ok (.if_icmp .ne 41, 3) := by decide +kernel
theorem dX9_nextToken_272 : decode cX9_nextToken 272 = .ok (.aload_n 0, 1) := by decide +kernel
theorem dX9_nextToken_273 : decode cX9_nextToken 273 = .ok (.aload_n 0, 1) := by decide +kernel
theorem dX9_nextToken_274 : decode cX9_nextToken 274 = .ok (.getfield 110, 3) := by decide +kernel
theorem dX9_nextToken_277 : decode cX9_nextToken 277 = .ok (.invokevirtual 113, 3) := by decide +kernel
theorem dX9_nextToken_280 : decode cX9_nextToken 280 = .ok (.bipush 61, 2) := by decide +kernel
theorem dX9_nextToken_282 : decode cX9_nextToken 282 = .ok (.if_icmp .ne 28, 3) := by decide +kernel
theorem dX9_nextToken_285 : decode cX9_nextToken 285 = .ok (.aload_n 0, 1) := by decide +kernel
theorem dX9_nextToken_286 : decode cX9_nextToken 286 = .ok (.iload_n 1, 1) := by decide +kernel
theorem dX9_nextToken_287 : decode cX9_nextToken 287 = .ok (.bipush 60, 2) := by decide +kernel
theorem dX9_nextToken_289 : decode cX9_nextToken 289 = .ok (.if_icmp .ne 7, 3) := by decide +kernel
theorem dX9_nextToken_292 : decode cX9_nextToken 292 = .ok (.iconst 4, 1) := by decide +kernel
theorem dX9_nextToken_293 : decode cX9_nextToken 293 = .ok (.goto 4, 3) := by decide +kernel
theorem dX9_nextToken_296 : decode cX9_nextToken 296 = .ok (.iconst 5, 1) := by decide +kernel
theorem dX9_nextToken_297 : decode cX9_nextToken 297 = .ok (.putfield 120, 3) := by decide +kernel
theorem dX9_nextToken_300 : decode cX9_nextToken 300 = .ok (.aload_n 0, 1) := by decide +kernel
theorem dX9_nextToken_301 : decode cX9_nextToken 301 = .ok (.dup, 1) := by decide +kernel
theorem dX9_nextToken_302 : decode cX9_nextToken 302 = .ok (.getfield 110, 3) := by decide +kernel
theorem dX9_nextToken_305 : decode cX9_nextToken 305 = .ok (.iconst 1, 1) := by decide +kernel
theorem dX9_nextToken_306 : decode cX9_nextToken 306 = .ok (.iadd, 1) := by decide +kernel
theorem dX9_nextToken_307 : decode cX9_nextToken 307 = .ok (.putfield 110, 3) := by decide +kernel
theorem dX9_nextToken_310 : decode cX9_nextToken 310 = .ok (.return_, 1) := by decide +kernel
theorem dX9_w2_0 : decode cX9_w2 0 = .ok (.iload_n 0, 1) := by decide +kernel
theorem dX9_w2_1 : decode cX9_w2 1 = .ok (.i2l, 1) := by decide +kernel
theorem dX9_w2_2 : decode cX9_w2 2 = .ok (.bipush 8, 2) := by decide +kernel
theorem dX9_w2_4 : decode cX9_w2 4 = .ok (.lshl, 1) := by decide +kernel
theorem dX9_w2_5 : decode cX9_w2 5 = .ok (.iload_n 1, 1) := by decide +kernel
theorem dX9_w2_6 : decode cX9_w2 6 = .ok (.i2l, 1) := by decide +kernel
theorem dX9_w2_7 : decode cX9_w2 7 = .ok (.lor, 1) := by decide +kernel
theorem dX9_w2_8 : decode cX9_w2 8 = .ok (.lreturn, 1) := by decide +kernel
theorem dX9_w3_0 : decode cX9_w3 0 = .ok (.iload_n 0, 1) := by decide +kernel
theorem dX9_w3_1 : decode cX9_w3 1 = .ok (.iload_n 1, 1) := by decide +kernel
theorem dX9_w3_2 : decode cX9_w3 2 = .ok (.invokestatic 142, 3) := by decide +kernel
theorem dX9_w3_5 : decode cX9_w3 5 = .ok (.bipush 8, 2) := by decide +kernel
theorem dX9_w3_7 : decode cX9_w3 7 = .ok (.lshl, 1) := by decide +kernel
theorem dX9_w3_8 : decode cX9_w3 8 = .ok (.iload_n 2, 1) := by decide +kernel
theorem dX9_w3_9 : decode cX9_w3 9 = .ok (.i2l, 1) := by decide +kernel
theorem dX9_w3_10 : decode cX9_w3 10 = .ok (.lor, 1) := by decide +kernel
theorem dX9_w3_11 : decode cX9_w3 11 = .ok (.lreturn, 1) := by decide +kernel
theorem dX9_w4_0 : decode cX9_w4 0 = .ok (.iload_n 0, 1) := by decide +kernel
theorem dX9_w4_1 : decode cX9_w4 1 = .ok (.iload_n 1, 1) := by decide +kernel
theorem dX9_w4_2 : decode cX9_w4 2 = .ok (.iload_n 2, 1) := by decide +kernel
theorem dX9_w4_3 : decode cX9_w4 3 = .ok (.invokestatic 146, 3) := by decide +kernel
theorem dX9_w4_6 : decode cX9_w4 6 = .ok (.bipush 8, 2) := by decide +kernel
theorem dX9_w4_8 : decode cX9_w4 8 = .ok (.lshl, 1) := by decide +kernel
theorem dX9_w4_9 : decode cX9_w4 9 = .ok (.iload_n 3, 1) := by decide +kernel
theorem dX9_w4_10 : decode cX9_w4 10 = .ok (.i2l, 1) := by decide +kernel
theorem dX9_w4_11 : decode cX9_w4 11 = .ok (.lor, 1) := by decide +kernel
theorem dX9_w4_12 : decode cX9_w4 12 = .ok (.lreturn, 1) := by decide +kernel
theorem dX9_w5_0 : decode cX9_w5 0 = .ok (.iload_n 0, 1) := by decide +kernel
theorem dX9_w5_1 : decode cX9_w5 1 = .ok (.iload_n 1, 1) := by decide +kernel
theorem dX9_w5_2 : decode cX9_w5 2 = .ok (.iload_n 2, 1) := by decide +kernel
theorem dX9_w5_3 : decode cX9_w5 3 = .ok (.iload_n 3, 1) := by decide +kernel
theorem dX9_w5_4 : decode cX9_w5 4 = .ok (.invokestatic 150, 3) := by decide +kernel
theorem dX9_w5_7 : decode cX9_w5 7 = .ok (.bipush 8, 2) := by decide +kernel
theorem dX9_w5_9 : decode cX9_w5 9 = .ok (.lshl, 1) := by decide +kernel
theorem dX9_w5_10 : decode cX9_w5 10 = .ok (.iload 4, 2) := by decide +kernel
theorem dX9_w5_12 : decode cX9_w5 12 = .ok (.i2l, 1) := by decide +kernel
theorem dX9_w5_13 : decode cX9_w5 13 = .ok (.lor, 1) := by decide +kernel
theorem dX9_w5_14 : decode cX9_w5 14 = .ok (.lreturn, 1) := by decide +kernel
theorem dX9_w6_0 : decode cX9_w6 0 = .ok (.iload_n 0, 1) := by decide +kernel
theorem dX9_w6_1 : decode cX9_w6 1 = .ok (.iload_n 1, 1) := by decide +kernel
theorem dX9_w6_2 : decode cX9_w6 2 = .ok (.iload_n 2, 1) := by decide +kernel
theorem dX9_w6_3 : decode cX9_w6 3 = .ok (.iload_n 3, 1) := by decide +kernel
theorem dX9_w6_4 : decode cX9_w6 4 = .ok (.iload 4, 2) := by decide +kernel
theorem dX9_w6_6 : decode cX9_w6 6 = .ok (.invokestatic 154, 3) := by decide +kernel
theorem dX9_w6_9 : decode cX9_w6 9 = .ok (.bipush 8, 2) := by decide +kernel
theorem dX9_w6_11 : decode cX9_w6 11 = .ok (.lshl, 1) := by decide +kernel
theorem dX9_w6_12 : decode cX9_w6 12 = .ok (.iload 5, 2) := by decide +kernel
theorem dX9_w6_14 : decode cX9_w6 14 = .ok (.i2l, 1) := by decide +kernel
theorem dX9_w6_15 : decode cX9_w6 15 = .ok (.lor, 1) := by decide +kernel
theorem dX9_w6_16 : decode cX9_w6 16 = .ok (.lreturn, 1) := by decide +kernel
theorem dX9_isWord_0 : decode cX9_isWord 0 = .ok (.aload_n 0, 1) := by decide +kernel
theorem dX9_isWord_1 : decode cX9_isWord 1 = .ok (.getfield 120, 3) := by decide +kernel
theorem dX9_isWord_4 : decode cX9_isWord 4 = .ok (.iconst 2, 1) := by decide +kernel
theorem dX9_isWord_5 : decode cX9_isWord 5 = .ok (.if_icmp .ne 16, 3) := by decide +kernel
theorem dX9_isWord_8 : decode cX9_isWord 8 = .ok (.aload_n 0, 1) := by decide +kernel
theorem dX9_isWord_9 : decode cX9_isWord 9 = .ok (.getfield 133, 3) := by decide +kernel
theorem dX9_isWord_12 : decode cX9_isWord 12 = .ok (.lload_n 1, 1) := by decide +kernel
theorem dX9_isWord_13 : decode cX9_isWord 13 = .ok (.lcmp, 1) := by decide +kernel
theorem dX9_isWord_14 : decode cX9_isWord 14 = .ok (.ifCond .ne 7, 3) := by decide +kernel
theorem dX9_isWord_17 : decode cX9_isWord 17 = .ok (.iconst 1, 1) := by decide +kernel
theorem dX9_isWord_18 : decode cX9_isWord 18 = .ok (.goto 4, 3) := by decide +kernel
theorem dX9_isWord_21 : decode cX9_isWord 21 = .ok (.iconst 0, 1) := by decide +kernel
theorem dX9_isWord_22 : decode cX9_isWord 22 = .ok (.ireturn, 1) := by decide +kernel
theorem dX9_emit_0 : decode cX9_emit 0 = .ok (.aload_n 0, 1) := by decide +kernel
theorem dX9_emit_1 : decode cX9_emit 1 = .ok (.getfield 16, 3) := by decide +kernel
theorem dX9_emit_4 : decode cX9_emit 4 = .ok (.aload_n 0, 1) := by decide +kernel
theorem dX9_emit_5 : decode cX9_emit 5 = .ok (.getfield 158, 3) := by decide +kernel
theorem dX9_emit_8 : decode cX9_emit 8 = .ok (.bipush 97, 2) := by decide +kernel
theorem dX9_emit_10 : decode cX9_emit 10 = .ok (.iadd, 1) := by decide +kernel
theorem dX9_emit_11 : decode cX9_emit 11 = .ok (.iconst 2, 1) := by decide +kernel
theorem dX9_emit_12 : decode cX9_emit 12 = .ok (.aload_n 0, 1) := by decide +kernel
theorem dX9_emit_13 : decode cX9_emit 13 = .ok (.getfield 161, 3) := by decide +kernel
theorem dX9_emit_16 : decode cX9_emit 16 = .ok (.imul, 1) := by decide +kernel
theorem dX9_emit_17 : decode cX9_emit 17 = .ok (.iadd, 1) := by decide +kernel
theorem dX9_emit_18 : decode cX9_emit 18 = .ok (.iload_n 1, 1) := by decide +kernel
theorem dX9_emit_19 : decode cX9_emit 19 = .ok (.iastore, 1) := by decide +kernel
theorem dX9_emit_20 : decode cX9_emit 20 = .ok (.aload_n 0, 1) := by decide +kernel
theorem dX9_emit_21 : decode cX9_emit 21 = .ok (.getfield 16, 3) := by decide +kernel
theorem dX9_emit_24 : decode cX9_emit 24 = .ok (.aload_n 0, 1) := by decide +kernel
theorem dX9_emit_25 : decode cX9_emit 25 = .ok (.getfield 158, 3) := by decide +kernel
theorem dX9_emit_28 : decode cX9_emit 28 = .ok (.bipush 97, 2) := by decide +kernel
theorem dX9_emit_30 : decode cX9_emit 30 = .ok (.iadd, 1) := by decide +kernel
theorem dX9_emit_31 : decode cX9_emit 31 = .ok (.iconst 2, 1) := by decide +kernel
theorem dX9_emit_32 : decode cX9_emit 32 = .ok (.aload_n 0, 1) := by decide +kernel
theorem dX9_emit_33 : decode cX9_emit 33 = .ok (.getfield 161, 3) := by decide +kernel
theorem dX9_emit_36 : decode cX9_emit 36 = .ok (.imul, 1) := by decide +kernel
theorem dX9_emit_37 : decode cX9_emit 37 = .ok (.iadd, 1) := by decide +kernel
theorem dX9_emit_38 : decode cX9_emit 38 = .ok (.iconst 1, 1) := by decide +kernel
theorem dX9_emit_39 : decode cX9_emit 39 = .ok (.iadd, 1) := by decide +kernel
theorem dX9_emit_40 : decode cX9_emit 40 = .ok (.iload_n 2, 1) := by decide +kernel
theorem dX9_emit_41 : decode cX9_emit 41 = .ok (.iastore, 1) := by decide +kernel
theorem dX9_emit_42 : decode cX9_emit 42 = .ok (.aload_n 0, 1) := by decide +kernel
theorem dX9_emit_43 : decode cX9_emit 43 = .ok (.dup, 1) := by decide +kernel
theorem dX9_emit_44 : decode cX9_emit 44 = .ok (.getfield 161, 3) := by decide +kernel
theorem dX9_emit_47 : decode cX9_emit 47 = .ok (.iconst 1, 1) := by decide +kernel
theorem dX9_emit_48 : decode cX9_emit 48 = .ok (.iadd, 1) := by decide +kernel
theorem dX9_emit_49 : decode cX9_emit 49 = .ok (.putfield 161, 3) := by decide +kernel
theorem dX9_emit_52 : decode cX9_emit 52 = .ok (.return_, 1) := by decide +kernel
section
variable {p : Program} {l : Launch} {e : Env} {R : Room} {s : State} {m : MethodId} {args : Array Value} {below : List Frame} {meth : Method} {c : Code} {Q : State → Prop} {V : g_V} {nf nl : Nat}
set_option maxRecDepth 100000 in
set_option maxHeartbeats 4000000 in
theorem b_X9_isIn (C : g_CX mG V p R s m args meth c cX9_isIn 3 (some .boolean) RX9 0 0) {res : Int} {M : g_M} (hR : g_RetI mG V p l e R s m args below meth c Q cX9_isIn .boolean res M) {a1 : Int} {a2 : Int} {a3 : Int} {H : Heap} {locs : List Loc} {ls : Array Slot} (h : m_X9_isIn a1 a2 a3 = some res) (hp : g_PT mG V M s H locs) (hl : lv_has ls 3 [(0, .int (gI a1)), (1, .int (gI a2)), (2, .int (gI a3))]) : W p l e R s m args below meth c H locs 0 0 Q (F0 m 0 ls []) := by
  unfold m_X9_isIn at h
  refine r_jn (P := fun J => ∀  (H : Heap) (locs : List Loc) (ls : Array Slot), J  = some res → g_PT mG V M s H locs → lv_has ls 3 [] → W p l e R s m args below meth c H locs 0 0 Q (F0 m 14 ls [])) h ?_ (fun J11 hJ11 h => ?_)
  · intro  H locs ls h hp hl
    refine r_iconst C dX9_isIn_14 ?_
    cases h
    exact hR _ _ _ _ dX9_isIn_15 g_nz0 hp
  refine lv_iload_n C.1 C.2.1 dX9_isIn_0 rfl (lv_at hl 0 rfl) ?_
  refine lv_iload_n C.1 C.2.1 dX9_isIn_1 rfl (lv_at hl 1 rfl) ?_
  refine r_icmp_lt (tgt := 14) C h dX9_isIn_2 (by decide) (fun h => ?_) (fun h => ?_)
  · exact hJ11  _ _ _ h hp (lv_sub hl [] rfl)
  · refine lv_iload_n C.1 C.2.1 dX9_isIn_5 rfl (lv_at hl 0 rfl) ?_
    refine lv_iload_n C.1 C.2.1 dX9_isIn_6 rfl (lv_at hl 2 rfl) ?_
    refine r_icmp_gt (tgt := 14) C h dX9_isIn_7 (by decide) (fun h => ?_) (fun h => ?_)
    · exact hJ11  _ _ _ h hp (lv_sub hl [] rfl)
    · refine r_iconst C dX9_isIn_10 ?_
      refine r_goto (tgt := 15) C dX9_isIn_11 (by decide) ?_
      cases h
      exact hR _ _ _ _ dX9_isIn_15 g_nz1 hp
theorem c_X9_isIn (l : Launch) {V : g_V} (hok : g_ok mG V) {a1 : Int} {a2 : Int} {a3 : Int} {M : g_M} {x : Int} (h : m_X9_isIn a1 a2 a3 = some x) : MetI mG V l yX9_isIn cX9_isIn 3 (some .boolean) 0 0 [.int (gI a1), .int (gI a2), .int (gI a3)] M x M :=
  g_metI hok cal_X9_isIn.2.2.2 rfl (Nat.le_of_ble_eq_true rfl) (@fun p e R s m args below meth c Q ls C hR hp hl => b_X9_isIn C hR h hp hl)
set_option maxRecDepth 100000 in
set_option maxHeartbeats 4000000 in
theorem b_X9_cut (C : g_CX mG V p R s m args meth c cX9_cut 4 (some .int) RX9 0 0) {res : Int} {M : g_M} (hR : g_RetI mG V p l e R s m args below meth c Q cX9_cut .int res M) {a1 : Int} {a2 : Int} {a3 : Int} {H : Heap} {locs : List Loc} {ls : Array Slot} (h : m_X9_cut a1 a2 a3 = some res) (hp : g_PT mG V M s H locs) (hl : lv_has ls 4 [(0, .long (gJ a1)), (2, .int (gI a2)), (3, .int (gI a3))]) : W p l e R s m args below meth c H locs 0 0 Q (F0 m 0 ls []) := by
  unfold m_X9_cut at h
  refine lv_lload_n C.1 C.2.1 dX9_cut_0 rfl (lv_at hl 0 rfl) ?_
  refine lv_iload_n C.1 C.2.1 dX9_cut_1 rfl (lv_at hl 1 rfl) ?_
  refine r_i2l C dX9_cut_2 ?_
  refine r_lcmp C dX9_cut_3 ?_
  refine r_if_ge (tgt := 11) C h dX9_cut_4 (by decide) (fun h => ?_) (fun h => ?_)
  · refine lv_lload_n C.1 C.2.1 dX9_cut_11 rfl (lv_at hl 0 rfl) ?_
    refine lv_iload_n C.1 C.2.1 dX9_cut_12 rfl (lv_at hl 2 rfl) ?_
    refine r_i2l C dX9_cut_13 ?_
    refine r_lcmp C dX9_cut_14 ?_
    refine r_if_le (tgt := 22) C h dX9_cut_15 (by decide) (fun h => ?_) (fun h => ?_)
    · refine lv_lload_n C.1 C.2.1 dX9_cut_22 rfl (lv_at hl 0 rfl) ?_
      refine r_l2i C dX9_cut_23 ?_
      cases h
      exact hR _ _ _ _ dX9_cut_24 rfl hp
    · refine lv_iload_n C.1 C.2.1 dX9_cut_18 rfl (lv_at hl 2 rfl) ?_
      refine r_goto (tgt := 24) C dX9_cut_19 (by decide) ?_
      cases h
      exact hR _ _ _ _ dX9_cut_24 rfl hp
  · refine lv_iload_n C.1 C.2.1 dX9_cut_7 rfl (lv_at hl 1 rfl) ?_
    refine r_goto (tgt := 24) C dX9_cut_8 (by decide) ?_
    cases h
    exact hR _ _ _ _ dX9_cut_24 rfl hp
theorem c_X9_cut (l : Launch) {V : g_V} (hok : g_ok mG V) {a1 : Int} {a2 : Int} {a3 : Int} {M : g_M} {x : Int} (h : m_X9_cut a1 a2 a3 = some x) : MetI mG V l yX9_cut cX9_cut 4 (some .int) 0 0 [.long (gJ a1), .int (gI a2), .int (gI a3)] M x M :=
  g_metI hok cal_X9_cut.2.2.2 rfl (Nat.le_of_ble_eq_true rfl) (@fun p e R s m args below meth c Q ls C hR hp hl => b_X9_cut C hR h hp hl)
set_option maxRecDepth 100000 in
set_option maxHeartbeats 4000000 in
theorem b_X9_has (C : g_CX mG V p R s m args meth c cX9_has 2 (some .boolean) RX9 0 0) {res : Int} {M : g_M} (hR : g_RetI mG V p l e R s m args below meth c Q cX9_has .boolean res M) {a1 : Int} {a2 : Int} {H : Heap} {locs : List Loc} {ls : Array Slot} (h : m_X9_has a1 a2 = some res) (hp : g_PT mG V M s H locs) (hl : lv_has ls 2 [(0, .int (gI a1)), (1, .int (gI a2))]) : W p l e R s m args below meth c H locs 0 0 Q (F0 m 0 ls []) := by
  unfold m_X9_has at h
  refine lv_iload_n C.1 C.2.1 dX9_has_0 rfl (lv_at hl 0 rfl) ?_
  refine lv_iload_n C.1 C.2.1 dX9_has_1 rfl (lv_at hl 1 rfl) ?_
  refine r_ishr C dX9_has_2 ?_
  refine r_iconst C dX9_has_3 ?_
  refine r_iand C dX9_has_4 ?_
  refine r_iconst C dX9_has_5 ?_
  refine r_icmp_ne (tgt := 13) C h dX9_has_6 (by decide) (fun h => ?_) (fun h => ?_)
  · refine r_iconst C dX9_has_13 ?_
    cases h
    exact hR _ _ _ _ dX9_has_14 g_nz0 hp
  · refine r_iconst C dX9_has_9 ?_
    refine r_goto (tgt := 14) C dX9_has_10 (by decide) ?_
    cases h
    exact hR _ _ _ _ dX9_has_14 g_nz1 hp
theorem c_X9_has (l : Launch) {V : g_V} (hok : g_ok mG V) {a1 : Int} {a2 : Int} {M : g_M} {x : Int} (h : m_X9_has a1 a2 = some x) : MetI mG V l yX9_has cX9_has 2 (some .boolean) 0 0 [.int (gI a1), .int (gI a2)] M x M :=
  g_metI hok cal_X9_has.2.2.2 rfl (Nat.le_of_ble_eq_true rfl) (@fun p e R s m args below meth c Q ls C hR hp hl => b_X9_has C hR h hp hl)
set_option maxRecDepth 100000 in
set_option maxHeartbeats 4000000 in
theorem w_X9_bits_L4 (C : g_CX mG V p R s m args meth c cX9_bits 3 (some .int) RX9 0 0) {res : Int} {M : g_M} (hR : g_RetI mG V p l e R s m args below meth c Q cX9_bits .int res M)    : ∀ (f : Nat) (x13 : Int) (x14 : Int) (H : Heap) (locs : List Loc) (ls : Array Slot), m_X9_bits_L4  f x13 x14 = some res → g_PT mG V M s H locs → lv_has ls 3 [(1, .int (gI x13)), (2, .int (gI x14))] → W p l e R s m args below meth c H locs 0 0 Q (F0 m 4 ls []) := by
  intro f
  induction f with
  | zero => intro x13 x14 H locs ls h hp hl; cases h
  | succ f ih =>
    intro x13 x14 H locs ls h hp hl
    rw [m_X9_bits_L4] at h
    refine lv_iload_n C.1 C.2.1 dX9_bits_4 rfl (lv_at hl 1 rfl) ?_
    refine r_if_eq (tgt := 20) C h dX9_bits_5 (by decide) (fun h => ?_) (fun h => ?_)
    · refine lv_iload_n C.1 C.2.1 dX9_bits_20 rfl (lv_at hl 0 rfl) ?_
      cases h
      exact hR _ _ _ _ dX9_bits_21 rfl hp
    · refine r_iinc (lv' := fun x15 => [(1, .int (gI x15)), (2, .int (gI x14))]) C h dX9_bits_8 hl (j := 0) rfl (by decide) (fun _ => rfl) (fun x15 ls h hl => ?_)
      refine lv_iload_n C.1 C.2.1 dX9_bits_11 rfl (lv_at hl 1 rfl) ?_
      refine lv_iload_n C.1 C.2.1 dX9_bits_12 rfl (lv_at hl 1 rfl) ?_
      refine r_iconst C dX9_bits_13 ?_
      refine r_isub C dX9_bits_14 ?_
      refine r_iand C dX9_bits_15 ?_
      refine r_istore_n (lv' := fun x16 => [(2, .int (gI x16)), (1, .int (gI x15))]) C h dX9_bits_16 rfl hl (by decide) (fun _ => rfl) (fun x16 ls h hl => ?_)
      refine r_goto (tgt := 4) C dX9_bits_17 (by decide) ?_
      exact ih _ _ _ _ _ h hp (lv_sub hl [1, 0] rfl)
set_option maxRecDepth 100000 in
set_option maxHeartbeats 4000000 in
theorem b_X9_bits (C : g_CX mG V p R s m args meth c cX9_bits 3 (some .int) RX9 0 0) {res : Int} {M : g_M} (hR : g_RetI mG V p l e R s m args below meth c Q cX9_bits .int res M) {a1 : Int} {H : Heap} {locs : List Loc} {ls : Array Slot} (h : m_X9_bits a1 = some res) (hp : g_PT mG V M s H locs) (hl : lv_has ls 3 [(0, .int (gI a1))]) : W p l e R s m args below meth c H locs 0 0 Q (F0 m 0 ls []) := by
  unfold m_X9_bits at h
  refine r_iconst C dX9_bits_0 ?_
  refine r_istore_n (lv' := fun x11 => [(1, .int (gI x11)), (0, .int (gI a1))]) C h dX9_bits_1 rfl hl (by decide) (fun _ => rfl) (fun x11 ls h hl => ?_)
  refine lv_iload_n C.1 C.2.1 dX9_bits_2 rfl (lv_at hl 1 rfl) ?_
  refine r_istore_n (lv' := fun x12 => [(2, .int (gI x12)), (1, .int (gI x11)), (0, .int (gI a1))]) C h dX9_bits_3 rfl hl (by decide) (fun _ => rfl) (fun x12 ls h hl => ?_)
  refine w_X9_bits_L4 C hR _ _ _ H locs ls h hp (lv_sub hl [1, 0] rfl)
theorem c_X9_bits (l : Launch) {V : g_V} (hok : g_ok mG V) {a1 : Int} {M : g_M} {x : Int} (h : m_X9_bits a1 = some x) : MetI mG V l yX9_bits cX9_bits 3 (some .int) 0 0 [.int (gI a1)] M x M :=
  g_metI hok cal_X9_bits.2.2.2 rfl (Nat.le_of_ble_eq_true rfl) (@fun p e R s m args below meth c Q ls C hR hp hl => b_X9_bits C hR h hp hl)
set_option maxRecDepth 100000 in
set_option maxHeartbeats 4000000 in
theorem b_X9_isScene (C : g_CX mG V p R s m args meth c cX9_isScene 1 (some .boolean) RX9 1 22) {res : Int} {M : g_M} (hR : g_RetI mG V p l e R s m args below meth c Q cX9_isScene .boolean res M) {a1 : Int} {H : Heap} {locs : List Loc} {ls : Array Slot} (h : m_X9_isScene a1 = some res) (hp : g_PT mG V M s H locs) (hl : lv_has ls 1 [(0, .int (gI a1))]) : W p l e R s m args below meth c H locs 0 0 Q (F0 m 0 ls []) := by
  unfold m_X9_isScene at h
  refine lv_iload_n C.1 C.2.1 dX9_isScene_0 rfl (lv_at hl 0 rfl) ?_
  refine r_iconst C dX9_isScene_1 ?_
  refine r_bipush C dX9_isScene_2 (by decide +kernel) ?_
  obtain ⟨x11, hr, h⟩ := bd_of h
  refine r_callSI (As := [.int (gI a1), .int (gI 0), .int (gI 11)]) (rest := []) C hl.1 hp (c_X9_isIn l C.2.2.2.2.2.2.2.2.2.2.2 hr) gw_1378 gw_1379 cal_X9_isIn rfl rfl (Nat.le_of_ble_eq_true rfl) ⟨Nat.le_of_ble_eq_true rfl, Nat.le_of_ble_eq_true rfl⟩ dX9_isScene_4 (fun H locs hp => ?_)
  obtain ⟨hg, h⟩ := gd_of h
  cases h
  exact hR _ _ _ _ dX9_isScene_7 (g_nzg hg) hp
theorem c_X9_isScene (l : Launch) {V : g_V} (hok : g_ok mG V) {a1 : Int} {M : g_M} {x : Int} (h : m_X9_isScene a1 = some x) : MetI mG V l yX9_isScene cX9_isScene 1 (some .boolean) 1 22 [.int (gI a1)] M x M :=
  g_metI hok cal_X9_isScene.2.2.2 rfl (Nat.le_of_ble_eq_true rfl) (@fun p e R s m args below meth c Q ls C hR hp hl => b_X9_isScene C hR h hp hl)
set_option maxRecDepth 100000 in
set_option maxHeartbeats 4000000 in
theorem b_X9_isAny (C : g_CX mG V p R s m args meth c cX9_isAny 1 (some .boolean) RX9 1 22) {res : Int} {M : g_M} (hR : g_RetI mG V p l e R s m args below meth c Q cX9_isAny .boolean res M) {a1 : Int} {H : Heap} {locs : List Loc} {ls : Array Slot} (h : m_X9_isAny a1 = some res) (hp : g_PT mG V M s H locs) (hl : lv_has ls 1 [(0, .int (gI a1))]) : W p l e R s m args below meth c H locs 0 0 Q (F0 m 0 ls []) := by
  unfold m_X9_isAny at h
  refine lv_iload_n C.1 C.2.1 dX9_isAny_0 rfl (lv_at hl 0 rfl) ?_
  refine r_iconst C dX9_isAny_1 ?_
  refine r_bipush C dX9_isAny_2 (by decide +kernel) ?_
  obtain ⟨x11, hr, h⟩ := bd_of h
  refine r_callSI (As := [.int (gI a1), .int (gI 0), .int (gI 12)]) (rest := []) C hl.1 hp (c_X9_isIn l C.2.2.2.2.2.2.2.2.2.2.2 hr) gw_1378 gw_1379 cal_X9_isIn rfl rfl (Nat.le_of_ble_eq_true rfl) ⟨Nat.le_of_ble_eq_true rfl, Nat.le_of_ble_eq_true rfl⟩ dX9_isAny_4 (fun H locs hp => ?_)
  obtain ⟨hg, h⟩ := gd_of h
  cases h
  exact hR _ _ _ _ dX9_isAny_7 (g_nzg hg) hp
theorem c_X9_isAny (l : Launch) {V : g_V} (hok : g_ok mG V) {a1 : Int} {M : g_M} {x : Int} (h : m_X9_isAny a1 = some x) : MetI mG V l yX9_isAny cX9_isAny 1 (some .boolean) 1 22 [.int (gI a1)] M x M :=
  g_metI hok cal_X9_isAny.2.2.2 rfl (Nat.le_of_ble_eq_true rfl) (@fun p e R s m args below meth c Q ls C hR hp hl => b_X9_isAny C hR h hp hl)
set_option maxRecDepth 100000 in
set_option maxHeartbeats 4000000 in
theorem b_X9_isPerson (C : g_CX mG V p R s m args meth c cX9_isPerson 2 (some .boolean) RX9 1 22) {res : Int} {M : g_M} (hR : g_RetI mG V p l e R s m args below meth c Q cX9_isPerson .boolean res M) {a1 : Int} {H : Heap} {locs : List Loc} {ls : Array Slot} (h : m_X9_isPerson a1 M = some res) (hp : g_PT mG V M s H locs) (hl : lv_has ls 2 [(0, .ref (V.2.2 0)), (1, .int (gI a1))]) : W p l e R s m args below meth c H locs 0 0 Q (F0 m 0 ls []) := by
  unfold m_X9_isPerson at h
  refine lv_iload_n C.1 C.2.1 dX9_isPerson_0 rfl (lv_at hl 1 rfl) ?_
  refine r_iconst C dX9_isPerson_1 ?_
  refine lv_aload_n C.1 C.2.1 dX9_isPerson_2 rfl (lv_at hl 0 rfl) ?_
  refine r_getr (t := 1) C hp mk_0 ms_0 mc_0 min_0 (j := 0) (by decide) rfl gw_1256 rfl dX9_isPerson_3 ?_
  refine r_iconst C dX9_isPerson_6 ?_
  refine r_iald C hp h mk_1 ms_1 dX9_isPerson_7 (fun h => ?_)
  refine r_iconst C dX9_isPerson_8 ?_
  refine r_isub C dX9_isPerson_9 ?_
  obtain ⟨x11, hr, h⟩ := bd_of h
  refine r_callSI (As := [.int (gI a1), .int (gI 0), .int (gI ((M 1 (gs 0).toNat) - 1))]) (rest := []) C hl.1 hp (c_X9_isIn l C.2.2.2.2.2.2.2.2.2.2.2 hr) gw_1378 gw_1379 cal_X9_isIn rfl rfl (Nat.le_of_ble_eq_true rfl) ⟨Nat.le_of_ble_eq_true rfl, Nat.le_of_ble_eq_true rfl⟩ dX9_isPerson_10 (fun H locs hp => ?_)
  obtain ⟨hg, h⟩ := gd_of h
  cases h
  exact hR _ _ _ _ dX9_isPerson_13 (g_nzg hg) hp
theorem c_X9_isPerson (l : Launch) {V : g_V} (hok : g_ok mG V) {a1 : Int} {M : g_M} {x : Int} (h : m_X9_isPerson a1 M = some x) : MetI mG V l yX9_isPerson cX9_isPerson 2 (some .boolean) 1 22 [.ref (V.2.2 0), .int (gI a1)] M x M :=
  g_metI hok cal_X9_isPerson.2.2.2 rfl (Nat.le_of_ble_eq_true rfl) (@fun p e R s m args below meth c Q ls C hR hp hl => b_X9_isPerson C hR h hp hl)
set_option maxRecDepth 100000 in
set_option maxHeartbeats 4000000 in
theorem b_X9_get (C : g_CX mG V p R s m args meth c cX9_get 3 (some .int) RX9 0 0) {res : Int} {M : g_M} (hR : g_RetI mG V p l e R s m args below meth c Q cX9_get .int res M) {a1 : Int} {a2 : Int} {H : Heap} {locs : List Loc} {ls : Array Slot} (h : m_X9_get a1 a2 M = some res) (hp : g_PT mG V M s H locs) (hl : lv_has ls 3 [(0, .ref (V.2.2 0)), (1, .int (gI a1)), (2, .int (gI a2))]) : W p l e R s m args below meth c H locs 0 0 Q (F0 m 0 ls []) := by
  unfold m_X9_get at h
  refine lv_aload_n C.1 C.2.1 dX9_get_0 rfl (lv_at hl 0 rfl) ?_
  refine r_getr (t := 1) C hp mk_0 ms_0 mc_0 min_0 (j := 0) (by decide) rfl gw_1256 rfl dX9_get_1 ?_
  refine r_bipush C dX9_get_4 (by decide +kernel) ?_
  refine r_iconst C dX9_get_6 ?_
  refine lv_iload_n C.1 C.2.1 dX9_get_7 rfl (lv_at hl 1 rfl) ?_
  refine r_imul C dX9_get_8 ?_
  refine r_iadd C dX9_get_9 ?_
  refine lv_iload_n C.1 C.2.1 dX9_get_10 rfl (lv_at hl 2 rfl) ?_
  refine r_iadd C dX9_get_11 ?_
  refine r_iald C hp h mk_1 ms_1 dX9_get_12 (fun h => ?_)
  cases h
  exact hR _ _ _ _ dX9_get_13 rfl hp
theorem c_X9_get (l : Launch) {V : g_V} (hok : g_ok mG V) {a1 : Int} {a2 : Int} {M : g_M} {x : Int} (h : m_X9_get a1 a2 M = some x) : MetI mG V l yX9_get cX9_get 3 (some .int) 0 0 [.ref (V.2.2 0), .int (gI a1), .int (gI a2)] M x M :=
  g_metI hok cal_X9_get.2.2.2 rfl (Nat.le_of_ble_eq_true rfl) (@fun p e R s m args below meth c Q ls C hR hp hl => b_X9_get C hR h hp hl)
set_option maxRecDepth 100000 in
set_option maxHeartbeats 4000000 in
theorem b_X9_put (C : g_CX mG V p R s m args meth c cX9_put 4 none RX9 0 0) {res : g_M} (hR : g_RetV mG V p l e R s m args below meth c Q cX9_put res) {a1 : Int} {a2 : Int} {a3 : Int} {M : g_M} {H : Heap} {locs : List Loc} {ls : Array Slot} (h : m_X9_put a1 a2 a3 M = some res) (hp : g_PT mG V M s H locs) (hl : lv_has ls 4 [(0, .ref (V.2.2 0)), (1, .int (gI a1)), (2, .int (gI a2)), (3, .int (gI a3))]) : W p l e R s m args below meth c H locs 0 0 Q (F0 m 0 ls []) := by
  unfold m_X9_put at h
  refine lv_aload_n C.1 C.2.1 dX9_put_0 rfl (lv_at hl 0 rfl) ?_
  refine r_getr (t := 1) C hp mk_0 ms_0 mc_0 min_0 (j := 0) (by decide) rfl gw_1256 rfl dX9_put_1 ?_
  refine r_bipush C dX9_put_4 (by decide +kernel) ?_
  refine r_iconst C dX9_put_6 ?_
  refine lv_iload_n C.1 C.2.1 dX9_put_7 rfl (lv_at hl 1 rfl) ?_
  refine r_imul C dX9_put_8 ?_
  refine r_iadd C dX9_put_9 ?_
  refine lv_iload_n C.1 C.2.1 dX9_put_10 rfl (lv_at hl 2 rfl) ?_
  refine r_iadd C dX9_put_11 ?_
  refine lv_iload_n C.1 C.2.1 dX9_put_12 rfl (lv_at hl 3 rfl) ?_
  refine r_iast C hp h mk_1 ms_1 dX9_put_13 (fun M11 H locs h hp => ?_)
  cases h
  exact hR _ _ _ _ dX9_put_14 hp
theorem c_X9_put (l : Launch) {V : g_V} (hok : g_ok mG V) {a1 : Int} {a2 : Int} {a3 : Int} {M : g_M} {res : g_M} (h : m_X9_put a1 a2 a3 M = some res) : MetV mG V l yX9_put cX9_put 4 none 0 0 [.ref (V.2.2 0), .int (gI a1), .int (gI a2), .int (gI a3)] M res :=
  g_metV hok cal_X9_put.2.2.2 rfl (Nat.le_of_ble_eq_true rfl) (@fun p e R s m args below meth c Q ls C hR hp hl => b_X9_put C hR h hp hl)
set_option maxRecDepth 100000 in
set_option maxHeartbeats 4000000 in
theorem b_X9_nextOf (C : g_CX mG V p R s m args meth c cX9_nextOf 3 (some .int) RX9 0 0) {res : Int} {M : g_M} (hR : g_RetI mG V p l e R s m args below meth c Q cX9_nextOf .int res M) {a1 : Int} {a2 : Int} {H : Heap} {locs : List Loc} {ls : Array Slot} (h : m_X9_nextOf a1 a2 M = some res) (hp : g_PT mG V M s H locs) (hl : lv_has ls 3 [(0, .ref (V.2.2 0)), (1, .int (gI a1)), (2, .int (gI a2))]) : W p l e R s m args below meth c H locs 0 0 Q (F0 m 0 ls []) := by
  unfold m_X9_nextOf at h
  refine lv_iload_n C.1 C.2.1 dX9_nextOf_0 rfl (lv_at hl 1 rfl) ?_
  refine r_bipush C dX9_nextOf_1 (by decide +kernel) ?_
  refine r_icmp_ne (tgt := 11) C h dX9_nextOf_3 (by decide) (fun h => ?_) (fun h => ?_)
  · refine lv_iload_n C.1 C.2.1 dX9_nextOf_11 rfl (lv_at hl 2 rfl) ?_
    refine r_if_ne (tgt := 27) C h dX9_nextOf_12 (by decide) (fun h => ?_) (fun h => ?_)
    · refine lv_aload_n C.1 C.2.1 dX9_nextOf_27 rfl (lv_at hl 0 rfl) ?_
      refine r_getr (t := 1) C hp mk_0 ms_0 mc_0 min_0 (j := 0) (by decide) rfl gw_1256 rfl dX9_nextOf_28 ?_
      refine r_bipush C dX9_nextOf_31 (by decide +kernel) ?_
      refine r_iconst C dX9_nextOf_33 ?_
      refine lv_iload_n C.1 C.2.1 dX9_nextOf_34 rfl (lv_at hl 1 rfl) ?_
      refine r_imul C dX9_nextOf_35 ?_
      refine r_iadd C dX9_nextOf_36 ?_
      refine lv_iload_n C.1 C.2.1 dX9_nextOf_37 rfl (lv_at hl 2 rfl) ?_
      refine r_iadd C dX9_nextOf_38 ?_
      refine r_iald C hp h mk_1 ms_1 dX9_nextOf_39 (fun h => ?_)
      cases h
      exact hR _ _ _ _ dX9_nextOf_40 rfl hp
    · refine lv_aload_n C.1 C.2.1 dX9_nextOf_15 rfl (lv_at hl 0 rfl) ?_
      refine r_getr (t := 1) C hp mk_0 ms_0 mc_0 min_0 (j := 0) (by decide) rfl gw_1256 rfl dX9_nextOf_16 ?_
      refine r_bipush C dX9_nextOf_19 (by decide +kernel) ?_
      refine lv_iload_n C.1 C.2.1 dX9_nextOf_21 rfl (lv_at hl 1 rfl) ?_
      refine r_iadd C dX9_nextOf_22 ?_
      refine r_iald C hp h mk_1 ms_1 dX9_nextOf_23 (fun h => ?_)
      refine r_goto (tgt := 40) C dX9_nextOf_24 (by decide) ?_
      cases h
      exact hR _ _ _ _ dX9_nextOf_40 rfl hp
  · refine r_bipush C dX9_nextOf_6 (by decide +kernel) ?_
    refine r_goto (tgt := 40) C dX9_nextOf_8 (by decide) ?_
    cases h
    exact hR _ _ _ _ dX9_nextOf_40 rfl hp
theorem c_X9_nextOf (l : Launch) {V : g_V} (hok : g_ok mG V) {a1 : Int} {a2 : Int} {M : g_M} {x : Int} (h : m_X9_nextOf a1 a2 M = some x) : MetI mG V l yX9_nextOf cX9_nextOf 3 (some .int) 0 0 [.ref (V.2.2 0), .int (gI a1), .int (gI a2)] M x M :=
  g_metI hok cal_X9_nextOf.2.2.2 rfl (Nat.le_of_ble_eq_true rfl) (@fun p e R s m args below meth c Q ls C hR hp hl => b_X9_nextOf C hR h hp hl)
set_option maxRecDepth 100000 in
set_option maxHeartbeats 4000000 in
theorem b_X9_isSeen (C : g_CX mG V p R s m args meth c cX9_isSeen 2 (some .boolean) RX9 1 22) {res : Int} {M : g_M} (hR : g_RetI mG V p l e R s m args below meth c Q cX9_isSeen .boolean res M) {a1 : Int} {H : Heap} {locs : List Loc} {ls : Array Slot} (h : m_X9_isSeen a1 M = some res) (hp : g_PT mG V M s H locs) (hl : lv_has ls 2 [(0, .ref (V.2.2 0)), (1, .int (gI a1))]) : W p l e R s m args below meth c H locs 0 0 Q (F0 m 0 ls []) := by
  unfold m_X9_isSeen at h
  refine lv_aload_n C.1 C.2.1 dX9_isSeen_0 rfl (lv_at hl 0 rfl) ?_
  refine lv_iload_n C.1 C.2.1 dX9_isSeen_1 rfl (lv_at hl 1 rfl) ?_
  refine r_iconst C dX9_isSeen_2 ?_
  obtain ⟨x11, hr, h⟩ := bd_of h
  refine r_callVI (As := [.int (gI a1), .int (gI 0)]) (rest := []) C hl.1 hp (c_X9_get l C.2.2.2.2.2.2.2.2.2.2.2 hr) gw_1374 gw_1376 gw_45 mk_0 ms_0 mc_0 cal_X9_get rfl rfl (Nat.le_of_ble_eq_true rfl) ⟨Nat.le_of_ble_eq_true rfl, Nat.le_of_ble_eq_true rfl⟩ dX9_isSeen_3 (fun H locs hp => ?_)
  refine r_iconst C dX9_isSeen_6 ?_
  refine r_bipush C dX9_isSeen_7 (by decide +kernel) ?_
  obtain ⟨x12, hr, h⟩ := bd_of h
  refine r_callSI (As := [.int (gI x11), .int (gI 1), .int (gI 6)]) (rest := []) C hl.1 hp (c_X9_isIn l C.2.2.2.2.2.2.2.2.2.2.2 hr) gw_1378 gw_1379 cal_X9_isIn rfl rfl (Nat.le_of_ble_eq_true rfl) ⟨Nat.le_of_ble_eq_true rfl, Nat.le_of_ble_eq_true rfl⟩ dX9_isSeen_9 (fun H locs hp => ?_)
  obtain ⟨hg, h⟩ := gd_of h
  cases h
  exact hR _ _ _ _ dX9_isSeen_12 (g_nzg hg) hp
theorem c_X9_isSeen (l : Launch) {V : g_V} (hok : g_ok mG V) {a1 : Int} {M : g_M} {x : Int} (h : m_X9_isSeen a1 M = some x) : MetI mG V l yX9_isSeen cX9_isSeen 2 (some .boolean) 1 22 [.ref (V.2.2 0), .int (gI a1)] M x M :=
  g_metI hok cal_X9_isSeen.2.2.2 rfl (Nat.le_of_ble_eq_true rfl) (@fun p e R s m args below meth c Q ls C hR hp hl => b_X9_isSeen C hR h hp hl)
set_option maxRecDepth 100000 in
set_option maxHeartbeats 4000000 in
theorem w_X9_seen_L4 (C : g_CX mG V p R s m args meth c cX9_seen 3 (some .int) RX9 2 43) {res : Int} {M15 : g_M} (hR : g_RetI mG V p l e R s m args below meth c Q cX9_seen .int res M15)    : ∀ (f : Nat) (x13 : Int) (x14 : Int) (H : Heap) (locs : List Loc) (ls : Array Slot), m_X9_seen_L4 M15  f x13 x14 = some res → g_PT mG V M15 s H locs → lv_has ls 3 [(0, .ref (V.2.2 0)), (1, .int (gI x13)), (2, .int (gI x14))] → W p l e R s m args below meth c H locs 0 0 Q (F0 m 4 ls []) := by
  intro f
  induction f with
  | zero => intro x13 x14 H locs ls h hp hl; cases h
  | succ f ih =>
    intro x13 x14 H locs ls h hp hl
    rw [m_X9_seen_L4] at h
    refine lv_iload_n C.1 C.2.1 dX9_seen_4 rfl (lv_at hl 2 rfl) ?_
    refine lv_aload_n C.1 C.2.1 dX9_seen_5 rfl (lv_at hl 0 rfl) ?_
    refine r_getr (t := 1) C hp mk_0 ms_0 mc_0 min_0 (j := 0) (by decide) rfl gw_1256 rfl dX9_seen_6 ?_
    refine r_iconst C dX9_seen_9 ?_
    refine r_iald C hp h mk_1 ms_1 dX9_seen_10 (fun h => ?_)
    refine r_icmp_ge (tgt := 38) C h dX9_seen_11 (by decide) (fun h => ?_) (fun h => ?_)
    · refine lv_iload_n C.1 C.2.1 dX9_seen_38 rfl (lv_at hl 1 rfl) ?_
      cases h
      exact hR _ _ _ _ dX9_seen_39 rfl hp
    · refine r_jn (P := fun J => ∀ (x18 : Int) (x19 : Int) (H : Heap) (locs : List Loc) (ls : Array Slot), J x18 x19 = some res → g_PT mG V M15 s H locs → lv_has ls 3 [(0, .ref (V.2.2 0)), (2, .int (gI x14))] → W p l e R s m args below meth c H locs 0 0 Q (F0 m 30 ls [.int (gI x18), .int (gI x19)])) h ?_ (fun J16 hJ16 h => ?_)
      · intro x18 x19 H locs ls h hp hl
        refine r_ior C dX9_seen_30 ?_
        refine r_istore_n (lv' := fun x20 => [(1, .int (gI x20)), (0, .ref (V.2.2 0)), (2, .int (gI x14))]) C h dX9_seen_31 rfl hl (by decide) (fun _ => rfl) (fun x20 ls h hl => ?_)
        refine r_iinc (lv' := fun x21 => [(2, .int (gI x21)), (1, .int (gI x20)), (0, .ref (V.2.2 0))]) C h dX9_seen_32 hl (j := 2) rfl (by decide) (fun _ => rfl) (fun x21 ls h hl => ?_)
        refine r_goto (tgt := 4) C dX9_seen_35 (by decide) ?_
        exact ih _ _ _ _ _ h hp (lv_sub hl [2, 1, 0] rfl)
      refine lv_iload_n C.1 C.2.1 dX9_seen_14 rfl (lv_at hl 1 rfl) ?_
      refine lv_aload_n C.1 C.2.1 dX9_seen_15 rfl (lv_at hl 0 rfl) ?_
      refine lv_iload_n C.1 C.2.1 dX9_seen_16 rfl (lv_at hl 2 rfl) ?_
      obtain ⟨x17, hr, h⟩ := bd_of h
      refine r_callVI (As := [.int (gI x14)]) (rest := [.int (gI x13)]) C hl.1 hp (c_X9_isSeen l C.2.2.2.2.2.2.2.2.2.2.2 hr) gw_1370 gw_1372 gw_44 mk_0 ms_0 mc_0 cal_X9_isSeen rfl rfl (Nat.le_of_ble_eq_true rfl) ⟨Nat.le_of_ble_eq_true rfl, Nat.le_of_ble_eq_true rfl⟩ dX9_seen_17 (fun H locs hp => ?_)
      refine r_if_eq (tgt := 29) C h dX9_seen_20 (by decide) (fun h => ?_) (fun h => ?_)
      · refine r_iconst C dX9_seen_29 ?_
        exact hJ16 _ _ _ _ _ h hp (lv_sub hl [0, 2] rfl)
      · refine r_iconst C dX9_seen_23 ?_
        refine lv_iload_n C.1 C.2.1 dX9_seen_24 rfl (lv_at hl 2 rfl) ?_
        refine r_ishl C dX9_seen_25 ?_
        refine r_goto (tgt := 30) C dX9_seen_26 (by decide) ?_
        exact hJ16 _ _ _ _ _ h hp (lv_sub hl [0, 2] rfl)
set_option maxRecDepth 100000 in
set_option maxHeartbeats 4000000 in
theorem b_X9_seen (C : g_CX mG V p R s m args meth c cX9_seen 3 (some .int) RX9 2 43) {res : Int} {M : g_M} (hR : g_RetI mG V p l e R s m args below meth c Q cX9_seen .int res M)  {H : Heap} {locs : List Loc} {ls : Array Slot} (h : m_X9_seen M = some res) (hp : g_PT mG V M s H locs) (hl : lv_has ls 3 [(0, .ref (V.2.2 0))]) : W p l e R s m args below meth c H locs 0 0 Q (F0 m 0 ls []) := by
  unfold m_X9_seen at h
  refine r_iconst C dX9_seen_0 ?_
  refine r_istore_n (lv' := fun x11 => [(1, .int (gI x11)), (0, .ref (V.2.2 0))]) C h dX9_seen_1 rfl hl (by decide) (fun _ => rfl) (fun x11 ls h hl => ?_)
  refine r_iconst C dX9_seen_2 ?_
  refine r_istore_n (lv' := fun x12 => [(2, .int (gI x12)), (1, .int (gI x11)), (0, .ref (V.2.2 0))]) C h dX9_seen_3 rfl hl (by decide) (fun _ => rfl) (fun x12 ls h hl => ?_)
  refine w_X9_seen_L4 C hR _ _ _ H locs ls h hp (lv_sub hl [2, 1, 0] rfl)
theorem c_X9_seen (l : Launch) {V : g_V} (hok : g_ok mG V)  {M : g_M} {x : Int} (h : m_X9_seen M = some x) : MetI mG V l yX9_seen cX9_seen 3 (some .int) 2 43 [.ref (V.2.2 0)] M x M :=
  g_metI hok cal_X9_seen.2.2.2 rfl (Nat.le_of_ble_eq_true rfl) (@fun p e R s m args below meth c Q ls C hR hp hl => b_X9_seen C hR h hp hl)
set_option maxRecDepth 100000 in
set_option maxHeartbeats 4000000 in
theorem w_X9_front_L4 (C : g_CX mG V p R s m args meth c cX9_front 3 (some .int) RX9 2 43) {res : Int} {M15 : g_M} (hR : g_RetI mG V p l e R s m args below meth c Q cX9_front .int res M15)    : ∀ (f : Nat) (x13 : Int) (x14 : Int) (H : Heap) (locs : List Loc) (ls : Array Slot), m_X9_front_L4 M15  f x13 x14 = some res → g_PT mG V M15 s H locs → lv_has ls 3 [(0, .ref (V.2.2 0)), (1, .int (gI x13)), (2, .int (gI x14))] → W p l e R s m args below meth c H locs 0 0 Q (F0 m 4 ls []) := by
  intro f
  induction f with
  | zero => intro x13 x14 H locs ls h hp hl; cases h
  | succ f ih =>
    intro x13 x14 H locs ls h hp hl
    rw [m_X9_front_L4] at h
    refine lv_iload_n C.1 C.2.1 dX9_front_4 rfl (lv_at hl 2 rfl) ?_
    refine lv_aload_n C.1 C.2.1 dX9_front_5 rfl (lv_at hl 0 rfl) ?_
    refine r_getr (t := 1) C hp mk_0 ms_0 mc_0 min_0 (j := 0) (by decide) rfl gw_1256 rfl dX9_front_6 ?_
    refine r_iconst C dX9_front_9 ?_
    refine r_iald C hp h mk_1 ms_1 dX9_front_10 (fun h => ?_)
    refine r_icmp_ge (tgt := 41) C h dX9_front_11 (by decide) (fun h => ?_) (fun h => ?_)
    · refine lv_iload_n C.1 C.2.1 dX9_front_41 rfl (lv_at hl 1 rfl) ?_
      cases h
      exact hR _ _ _ _ dX9_front_42 rfl hp
    · refine r_jn (P := fun J => ∀ (x19 : Int) (x20 : Int) (H : Heap) (locs : List Loc) (ls : Array Slot), J x19 x20 = some res → g_PT mG V M15 s H locs → lv_has ls 3 [(0, .ref (V.2.2 0)), (2, .int (gI x14))] → W p l e R s m args below meth c H locs 0 0 Q (F0 m 33 ls [.int (gI x19), .int (gI x20)])) h ?_ (fun J16 hJ16 h => ?_)
      · intro x19 x20 H locs ls h hp hl
        refine r_iadd C dX9_front_33 ?_
        refine r_istore_n (lv' := fun x21 => [(1, .int (gI x21)), (0, .ref (V.2.2 0)), (2, .int (gI x14))]) C h dX9_front_34 rfl hl (by decide) (fun _ => rfl) (fun x21 ls h hl => ?_)
        refine r_iinc (lv' := fun x22 => [(2, .int (gI x22)), (1, .int (gI x21)), (0, .ref (V.2.2 0))]) C h dX9_front_35 hl (j := 2) rfl (by decide) (fun _ => rfl) (fun x22 ls h hl => ?_)
        refine r_goto (tgt := 4) C dX9_front_38 (by decide) ?_
        exact ih _ _ _ _ _ h hp (lv_sub hl [2, 1, 0] rfl)
      refine lv_iload_n C.1 C.2.1 dX9_front_14 rfl (lv_at hl 1 rfl) ?_
      refine lv_aload_n C.1 C.2.1 dX9_front_15 rfl (lv_at hl 0 rfl) ?_
      refine lv_iload_n C.1 C.2.1 dX9_front_16 rfl (lv_at hl 2 rfl) ?_
      obtain ⟨x17, hr, h⟩ := bd_of h
      refine r_callVI (As := [.int (gI x14)]) (rest := [.int (gI x13)]) C hl.1 hp (c_X9_isSeen l C.2.2.2.2.2.2.2.2.2.2.2 hr) gw_1370 gw_1372 gw_44 mk_0 ms_0 mc_0 cal_X9_isSeen rfl rfl (Nat.le_of_ble_eq_true rfl) ⟨Nat.le_of_ble_eq_true rfl, Nat.le_of_ble_eq_true rfl⟩ dX9_front_17 (fun H locs hp => ?_)
      refine r_if_eq (tgt := 32) C h dX9_front_20 (by decide) (fun h => ?_) (fun h => ?_)
      · refine r_iconst C dX9_front_32 ?_
        exact hJ16 _ _ _ _ _ h hp (lv_sub hl [0, 2] rfl)
      · refine lv_aload_n C.1 C.2.1 dX9_front_23 rfl (lv_at hl 0 rfl) ?_
        refine lv_iload_n C.1 C.2.1 dX9_front_24 rfl (lv_at hl 2 rfl) ?_
        refine r_iconst C dX9_front_25 ?_
        obtain ⟨x18, hr, h⟩ := bd_of h
        refine r_callVI (As := [.int (gI x14), .int (gI 2)]) (rest := [.int (gI x13)]) C hl.1 hp (c_X9_get l C.2.2.2.2.2.2.2.2.2.2.2 hr) gw_1374 gw_1376 gw_45 mk_0 ms_0 mc_0 cal_X9_get rfl rfl (Nat.le_of_ble_eq_true rfl) ⟨Nat.le_of_ble_eq_true rfl, Nat.le_of_ble_eq_true rfl⟩ dX9_front_26 (fun H locs hp => ?_)
        refine r_goto (tgt := 33) C dX9_front_29 (by decide) ?_
        exact hJ16 _ _ _ _ _ h hp (lv_sub hl [0, 2] rfl)
set_option maxRecDepth 100000 in
set_option maxHeartbeats 4000000 in
theorem b_X9_front (C : g_CX mG V p R s m args meth c cX9_front 3 (some .int) RX9 2 43) {res : Int} {M : g_M} (hR : g_RetI mG V p l e R s m args below meth c Q cX9_front .int res M)  {H : Heap} {locs : List Loc} {ls : Array Slot} (h : m_X9_front M = some res) (hp : g_PT mG V M s H locs) (hl : lv_has ls 3 [(0, .ref (V.2.2 0))]) : W p l e R s m args below meth c H locs 0 0 Q (F0 m 0 ls []) := by
  unfold m_X9_front at h
  refine r_iconst C dX9_front_0 ?_
  refine r_istore_n (lv' := fun x11 => [(1, .int (gI x11)), (0, .ref (V.2.2 0))]) C h dX9_front_1 rfl hl (by decide) (fun _ => rfl) (fun x11 ls h hl => ?_)
  refine r_iconst C dX9_front_2 ?_
  refine r_istore_n (lv' := fun x12 => [(2, .int (gI x12)), (1, .int (gI x11)), (0, .ref (V.2.2 0))]) C h dX9_front_3 rfl hl (by decide) (fun _ => rfl) (fun x12 ls h hl => ?_)
  refine w_X9_front_L4 C hR _ _ _ H locs ls h hp (lv_sub hl [2, 1, 0] rfl)
theorem c_X9_front (l : Launch) {V : g_V} (hok : g_ok mG V)  {M : g_M} {x : Int} (h : m_X9_front M = some x) : MetI mG V l yX9_front cX9_front 3 (some .int) 2 43 [.ref (V.2.2 0)] M x M :=
  g_metI hok cal_X9_front.2.2.2 rfl (Nat.le_of_ble_eq_true rfl) (@fun p e R s m args below meth c Q ls C hR hp hl => b_X9_front C hR h hp hl)
set_option maxRecDepth 100000 in
set_option maxHeartbeats 4000000 in
theorem w_X9_scene_L58 (C : g_CX mG V p R s m args meth c cX9_scene 5 (some .boolean) RX9 2 42) {res : Int × g_M} (hR : g_RetI mG V p l e R s m args below meth c Q cX9_scene .boolean res.1 res.2) (x17 : Int) (x18 : Int)   : ∀ (f : Nat) (x19 : Int) (M20 : g_M) (H : Heap) (locs : List Loc) (ls : Array Slot), m_X9_scene_L58 x17 x18  f x19 M20 = some res → g_PT mG V M20 s H locs → lv_has ls 5 [(0, .ref (V.2.2 0)), (1, .int (gI x17)), (3, .int (gI x18)), (4, .int (gI x19))] → W p l e R s m args below meth c H locs 0 0 Q (F0 m 58 ls []) := by
  intro f
  induction f with
  | zero => intro x19 M20 H locs ls h hp hl; cases h
  | succ f ih =>
    intro x19 M20 H locs ls h hp hl
    rw [m_X9_scene_L58] at h
    refine lv_iload C.1 C.2.1 dX9_scene_58 (lv_at hl 3 rfl) ?_
    refine lv_aload_n C.1 C.2.1 dX9_scene_60 rfl (lv_at hl 0 rfl) ?_
    refine r_getr (t := 1) C hp mk_0 ms_0 mc_0 min_0 (j := 0) (by decide) rfl gw_1256 rfl dX9_scene_61 ?_
    refine r_iconst C dX9_scene_64 ?_
    refine r_iald C hp h mk_1 ms_1 dX9_scene_65 (fun h => ?_)
    refine r_icmp_ge (tgt := 100) C h dX9_scene_66 (by decide) (fun h => ?_) (fun h => ?_)
    · refine r_iconst C dX9_scene_100 ?_
      cases h
      exact hR _ _ _ _ dX9_scene_101 g_nz1 hp
    · refine lv_aload_n C.1 C.2.1 dX9_scene_69 rfl (lv_at hl 0 rfl) ?_
      refine r_getr (t := 1) C hp mk_0 ms_0 mc_0 min_0 (j := 0) (by decide) rfl gw_1256 rfl dX9_scene_70 ?_
      refine r_sipush C dX9_scene_73 (by decide +kernel) ?_
      refine r_bipush C dX9_scene_76 (by decide +kernel) ?_
      refine lv_iload C.1 C.2.1 dX9_scene_78 (lv_at hl 3 rfl) ?_
      refine r_imul C dX9_scene_80 ?_
      refine r_iadd C dX9_scene_81 ?_
      refine r_iconst C dX9_scene_82 ?_
      refine r_iadd C dX9_scene_83 ?_
      refine r_bipush C dX9_scene_84 (by decide +kernel) ?_
      refine r_iadd C dX9_scene_86 ?_
      refine r_bipush C dX9_scene_87 (by decide +kernel) ?_
      refine r_isub C dX9_scene_89 ?_
      refine lv_iload_n C.1 C.2.1 dX9_scene_90 rfl (lv_at hl 1 rfl) ?_
      refine r_iadd C dX9_scene_91 ?_
      refine lv_iload_n C.1 C.2.1 dX9_scene_92 rfl (lv_at hl 2 rfl) ?_
      refine r_iast C hp h mk_1 ms_1 dX9_scene_93 (fun M21 H locs h hp => ?_)
      refine r_iinc (lv' := fun x22 => [(4, .int (gI x22)), (0, .ref (V.2.2 0)), (1, .int (gI x17)), (3, .int (gI x18))]) C h dX9_scene_94 hl (j := 3) rfl (by decide) (fun _ => rfl) (fun x22 ls h hl => ?_)
      refine r_goto (tgt := 58) C dX9_scene_97 (by decide) ?_
      exact ih _ _ _ _ _ h hp (lv_sub hl [1, 2, 3, 0] rfl)
set_option maxRecDepth 100000 in
set_option maxHeartbeats 4000000 in
theorem b_X9_scene (C : g_CX mG V p R s m args meth c cX9_scene 5 (some .boolean) RX9 2 42) {res : Int × g_M} (hR : g_RetI mG V p l e R s m args below meth c Q cX9_scene .boolean res.1 res.2) {a1 : Int} {a2 : Int} {a3 : Int} {M : g_M} {H : Heap} {locs : List Loc} {ls : Array Slot} (h : m_X9_scene a1 a2 a3 M = some res) (hp : g_PT mG V M s H locs) (hl : lv_has ls 5 [(0, .ref (V.2.2 0)), (1, .int (gI a1)), (2, .int (gI a2)), (3, .int (gI a3))]) : W p l e R s m args below meth c H locs 0 0 Q (F0 m 0 ls []) := by
  unfold m_X9_scene at h
  refine lv_iload_n C.1 C.2.1 dX9_scene_0 rfl (lv_at hl 1 rfl) ?_
  obtain ⟨x11, hr, h⟩ := bd_of h
  refine r_callSI (As := [.int (gI a1)]) (rest := []) C hl.1 hp (c_X9_isScene l C.2.2.2.2.2.2.2.2.2.2.2 hr) gw_1385 gw_1386 cal_X9_isScene rfl rfl (Nat.le_of_ble_eq_true rfl) ⟨Nat.le_of_ble_eq_true rfl, Nat.le_of_ble_eq_true rfl⟩ dX9_scene_1 (fun H locs hp => ?_)
  refine r_if_eq (tgt := 23) C h dX9_scene_4 (by decide) (fun h => ?_) (fun h => ?_)
  · refine r_iconst C dX9_scene_23 ?_
    cases h
    exact hR _ _ _ _ dX9_scene_24 g_nz0 hp
  · refine lv_iload_n C.1 C.2.1 dX9_scene_7 rfl (lv_at hl 2 rfl) ?_
    refine r_iconst C dX9_scene_8 ?_
    refine r_iconst C dX9_scene_9 ?_
    obtain ⟨x12, hr, h⟩ := bd_of h
    refine r_callSI (As := [.int (gI a2), .int (gI 0), .int (gI 3)]) (rest := []) C hl.1 hp (c_X9_isIn l C.2.2.2.2.2.2.2.2.2.2.2 hr) gw_1378 gw_1379 cal_X9_isIn rfl rfl (Nat.le_of_ble_eq_true rfl) ⟨Nat.le_of_ble_eq_true rfl, Nat.le_of_ble_eq_true rfl⟩ dX9_scene_10 (fun H locs hp => ?_)
    refine r_if_eq (tgt := 23) C h dX9_scene_13 (by decide) (fun h => ?_) (fun h => ?_)
    · refine r_iconst C dX9_scene_23 ?_
      cases h
      exact hR _ _ _ _ dX9_scene_24 g_nz0 hp
    · refine lv_iload_n C.1 C.2.1 dX9_scene_16 rfl (lv_at hl 3 rfl) ?_
      obtain ⟨x13, hr, h⟩ := bd_of h
      refine r_callSI (As := [.int (gI a3)]) (rest := []) C hl.1 hp (c_X9_isAny l C.2.2.2.2.2.2.2.2.2.2.2 hr) gw_1388 gw_1389 cal_X9_isAny rfl rfl (Nat.le_of_ble_eq_true rfl) ⟨Nat.le_of_ble_eq_true rfl, Nat.le_of_ble_eq_true rfl⟩ dX9_scene_17 (fun H locs hp => ?_)
      refine r_if_ne (tgt := 25) C h dX9_scene_20 (by decide) (fun h => ?_) (fun h => ?_)
      · refine lv_aload_n C.1 C.2.1 dX9_scene_25 rfl (lv_at hl 0 rfl) ?_
        refine r_getr (t := 1) C hp mk_0 ms_0 mc_0 min_0 (j := 0) (by decide) rfl gw_1256 rfl dX9_scene_26 ?_
        refine r_bipush C dX9_scene_29 (by decide +kernel) ?_
        refine r_iconst C dX9_scene_31 ?_
        refine lv_iload_n C.1 C.2.1 dX9_scene_32 rfl (lv_at hl 1 rfl) ?_
        refine r_imul C dX9_scene_33 ?_
        refine r_iadd C dX9_scene_34 ?_
        refine lv_iload_n C.1 C.2.1 dX9_scene_35 rfl (lv_at hl 2 rfl) ?_
        refine r_iadd C dX9_scene_36 ?_
        refine lv_iload_n C.1 C.2.1 dX9_scene_37 rfl (lv_at hl 3 rfl) ?_
        refine r_iast C hp h mk_1 ms_1 dX9_scene_38 (fun M14 H locs h hp => ?_)
        refine lv_iload_n C.1 C.2.1 dX9_scene_39 rfl (lv_at hl 2 rfl) ?_
        refine r_if_le (tgt := 45) C h dX9_scene_40 (by decide) (fun h => ?_) (fun h => ?_)
        · refine lv_aload_n C.1 C.2.1 dX9_scene_45 rfl (lv_at hl 0 rfl) ?_
          refine r_getr (t := 1) C hp mk_0 ms_0 mc_0 min_0 (j := 0) (by decide) rfl gw_1256 rfl dX9_scene_46 ?_
          refine r_bipush C dX9_scene_49 (by decide +kernel) ?_
          refine lv_iload_n C.1 C.2.1 dX9_scene_51 rfl (lv_at hl 1 rfl) ?_
          refine r_iadd C dX9_scene_52 ?_
          refine lv_iload_n C.1 C.2.1 dX9_scene_53 rfl (lv_at hl 3 rfl) ?_
          refine r_iast C hp h mk_1 ms_1 dX9_scene_54 (fun M15 H locs h hp => ?_)
          refine r_iconst C dX9_scene_55 ?_
          refine r_istore (lv' := fun x16 => [(4, .int (gI x16)), (0, .ref (V.2.2 0)), (1, .int (gI a1)), (2, .int (gI a2)), (3, .int (gI a3))]) C h dX9_scene_56 hl (by decide) (fun _ => rfl) (fun x16 ls h hl => ?_)
          refine w_X9_scene_L58 C hR _ _ _ _ _ H locs ls h hp (lv_sub hl [1, 2, 4, 0] rfl)
        · refine r_iconst C dX9_scene_43 ?_
          cases h
          exact hR _ _ _ _ dX9_scene_44 g_nz1 hp
      · refine r_iconst C dX9_scene_23 ?_
        cases h
        exact hR _ _ _ _ dX9_scene_24 g_nz0 hp
theorem c_X9_scene (l : Launch) {V : g_V} (hok : g_ok mG V) {a1 : Int} {a2 : Int} {a3 : Int} {M : g_M} {x : Int} {M2 : g_M} (h : m_X9_scene a1 a2 a3 M = some (x, M2)) : MetI mG V l yX9_scene cX9_scene 5 (some .boolean) 2 42 [.ref (V.2.2 0), .int (gI a1), .int (gI a2), .int (gI a3)] M x M2 :=
  g_metI hok cal_X9_scene.2.2.2 rfl (Nat.le_of_ble_eq_true rfl) (@fun p e R s m args below meth c Q ls C hR hp hl => b_X9_scene C hR h hp hl)
set_option maxRecDepth 100000 in
set_option maxHeartbeats 4000000 in
theorem b_X9_kind (C : g_CX mG V p R s m args meth c cX9_kind 3 (some .boolean) RX9 2 42) {res : Int × g_M} (hR : g_RetI mG V p l e R s m args below meth c Q cX9_kind .boolean res.1 res.2) {a1 : Int} {a2 : Int} {M : g_M} {H : Heap} {locs : List Loc} {ls : Array Slot} (h : m_X9_kind a1 a2 M = some res) (hp : g_PT mG V M s H locs) (hl : lv_has ls 3 [(0, .ref (V.2.2 0)), (1, .int (gI a1)), (2, .int (gI a2))]) : W p l e R s m args below meth c H locs 0 0 Q (F0 m 0 ls []) := by
  unfold m_X9_kind at h
  refine lv_iload_n C.1 C.2.1 dX9_kind_0 rfl (lv_at hl 1 rfl) ?_
  obtain ⟨x11, hr, h⟩ := bd_of h
  refine r_callSI (As := [.int (gI a1)]) (rest := []) C hl.1 hp (c_X9_isScene l C.2.2.2.2.2.2.2.2.2.2.2 hr) gw_1385 gw_1386 cal_X9_isScene rfl rfl (Nat.le_of_ble_eq_true rfl) ⟨Nat.le_of_ble_eq_true rfl, Nat.le_of_ble_eq_true rfl⟩ dX9_kind_1 (fun H locs hp => ?_)
  refine r_if_eq (tgt := 16) C h dX9_kind_4 (by decide) (fun h => ?_) (fun h => ?_)
  · refine r_iconst C dX9_kind_16 ?_
    cases h
    exact hR _ _ _ _ dX9_kind_17 g_nz0 hp
  · refine lv_iload_n C.1 C.2.1 dX9_kind_7 rfl (lv_at hl 2 rfl) ?_
    refine r_iconst C dX9_kind_8 ?_
    refine r_iconst C dX9_kind_9 ?_
    obtain ⟨x12, hr, h⟩ := bd_of h
    refine r_callSI (As := [.int (gI a2), .int (gI 0), .int (gI 3)]) (rest := []) C hl.1 hp (c_X9_isIn l C.2.2.2.2.2.2.2.2.2.2.2 hr) gw_1378 gw_1379 cal_X9_isIn rfl rfl (Nat.le_of_ble_eq_true rfl) ⟨Nat.le_of_ble_eq_true rfl, Nat.le_of_ble_eq_true rfl⟩ dX9_kind_10 (fun H locs hp => ?_)
    refine r_if_ne (tgt := 18) C h dX9_kind_13 (by decide) (fun h => ?_) (fun h => ?_)
    · refine lv_aload_n C.1 C.2.1 dX9_kind_18 rfl (lv_at hl 0 rfl) ?_
      refine r_getr (t := 1) C hp mk_0 ms_0 mc_0 min_0 (j := 0) (by decide) rfl gw_1256 rfl dX9_kind_19 ?_
      refine r_bipush C dX9_kind_22 (by decide +kernel) ?_
      refine lv_iload_n C.1 C.2.1 dX9_kind_24 rfl (lv_at hl 1 rfl) ?_
      refine r_iadd C dX9_kind_25 ?_
      refine lv_iload_n C.1 C.2.1 dX9_kind_26 rfl (lv_at hl 2 rfl) ?_
      refine r_iast C hp h mk_1 ms_1 dX9_kind_27 (fun M13 H locs h hp => ?_)
      refine r_iconst C dX9_kind_28 ?_
      cases h
      exact hR _ _ _ _ dX9_kind_29 g_nz1 hp
    · refine r_iconst C dX9_kind_16 ?_
      cases h
      exact hR _ _ _ _ dX9_kind_17 g_nz0 hp
theorem c_X9_kind (l : Launch) {V : g_V} (hok : g_ok mG V) {a1 : Int} {a2 : Int} {M : g_M} {x : Int} {M2 : g_M} (h : m_X9_kind a1 a2 M = some (x, M2)) : MetI mG V l yX9_kind cX9_kind 3 (some .boolean) 2 42 [.ref (V.2.2 0), .int (gI a1), .int (gI a2)] M x M2 :=
  g_metI hok cal_X9_kind.2.2.2 rfl (Nat.le_of_ble_eq_true rfl) (@fun p e R s m args below meth c Q ls C hR hp hl => b_X9_kind C hR h hp hl)
set_option maxRecDepth 100000 in
set_option maxHeartbeats 4000000 in
theorem b_X9_begin (C : g_CX mG V p R s m args meth c cX9_begin 2 none RX9 1 23) {res : g_M} (hR : g_RetV mG V p l e R s m args below meth c Q cX9_begin res) {a1 : Int} {M : g_M} {H : Heap} {locs : List Loc} {ls : Array Slot} (h : m_X9_begin a1 M = some res) (hp : g_PT mG V M s H locs) (hl : lv_has ls 2 [(0, .ref (V.2.2 0)), (1, .int (gI a1))]) : W p l e R s m args below meth c H locs 0 0 Q (F0 m 0 ls []) := by
  unfold m_X9_begin at h
  refine lv_aload_n C.1 C.2.1 dX9_begin_0 rfl (lv_at hl 0 rfl) ?_
  refine lv_iload_n C.1 C.2.1 dX9_begin_1 rfl (lv_at hl 1 rfl) ?_
  refine r_iconst C dX9_begin_2 ?_
  refine lv_aload_n C.1 C.2.1 dX9_begin_3 rfl (lv_at hl 0 rfl) ?_
  refine lv_iload_n C.1 C.2.1 dX9_begin_4 rfl (lv_at hl 1 rfl) ?_
  refine r_iconst C dX9_begin_5 ?_
  obtain ⟨x11, hr, h⟩ := bd_of h
  refine r_callVI (As := [.int (gI a1), .int (gI 3)]) (rest := [.int (gI 0), .int (gI a1), .ref (V.2.2 0)]) C hl.1 hp (c_X9_get l C.2.2.2.2.2.2.2.2.2.2.2 hr) gw_1374 gw_1376 gw_45 mk_0 ms_0 mc_0 cal_X9_get rfl rfl (Nat.le_of_ble_eq_true rfl) ⟨Nat.le_of_ble_eq_true rfl, Nat.le_of_ble_eq_true rfl⟩ dX9_begin_6 (fun H locs hp => ?_)
  obtain ⟨M12, hr, h⟩ := bd_of h
  refine r_callVV (As := [.int (gI a1), .int (gI 0), .int (gI x11)]) (rest := []) C hl.1 hp (c_X9_put l C.2.2.2.2.2.2.2.2.2.2.2 hr) gw_1399 gw_1401 gw_46 mk_0 ms_0 mc_0 cal_X9_put rfl rfl (Nat.le_of_ble_eq_true rfl) ⟨Nat.le_of_ble_eq_true rfl, Nat.le_of_ble_eq_true rfl⟩ dX9_begin_9 (fun H locs hp => ?_)
  refine lv_aload_n C.1 C.2.1 dX9_begin_12 rfl (lv_at hl 0 rfl) ?_
  refine lv_iload_n C.1 C.2.1 dX9_begin_13 rfl (lv_at hl 1 rfl) ?_
  refine r_iconst C dX9_begin_14 ?_
  refine r_iconst C dX9_begin_15 ?_
  obtain ⟨M13, hr, h⟩ := bd_of h
  refine r_callVV (As := [.int (gI a1), .int (gI 1), .int (gI 0)]) (rest := []) C hl.1 hp (c_X9_put l C.2.2.2.2.2.2.2.2.2.2.2 hr) gw_1399 gw_1401 gw_46 mk_0 ms_0 mc_0 cal_X9_put rfl rfl (Nat.le_of_ble_eq_true rfl) ⟨Nat.le_of_ble_eq_true rfl, Nat.le_of_ble_eq_true rfl⟩ dX9_begin_16 (fun H locs hp => ?_)
  cases h
  exact hR _ _ _ _ dX9_begin_19 hp
theorem c_X9_begin (l : Launch) {V : g_V} (hok : g_ok mG V) {a1 : Int} {M : g_M} {res : g_M} (h : m_X9_begin a1 M = some res) : MetV mG V l yX9_begin cX9_begin 2 none 1 23 [.ref (V.2.2 0), .int (gI a1)] M res :=
  g_metV hok cal_X9_begin.2.2.2 rfl (Nat.le_of_ble_eq_true rfl) (@fun p e R s m args below meth c Q ls C hR hp hl => b_X9_begin C hR h hp hl)
set_option maxRecDepth 100000 in
set_option maxHeartbeats 4000000 in
theorem b_X9_person (C : g_CX mG V p R s m args meth c cX9_person 4 (some .int) RX9 2 44) {res : Int × g_M} (hR : g_RetI mG V p l e R s m args below meth c Q cX9_person .int res.1 res.2) {a1 : Int} {a2 : Int} {M : g_M} {H : Heap} {locs : List Loc} {ls : Array Slot} (h : m_X9_person a1 a2 M = some res) (hp : g_PT mG V M s H locs) (hl : lv_has ls 4 [(0, .ref (V.2.2 0)), (1, .int (gI a1)), (2, .int (gI a2))]) : W p l e R s m args below meth c H locs 0 0 Q (F0 m 0 ls []) := by
  unfold m_X9_person at h
  refine lv_iload_n C.1 C.2.1 dX9_person_0 rfl (lv_at hl 1 rfl) ?_
  refine r_iconst C dX9_person_1 ?_
  refine r_bipush C dX9_person_2 (by decide +kernel) ?_
  obtain ⟨x11, hr, h⟩ := bd_of h
  refine r_callSI (As := [.int (gI a1), .int (gI 0), .int (gI 9)]) (rest := []) C hl.1 hp (c_X9_isIn l C.2.2.2.2.2.2.2.2.2.2.2 hr) gw_1378 gw_1379 cal_X9_isIn rfl rfl (Nat.le_of_ble_eq_true rfl) ⟨Nat.le_of_ble_eq_true rfl, Nat.le_of_ble_eq_true rfl⟩ dX9_person_4 (fun H locs hp => ?_)
  refine r_if_eq (tgt := 31) C h dX9_person_7 (by decide) (fun h => ?_) (fun h => ?_)
  · refine r_iconst C dX9_person_31 ?_
    cases h
    exact hR _ _ _ _ dX9_person_32 rfl hp
  · refine lv_iload_n C.1 C.2.1 dX9_person_10 rfl (lv_at hl 2 rfl) ?_
    refine r_iconst C dX9_person_11 ?_
    refine r_bipush C dX9_person_12 (by decide +kernel) ?_
    obtain ⟨x12, hr, h⟩ := bd_of h
    refine r_callSI (As := [.int (gI a2), .int (gI 0), .int (gI 9)]) (rest := []) C hl.1 hp (c_X9_isIn l C.2.2.2.2.2.2.2.2.2.2.2 hr) gw_1378 gw_1379 cal_X9_isIn rfl rfl (Nat.le_of_ble_eq_true rfl) ⟨Nat.le_of_ble_eq_true rfl, Nat.le_of_ble_eq_true rfl⟩ dX9_person_14 (fun H locs hp => ?_)
    refine r_if_eq (tgt := 31) C h dX9_person_17 (by decide) (fun h => ?_) (fun h => ?_)
    · refine r_iconst C dX9_person_31 ?_
      cases h
      exact hR _ _ _ _ dX9_person_32 rfl hp
    · refine lv_aload_n C.1 C.2.1 dX9_person_20 rfl (lv_at hl 0 rfl) ?_
      refine r_getr (t := 1) C hp mk_0 ms_0 mc_0 min_0 (j := 0) (by decide) rfl gw_1256 rfl dX9_person_21 ?_
      refine r_iconst C dX9_person_24 ?_
      refine r_iald C hp h mk_1 ms_1 dX9_person_25 (fun h => ?_)
      refine r_bipush C dX9_person_26 (by decide +kernel) ?_
      refine r_icmp_ne (tgt := 33) C h dX9_person_28 (by decide) (fun h => ?_) (fun h => ?_)
      · refine lv_aload_n C.1 C.2.1 dX9_person_33 rfl (lv_at hl 0 rfl) ?_
        refine r_getr (t := 1) C hp mk_0 ms_0 mc_0 min_0 (j := 0) (by decide) rfl gw_1256 rfl dX9_person_34 ?_
        refine r_iconst C dX9_person_37 ?_
        refine r_iald C hp h mk_1 ms_1 dX9_person_38 (fun h => ?_)
        refine r_istore_n (lv' := fun x13 => [(3, .int (gI x13)), (0, .ref (V.2.2 0)), (1, .int (gI a1)), (2, .int (gI a2))]) C h dX9_person_39 rfl hl (by decide) (fun _ => rfl) (fun x13 ls h hl => ?_)
        refine lv_aload_n C.1 C.2.1 dX9_person_40 rfl (lv_at hl 1 rfl) ?_
        refine lv_iload_n C.1 C.2.1 dX9_person_41 rfl (lv_at hl 0 rfl) ?_
        refine r_iconst C dX9_person_42 ?_
        refine lv_iload_n C.1 C.2.1 dX9_person_43 rfl (lv_at hl 2 rfl) ?_
        obtain ⟨M14, hr, h⟩ := bd_of h
        refine r_callVV (As := [.int (gI x13), .int (gI 2), .int (gI a1)]) (rest := []) C hl.1 hp (c_X9_put l C.2.2.2.2.2.2.2.2.2.2.2 hr) gw_1399 gw_1401 gw_46 mk_0 ms_0 mc_0 cal_X9_put rfl rfl (Nat.le_of_ble_eq_true rfl) ⟨Nat.le_of_ble_eq_true rfl, Nat.le_of_ble_eq_true rfl⟩ dX9_person_44 (fun H locs hp => ?_)
        refine lv_aload_n C.1 C.2.1 dX9_person_47 rfl (lv_at hl 1 rfl) ?_
        refine lv_iload_n C.1 C.2.1 dX9_person_48 rfl (lv_at hl 0 rfl) ?_
        refine r_iconst C dX9_person_49 ?_
        refine lv_iload_n C.1 C.2.1 dX9_person_50 rfl (lv_at hl 3 rfl) ?_
        obtain ⟨M15, hr, h⟩ := bd_of h
        refine r_callVV (As := [.int (gI x13), .int (gI 3), .int (gI a2)]) (rest := []) C hl.1 hp (c_X9_put l C.2.2.2.2.2.2.2.2.2.2.2 hr) gw_1399 gw_1401 gw_46 mk_0 ms_0 mc_0 cal_X9_put rfl rfl (Nat.le_of_ble_eq_true rfl) ⟨Nat.le_of_ble_eq_true rfl, Nat.le_of_ble_eq_true rfl⟩ dX9_person_51 (fun H locs hp => ?_)
        refine lv_aload_n C.1 C.2.1 dX9_person_54 rfl (lv_at hl 1 rfl) ?_
        refine lv_iload_n C.1 C.2.1 dX9_person_55 rfl (lv_at hl 0 rfl) ?_
        obtain ⟨M16, hr, h⟩ := bd_of h
        refine r_callVV (As := [.int (gI x13)]) (rest := []) C hl.1 hp (c_X9_begin l C.2.2.2.2.2.2.2.2.2.2.2 hr) gw_1403 gw_1405 gw_47 mk_0 ms_0 mc_0 cal_X9_begin rfl rfl (Nat.le_of_ble_eq_true rfl) ⟨Nat.le_of_ble_eq_true rfl, Nat.le_of_ble_eq_true rfl⟩ dX9_person_56 (fun H locs hp => ?_)
        refine lv_aload_n C.1 C.2.1 dX9_person_59 rfl (lv_at hl 1 rfl) ?_
        refine r_getr (t := 1) C hp mk_0 ms_0 mc_0 min_0 (j := 0) (by decide) rfl gw_1256 rfl dX9_person_60 ?_
        refine r_iconst C dX9_person_63 ?_
        refine lv_dup2_11 C.1 C.2.1 dX9_person_64 rfl rfl ?_
        refine r_iald C hp h mk_1 ms_1 dX9_person_65 (fun h => ?_)
        refine r_iconst C dX9_person_66 ?_
        refine r_iadd C dX9_person_67 ?_
        refine r_iast C hp h mk_1 ms_1 dX9_person_68 (fun M17 H locs h hp => ?_)
        refine lv_iload_n C.1 C.2.1 dX9_person_69 rfl (lv_at hl 0 rfl) ?_
        cases h
        exact hR _ _ _ _ dX9_person_70 rfl hp
      · refine r_iconst C dX9_person_31 ?_
        cases h
        exact hR _ _ _ _ dX9_person_32 rfl hp
theorem c_X9_person (l : Launch) {V : g_V} (hok : g_ok mG V) {a1 : Int} {a2 : Int} {M : g_M} {x : Int} {M2 : g_M} (h : m_X9_person a1 a2 M = some (x, M2)) : MetI mG V l yX9_person cX9_person 4 (some .int) 2 44 [.ref (V.2.2 0), .int (gI a1), .int (gI a2)] M x M2 :=
  g_metI hok cal_X9_person.2.2.2 rfl (Nat.le_of_ble_eq_true rfl) (@fun p e R s m args below meth c Q ls C hR hp hl => b_X9_person C hR h hp hl)
set_option maxRecDepth 100000 in
set_option maxHeartbeats 4000000 in
theorem w_X9_four_L3 (C : g_CX mG V p R s m args meth c cX9_four 3 none RX9 0 0) {res : g_M} (hR : g_RetV mG V p l e R s m args below meth c Q cX9_four res) (x12 : Int)   : ∀ (f : Nat) (x13 : Int) (M14 : g_M) (H : Heap) (locs : List Loc) (ls : Array Slot), m_X9_four_L3 x12  f x13 M14 = some res → g_PT mG V M14 s H locs → lv_has ls 3 [(0, .ref (V.2.2 0)), (1, .int (gI x12)), (2, .int (gI x13))] → W p l e R s m args below meth c H locs 0 0 Q (F0 m 3 ls []) := by
  intro f
  induction f with
  | zero => intro x13 M14 H locs ls h hp hl; cases h
  | succ f ih =>
    intro x13 M14 H locs ls h hp hl
    rw [m_X9_four_L3] at h
    refine lv_iload_n C.1 C.2.1 dX9_four_3 rfl (lv_at hl 2 rfl) ?_
    refine r_if_lt (tgt := 39) C h dX9_four_4 (by decide) (fun h => ?_) (fun h => ?_)
    · cases h
      exact hR _ _ _ _ dX9_four_39 hp
    · refine lv_aload_n C.1 C.2.1 dX9_four_7 rfl (lv_at hl 0 rfl) ?_
      refine r_getr (t := 4) C hp mk_0 ms_0 mc_0 min_0 (j := 3) (by decide) rfl gw_1259 rfl dX9_four_8 ?_
      refine lv_aload_n C.1 C.2.1 dX9_four_11 rfl (lv_at hl 0 rfl) ?_
      refine r_geti (t := 0) C hp mk_0 ms_0 mc_0 min_0 (j := 4) (by decide) rfl gw_1260 rfl dX9_four_12 ?_
      refine lv_iload_n C.1 C.2.1 dX9_four_15 rfl (lv_at hl 1 rfl) ?_
      refine lv_iload_n C.1 C.2.1 dX9_four_16 rfl (lv_at hl 2 rfl) ?_
      refine r_ishr C dX9_four_17 ?_
      refine r_sipush C dX9_four_18 (by decide +kernel) ?_
      refine r_iand C dX9_four_21 ?_
      refine r_iast C hp h mk_4 ms_4 dX9_four_22 (fun M15 H locs h hp => ?_)
      refine lv_aload_n C.1 C.2.1 dX9_four_23 rfl (lv_at hl 0 rfl) ?_
      refine lv_dup C.1 C.2.1 dX9_four_24 rfl ?_
      refine r_geti (t := 0) C hp mk_0 ms_0 mc_0 min_0 (j := 4) (by decide) rfl gw_1260 rfl dX9_four_25 ?_
      refine r_iconst C dX9_four_28 ?_
      refine r_iadd C dX9_four_29 ?_
      refine r_puti C hp h mk_0 ms_0 mc_0 min_0 tyX9 tyX9_ok nmX9 (j := 4) (by decide) rfl gw_1260 rfl rfl rfl dX9_four_30 (fun M16 H locs h hp => ?_)
      refine r_iinc (lv' := fun x17 => [(2, .int (gI x17)), (0, .ref (V.2.2 0)), (1, .int (gI x12))]) C h dX9_four_33 hl (j := 2) rfl (by decide) (fun _ => rfl) (fun x17 ls h hl => ?_)
      refine r_goto (tgt := 3) C dX9_four_36 (by decide) ?_
      exact ih _ _ _ _ _ h hp (lv_sub hl [1, 2, 0] rfl)
set_option maxRecDepth 100000 in
set_option maxHeartbeats 4000000 in
theorem b_X9_four (C : g_CX mG V p R s m args meth c cX9_four 3 none RX9 0 0) {res : g_M} (hR : g_RetV mG V p l e R s m args below meth c Q cX9_four res) {a1 : Int} {M : g_M} {H : Heap} {locs : List Loc} {ls : Array Slot} (h : m_X9_four a1 M = some res) (hp : g_PT mG V M s H locs) (hl : lv_has ls 3 [(0, .ref (V.2.2 0)), (1, .int (gI a1))]) : W p l e R s m args below meth c H locs 0 0 Q (F0 m 0 ls []) := by
  unfold m_X9_four at h
  refine r_bipush C dX9_four_0 (by decide +kernel) ?_
  refine r_istore_n (lv' := fun x11 => [(2, .int (gI x11)), (0, .ref (V.2.2 0)), (1, .int (gI a1))]) C h dX9_four_2 rfl hl (by decide) (fun _ => rfl) (fun x11 ls h hl => ?_)
  refine w_X9_four_L3 C hR _ _ _ _ H locs ls h hp (lv_sub hl [1, 2, 0] rfl)
theorem c_X9_four (l : Launch) {V : g_V} (hok : g_ok mG V) {a1 : Int} {M : g_M} {res : g_M} (h : m_X9_four a1 M = some res) : MetV mG V l yX9_four cX9_four 3 none 0 0 [.ref (V.2.2 0), .int (gI a1)] M res :=
  g_metV hok cal_X9_four.2.2.2 rfl (Nat.le_of_ble_eq_true rfl) (@fun p e R s m args below meth c Q ls C hR hp hl => b_X9_four C hR h hp hl)
set_option maxRecDepth 100000 in
set_option maxHeartbeats 4000000 in
theorem b_X9_feed (C : g_CX mG V p R s m args meth c cX9_feed 6 (some .int) RX9 1 22) {res : Int × g_M} (hR : g_RetI mG V p l e R s m args below meth c Q cX9_feed .int res.1 res.2) {a1 : Int} {a2 : Int} {a3 : Int} {a4 : Int} {a5 : Int} {M : g_M} {H : Heap} {locs : List Loc} {ls : Array Slot} (h : m_X9_feed a1 a2 a3 a4 a5 M = some res) (hp : g_PT mG V M s H locs) (hl : lv_has ls 6 [(0, .ref (V.2.2 0)), (1, .int (gI a1)), (2, .int (gI a2)), (3, .int (gI a3)), (4, .int (gI a4)), (5, .int (gI a5))]) : W p l e R s m args below meth c H locs 0 0 Q (F0 m 0 ls []) := by
  unfold m_X9_feed at h
  refine lv_aload_n C.1 C.2.1 dX9_feed_0 rfl (lv_at hl 0 rfl) ?_
  refine r_geti (t := 0) C hp mk_0 ms_0 mc_0 min_0 (j := 4) (by decide) rfl gw_1260 rfl dX9_feed_1 ?_
  refine r_bipush C dX9_feed_4 (by decide +kernel) ?_
  refine r_iadd C dX9_feed_6 ?_
  refine r_sipush C dX9_feed_7 (by decide +kernel) ?_
  refine r_icmp_le (tgt := 15) C h dX9_feed_10 (by decide) (fun h => ?_) (fun h => ?_)
  · refine lv_aload_n C.1 C.2.1 dX9_feed_15 rfl (lv_at hl 0 rfl) ?_
    refine lv_iload_n C.1 C.2.1 dX9_feed_16 rfl (lv_at hl 1 rfl) ?_
    obtain ⟨M11, hr, h⟩ := bd_of h
    refine r_callVV (As := [.int (gI a1)]) (rest := []) C hl.1 hp (c_X9_four l C.2.2.2.2.2.2.2.2.2.2.2 hr) gw_1411 gw_1413 gw_48 mk_0 ms_0 mc_0 cal_X9_four rfl rfl (Nat.le_of_ble_eq_true rfl) ⟨Nat.le_of_ble_eq_true rfl, Nat.le_of_ble_eq_true rfl⟩ dX9_feed_17 (fun H locs hp => ?_)
    refine lv_aload_n C.1 C.2.1 dX9_feed_20 rfl (lv_at hl 0 rfl) ?_
    refine lv_iload_n C.1 C.2.1 dX9_feed_21 rfl (lv_at hl 2 rfl) ?_
    obtain ⟨M12, hr, h⟩ := bd_of h
    refine r_callVV (As := [.int (gI a2)]) (rest := []) C hl.1 hp (c_X9_four l C.2.2.2.2.2.2.2.2.2.2.2 hr) gw_1411 gw_1413 gw_48 mk_0 ms_0 mc_0 cal_X9_four rfl rfl (Nat.le_of_ble_eq_true rfl) ⟨Nat.le_of_ble_eq_true rfl, Nat.le_of_ble_eq_true rfl⟩ dX9_feed_22 (fun H locs hp => ?_)
    refine lv_aload_n C.1 C.2.1 dX9_feed_25 rfl (lv_at hl 0 rfl) ?_
    refine lv_iload_n C.1 C.2.1 dX9_feed_26 rfl (lv_at hl 3 rfl) ?_
    obtain ⟨M13, hr, h⟩ := bd_of h
    refine r_callVV (As := [.int (gI a3)]) (rest := []) C hl.1 hp (c_X9_four l C.2.2.2.2.2.2.2.2.2.2.2 hr) gw_1411 gw_1413 gw_48 mk_0 ms_0 mc_0 cal_X9_four rfl rfl (Nat.le_of_ble_eq_true rfl) ⟨Nat.le_of_ble_eq_true rfl, Nat.le_of_ble_eq_true rfl⟩ dX9_feed_27 (fun H locs hp => ?_)
    refine lv_aload_n C.1 C.2.1 dX9_feed_30 rfl (lv_at hl 0 rfl) ?_
    refine lv_iload C.1 C.2.1 dX9_feed_31 (lv_at hl 4 rfl) ?_
    obtain ⟨M14, hr, h⟩ := bd_of h
    refine r_callVV (As := [.int (gI a4)]) (rest := []) C hl.1 hp (c_X9_four l C.2.2.2.2.2.2.2.2.2.2.2 hr) gw_1411 gw_1413 gw_48 mk_0 ms_0 mc_0 cal_X9_four rfl rfl (Nat.le_of_ble_eq_true rfl) ⟨Nat.le_of_ble_eq_true rfl, Nat.le_of_ble_eq_true rfl⟩ dX9_feed_33 (fun H locs hp => ?_)
    refine lv_aload_n C.1 C.2.1 dX9_feed_36 rfl (lv_at hl 0 rfl) ?_
    refine lv_iload C.1 C.2.1 dX9_feed_37 (lv_at hl 5 rfl) ?_
    obtain ⟨M15, hr, h⟩ := bd_of h
    refine r_callVV (As := [.int (gI a5)]) (rest := []) C hl.1 hp (c_X9_four l C.2.2.2.2.2.2.2.2.2.2.2 hr) gw_1411 gw_1413 gw_48 mk_0 ms_0 mc_0 cal_X9_four rfl rfl (Nat.le_of_ble_eq_true rfl) ⟨Nat.le_of_ble_eq_true rfl, Nat.le_of_ble_eq_true rfl⟩ dX9_feed_39 (fun H locs hp => ?_)
    refine lv_aload_n C.1 C.2.1 dX9_feed_42 rfl (lv_at hl 0 rfl) ?_
    refine r_geti (t := 0) C hp mk_0 ms_0 mc_0 min_0 (j := 4) (by decide) rfl gw_1260 rfl dX9_feed_43 ?_
    cases h
    exact hR _ _ _ _ dX9_feed_46 rfl hp
  · refine r_iconst C dX9_feed_13 ?_
    cases h
    exact hR _ _ _ _ dX9_feed_14 rfl hp
theorem c_X9_feed (l : Launch) {V : g_V} (hok : g_ok mG V) {a1 : Int} {a2 : Int} {a3 : Int} {a4 : Int} {a5 : Int} {M : g_M} {x : Int} {M2 : g_M} (h : m_X9_feed a1 a2 a3 a4 a5 M = some (x, M2)) : MetI mG V l yX9_feed cX9_feed 6 (some .int) 1 22 [.ref (V.2.2 0), .int (gI a1), .int (gI a2), .int (gI a3), .int (gI a4), .int (gI a5)] M x M2 :=
  g_metI hok cal_X9_feed.2.2.2 rfl (Nat.le_of_ble_eq_true rfl) (@fun p e R s m args below meth c Q ls C hR hp hl => b_X9_feed C hR h hp hl)
set_option maxRecDepth 100000 in
set_option maxHeartbeats 4000000 in
theorem b_X9_end (C : g_CX mG V p R s m args meth c cX9_end 2 (some .int) RX9 1 22) {res : Int × g_M} (hR : g_RetI mG V p l e R s m args below meth c Q cX9_end .int res.1 res.2) {a1 : Int} {M : g_M} {H : Heap} {locs : List Loc} {ls : Array Slot} (h : m_X9_end a1 M = some res) (hp : g_PT mG V M s H locs) (hl : lv_has ls 2 [(0, .ref (V.2.2 0)), (1, .int (gI a1))]) : W p l e R s m args below meth c H locs 0 0 Q (F0 m 0 ls []) := by
  unfold m_X9_end at h
  refine lv_iload_n C.1 C.2.1 dX9_end_0 rfl (lv_at hl 1 rfl) ?_
  refine r_iconst C dX9_end_1 ?_
  refine lv_aload_n C.1 C.2.1 dX9_end_2 rfl (lv_at hl 0 rfl) ?_
  refine r_geti (t := 0) C hp mk_0 ms_0 mc_0 min_0 (j := 4) (by decide) rfl gw_1260 rfl dX9_end_3 ?_
  obtain ⟨x11, hr, h⟩ := bd_of h
  refine r_callSI (As := [.int (gI a1), .int (gI 0), .int (gI (M 0 4))]) (rest := []) C hl.1 hp (c_X9_isIn l C.2.2.2.2.2.2.2.2.2.2.2 hr) gw_1378 gw_1379 cal_X9_isIn rfl rfl (Nat.le_of_ble_eq_true rfl) ⟨Nat.le_of_ble_eq_true rfl, Nat.le_of_ble_eq_true rfl⟩ dX9_end_6 (fun H locs hp => ?_)
  refine r_if_ne (tgt := 14) C h dX9_end_9 (by decide) (fun h => ?_) (fun h => ?_)
  · refine lv_aload_n C.1 C.2.1 dX9_end_14 rfl (lv_at hl 0 rfl) ?_
    refine lv_iload_n C.1 C.2.1 dX9_end_15 rfl (lv_at hl 1 rfl) ?_
    refine r_puti C hp h mk_0 ms_0 mc_0 min_0 tyX9 tyX9_ok nmX9 (j := 4) (by decide) rfl gw_1260 rfl rfl rfl dX9_end_16 (fun M12 H locs h hp => ?_)
    refine lv_iload_n C.1 C.2.1 dX9_end_19 rfl (lv_at hl 1 rfl) ?_
    cases h
    exact hR _ _ _ _ dX9_end_20 rfl hp
  · refine r_iconst C dX9_end_12 ?_
    cases h
    exact hR _ _ _ _ dX9_end_13 rfl hp
theorem c_X9_end (l : Launch) {V : g_V} (hok : g_ok mG V) {a1 : Int} {M : g_M} {x : Int} {M2 : g_M} (h : m_X9_end a1 M = some (x, M2)) : MetI mG V l yX9_end cX9_end 2 (some .int) 1 22 [.ref (V.2.2 0), .int (gI a1)] M x M2 :=
  g_metI hok cal_X9_end.2.2.2 rfl (Nat.le_of_ble_eq_true rfl) (@fun p e R s m args below meth c Q ls C hR hp hl => b_X9_end C hR h hp hl)
set_option maxRecDepth 100000 in
set_option maxHeartbeats 4000000 in
theorem b_X9_byteAt (C : g_CX mG V p R s m args meth c cX9_byteAt 2 (some .int) RX9 0 0) {res : Int} {M : g_M} (hR : g_RetI mG V p l e R s m args below meth c Q cX9_byteAt .int res M) {a1 : Int} {H : Heap} {locs : List Loc} {ls : Array Slot} (h : m_X9_byteAt a1 M = some res) (hp : g_PT mG V M s H locs) (hl : lv_has ls 2 [(0, .ref (V.2.2 0)), (1, .int (gI a1))]) : W p l e R s m args below meth c H locs 0 0 Q (F0 m 0 ls []) := by
  unfold m_X9_byteAt at h
  refine lv_iload_n C.1 C.2.1 dX9_byteAt_0 rfl (lv_at hl 1 rfl) ?_
  refine lv_aload_n C.1 C.2.1 dX9_byteAt_1 rfl (lv_at hl 0 rfl) ?_
  refine r_geti (t := 0) C hp mk_0 ms_0 mc_0 min_0 (j := 4) (by decide) rfl gw_1260 rfl dX9_byteAt_2 ?_
  refine r_icmp_ge (tgt := 17) C h dX9_byteAt_5 (by decide) (fun h => ?_) (fun h => ?_)
  · refine r_iconst C dX9_byteAt_17 ?_
    cases h
    exact hR _ _ _ _ dX9_byteAt_18 rfl hp
  · refine lv_aload_n C.1 C.2.1 dX9_byteAt_8 rfl (lv_at hl 0 rfl) ?_
    refine r_getr (t := 4) C hp mk_0 ms_0 mc_0 min_0 (j := 3) (by decide) rfl gw_1259 rfl dX9_byteAt_9 ?_
    refine lv_iload_n C.1 C.2.1 dX9_byteAt_12 rfl (lv_at hl 1 rfl) ?_
    refine r_iald C hp h mk_4 ms_4 dX9_byteAt_13 (fun h => ?_)
    refine r_goto (tgt := 18) C dX9_byteAt_14 (by decide) ?_
    cases h
    exact hR _ _ _ _ dX9_byteAt_18 rfl hp
theorem c_X9_byteAt (l : Launch) {V : g_V} (hok : g_ok mG V) {a1 : Int} {M : g_M} {x : Int} (h : m_X9_byteAt a1 M = some x) : MetI mG V l yX9_byteAt cX9_byteAt 2 (some .int) 0 0 [.ref (V.2.2 0), .int (gI a1)] M x M :=
  g_metI hok cal_X9_byteAt.2.2.2 rfl (Nat.le_of_ble_eq_true rfl) (@fun p e R s m args below meth c Q ls C hR hp hl => b_X9_byteAt C hR h hp hl)
set_option maxRecDepth 100000 in
set_option maxHeartbeats 4000000 in
theorem b_X9_isLetterByte (C : g_CX mG V p R s m args meth c cX9_isLetterByte 1 (some .boolean) RX9 0 0) {res : Int} {M : g_M} (hR : g_RetI mG V p l e R s m args below meth c Q cX9_isLetterByte .boolean res M) {a1 : Int} {H : Heap} {locs : List Loc} {ls : Array Slot} (h : m_X9_isLetterByte a1 = some res) (hp : g_PT mG V M s H locs) (hl : lv_has ls 1 [(0, .int (gI a1))]) : W p l e R s m args below meth c H locs 0 0 Q (F0 m 0 ls []) := by
  unfold m_X9_isLetterByte at h
  refine r_jn (P := fun J => ∀  (H : Heap) (locs : List Loc) (ls : Array Slot), J  = some res → g_PT mG V M s H locs → lv_has ls 1 [] → W p l e R s m args below meth c H locs 0 0 Q (F0 m 24 ls [])) h ?_ (fun J12 hJ12 h => ?_)
  · intro  H locs ls h hp hl
    refine r_iconst C dX9_isLetterByte_24 ?_
    refine r_goto (tgt := 29) C dX9_isLetterByte_25 (by decide) ?_
    cases h
    exact hR _ _ _ _ dX9_isLetterByte_29 g_nz1 hp
  refine r_jn (P := fun J => ∀  (H : Heap) (locs : List Loc) (ls : Array Slot), J  = some res → g_PT mG V M s H locs → lv_has ls 1 [(0, .int (gI a1))] → W p l e R s m args below meth c H locs 0 0 Q (F0 m 12 ls [])) h ?_ (fun J11 hJ11 h => ?_)
  · intro  H locs ls h hp hl
    refine r_jn (P := fun J => ∀  (H : Heap) (locs : List Loc) (ls : Array Slot), J  = some res → g_PT mG V M s H locs → lv_has ls 1 [] → W p l e R s m args below meth c H locs 0 0 Q (F0 m 28 ls [])) h ?_ (fun J13 hJ13 h => ?_)
    · intro  H locs ls h hp hl
      refine r_iconst C dX9_isLetterByte_28 ?_
      cases h
      exact hR _ _ _ _ dX9_isLetterByte_29 g_nz0 hp
    refine lv_iload_n C.1 C.2.1 dX9_isLetterByte_12 rfl (lv_at hl 0 rfl) ?_
    refine r_bipush C dX9_isLetterByte_13 (by decide +kernel) ?_
    refine r_icmp_lt (tgt := 28) C h dX9_isLetterByte_15 (by decide) (fun h => ?_) (fun h => ?_)
    · exact hJ13  _ _ _ h hp (lv_sub hl [] rfl)
    · refine lv_iload_n C.1 C.2.1 dX9_isLetterByte_18 rfl (lv_at hl 0 rfl) ?_
      refine r_bipush C dX9_isLetterByte_19 (by decide +kernel) ?_
      refine r_icmp_gt (tgt := 28) C h dX9_isLetterByte_21 (by decide) (fun h => ?_) (fun h => ?_)
      · exact hJ13  _ _ _ h hp (lv_sub hl [] rfl)
      · exact hJ12  _ _ _ h hp (lv_sub hl [] rfl)
  refine lv_iload_n C.1 C.2.1 dX9_isLetterByte_0 rfl (lv_at hl 0 rfl) ?_
  refine r_bipush C dX9_isLetterByte_1 (by decide +kernel) ?_
  refine r_icmp_lt (tgt := 12) C h dX9_isLetterByte_3 (by decide) (fun h => ?_) (fun h => ?_)
  · exact hJ11  _ _ _ h hp hl
  · refine lv_iload_n C.1 C.2.1 dX9_isLetterByte_6 rfl (lv_at hl 0 rfl) ?_
    refine r_bipush C dX9_isLetterByte_7 (by decide +kernel) ?_
    refine r_icmp_le (tgt := 24) C h dX9_isLetterByte_9 (by decide) (fun h => ?_) (fun h => ?_)
    · exact hJ12  _ _ _ h hp (lv_sub hl [] rfl)
    · exact hJ11  _ _ _ h hp hl
theorem c_X9_isLetterByte (l : Launch) {V : g_V} (hok : g_ok mG V) {a1 : Int} {M : g_M} {x : Int} (h : m_X9_isLetterByte a1 = some x) : MetI mG V l yX9_isLetterByte cX9_isLetterByte 1 (some .boolean) 0 0 [.int (gI a1)] M x M :=
  g_metI hok cal_X9_isLetterByte.2.2.2 rfl (Nat.le_of_ble_eq_true rfl) (@fun p e R s m args below meth c Q ls C hR hp hl => b_X9_isLetterByte C hR h hp hl)
set_option maxRecDepth 100000 in
set_option maxHeartbeats 4000000 in
theorem b_X9_isFigure (C : g_CX mG V p R s m args meth c cX9_isFigure 1 (some .boolean) RX9 0 0) {res : Int} {M : g_M} (hR : g_RetI mG V p l e R s m args below meth c Q cX9_isFigure .boolean res M) {a1 : Int} {H : Heap} {locs : List Loc} {ls : Array Slot} (h : m_X9_isFigure a1 = some res) (hp : g_PT mG V M s H locs) (hl : lv_has ls 1 [(0, .int (gI a1))]) : W p l e R s m args below meth c H locs 0 0 Q (F0 m 0 ls []) := by
  unfold m_X9_isFigure at h
  refine r_jn (P := fun J => ∀  (H : Heap) (locs : List Loc) (ls : Array Slot), J  = some res → g_PT mG V M s H locs → lv_has ls 1 [] → W p l e R s m args below meth c H locs 0 0 Q (F0 m 16 ls [])) h ?_ (fun J11 hJ11 h => ?_)
  · intro  H locs ls h hp hl
    refine r_iconst C dX9_isFigure_16 ?_
    cases h
    exact hR _ _ _ _ dX9_isFigure_17 g_nz0 hp
  refine lv_iload_n C.1 C.2.1 dX9_isFigure_0 rfl (lv_at hl 0 rfl) ?_
  refine r_bipush C dX9_isFigure_1 (by decide +kernel) ?_
  refine r_icmp_lt (tgt := 16) C h dX9_isFigure_3 (by decide) (fun h => ?_) (fun h => ?_)
  · exact hJ11  _ _ _ h hp (lv_sub hl [] rfl)
  · refine lv_iload_n C.1 C.2.1 dX9_isFigure_6 rfl (lv_at hl 0 rfl) ?_
    refine r_bipush C dX9_isFigure_7 (by decide +kernel) ?_
    refine r_icmp_gt (tgt := 16) C h dX9_isFigure_9 (by decide) (fun h => ?_) (fun h => ?_)
    · exact hJ11  _ _ _ h hp (lv_sub hl [] rfl)
    · refine r_iconst C dX9_isFigure_12 ?_
      refine r_goto (tgt := 17) C dX9_isFigure_13 (by decide) ?_
      cases h
      exact hR _ _ _ _ dX9_isFigure_17 g_nz1 hp
theorem c_X9_isFigure (l : Launch) {V : g_V} (hok : g_ok mG V) {a1 : Int} {M : g_M} {x : Int} (h : m_X9_isFigure a1 = some x) : MetI mG V l yX9_isFigure cX9_isFigure 1 (some .boolean) 0 0 [.int (gI a1)] M x M :=
  g_metI hok cal_X9_isFigure.2.2.2 rfl (Nat.le_of_ble_eq_true rfl) (@fun p e R s m args below meth c Q ls C hR hp hl => b_X9_isFigure C hR h hp hl)
set_option maxRecDepth 100000 in
set_option maxHeartbeats 4000000 in
theorem b_X9_isSign (C : g_CX mG V p R s m args meth c cX9_isSign 1 (some .boolean) RX9 0 0) {res : Int} {M : g_M} (hR : g_RetI mG V p l e R s m args below meth c Q cX9_isSign .boolean res M) {a1 : Int} {H : Heap} {locs : List Loc} {ls : Array Slot} (h : m_X9_isSign a1 = some res) (hp : g_PT mG V M s H locs) (hl : lv_has ls 1 [(0, .int (gI a1))]) : W p l e R s m args below meth c H locs 0 0 Q (F0 m 0 ls []) := by
  unfold m_X9_isSign at h
  refine lv_iload_n C.1 C.2.1 dX9_isSign_0 rfl (lv_at hl 0 rfl) ?_
  refine r_ite h (fun hv h => ?_) (fun hv35 h => ?_)
  · refine r_tswIn (tgt := 128) (v := 35) C hv dX9_isSign_1 (by decide) rfl (by decide) ?_
    refine r_iconst C dX9_isSign_128 ?_
    cases h
    exact hR _ _ _ _ dX9_isSign_129 g_nz1 hp
  refine r_ite h (fun hv h => ?_) (fun hv37 h => ?_)
  · refine r_tswIn (tgt := 128) (v := 37) C hv dX9_isSign_1 (by decide) rfl (by decide) ?_
    refine r_iconst C dX9_isSign_128 ?_
    cases h
    exact hR _ _ _ _ dX9_isSign_129 g_nz1 hp
  refine r_ite h (fun hv h => ?_) (fun hv40 h => ?_)
  · refine r_tswIn (tgt := 128) (v := 40) C hv dX9_isSign_1 (by decide) rfl (by decide) ?_
    refine r_iconst C dX9_isSign_128 ?_
    cases h
    exact hR _ _ _ _ dX9_isSign_129 g_nz1 hp
  refine r_ite h (fun hv h => ?_) (fun hv41 h => ?_)
  · refine r_tswIn (tgt := 128) (v := 41) C hv dX9_isSign_1 (by decide) rfl (by decide) ?_
    refine r_iconst C dX9_isSign_128 ?_
    cases h
    exact hR _ _ _ _ dX9_isSign_129 g_nz1 hp
  refine r_ite h (fun hv h => ?_) (fun hv42 h => ?_)
  · refine r_tswIn (tgt := 128) (v := 42) C hv dX9_isSign_1 (by decide) rfl (by decide) ?_
    refine r_iconst C dX9_isSign_128 ?_
    cases h
    exact hR _ _ _ _ dX9_isSign_129 g_nz1 hp
  refine r_ite h (fun hv h => ?_) (fun hv43 h => ?_)
  · refine r_tswIn (tgt := 128) (v := 43) C hv dX9_isSign_1 (by decide) rfl (by decide) ?_
    refine r_iconst C dX9_isSign_128 ?_
    cases h
    exact hR _ _ _ _ dX9_isSign_129 g_nz1 hp
  refine r_ite h (fun hv h => ?_) (fun hv45 h => ?_)
  · refine r_tswIn (tgt := 128) (v := 45) C hv dX9_isSign_1 (by decide) rfl (by decide) ?_
    refine r_iconst C dX9_isSign_128 ?_
    cases h
    exact hR _ _ _ _ dX9_isSign_129 g_nz1 hp
  refine r_ite h (fun hv h => ?_) (fun hv47 h => ?_)
  · refine r_tswIn (tgt := 128) (v := 47) C hv dX9_isSign_1 (by decide) rfl (by decide) ?_
    refine r_iconst C dX9_isSign_128 ?_
    cases h
    exact hR _ _ _ _ dX9_isSign_129 g_nz1 hp
  refine r_ite h (fun hv h => ?_) (fun hv58 h => ?_)
  · refine r_tswIn (tgt := 128) (v := 58) C hv dX9_isSign_1 (by decide) rfl (by decide) ?_
    refine r_iconst C dX9_isSign_128 ?_
    cases h
    exact hR _ _ _ _ dX9_isSign_129 g_nz1 hp
  refine r_ite h (fun hv h => ?_) (fun hv59 h => ?_)
  · refine r_tswIn (tgt := 128) (v := 59) C hv dX9_isSign_1 (by decide) rfl (by decide) ?_
    refine r_iconst C dX9_isSign_128 ?_
    cases h
    exact hR _ _ _ _ dX9_isSign_129 g_nz1 hp
  refine r_ite h (fun hv h => ?_) (fun hv60 h => ?_)
  · refine r_tswIn (tgt := 128) (v := 60) C hv dX9_isSign_1 (by decide) rfl (by decide) ?_
    refine r_iconst C dX9_isSign_128 ?_
    cases h
    exact hR _ _ _ _ dX9_isSign_129 g_nz1 hp
  refine r_ite h (fun hv h => ?_) (fun hv61 h => ?_)
  · refine r_tswIn (tgt := 128) (v := 61) C hv dX9_isSign_1 (by decide) rfl (by decide) ?_
    refine r_iconst C dX9_isSign_128 ?_
    cases h
    exact hR _ _ _ _ dX9_isSign_129 g_nz1 hp
  refine r_ite h (fun hv h => ?_) (fun hv62 h => ?_)
  · refine r_tswIn (tgt := 128) (v := 62) C hv dX9_isSign_1 (by decide) rfl (by decide) ?_
    refine r_iconst C dX9_isSign_128 ?_
    cases h
    exact hR _ _ _ _ dX9_isSign_129 g_nz1 hp
  have hd : W p l e R s m args below meth c H locs 0 0 Q (F0 m 130 ls []) := by
    refine r_iconst C dX9_isSign_130 ?_
    cases h
    exact hR _ _ _ _ dX9_isSign_131 g_nz0 hp
  have hz : gs a1 < 35 ∨ 62 < gs a1 ∨ gs a1 = 36 ∨ gs a1 = 38 ∨ gs a1 = 39 ∨ gs a1 = 44 ∨ gs a1 = 46 ∨ gs a1 = 48 ∨ gs a1 = 49 ∨ gs a1 = 50 ∨ gs a1 = 51 ∨ gs a1 = 52 ∨ gs a1 = 53 ∨ gs a1 = 54 ∨ gs a1 = 55 ∨ gs a1 = 56 ∨ gs a1 = 57 := by omega
  rcases hz with hz | hz | hz | hz | hz | hz | hz | hz | hz | hz | hz | hz | hz | hz | hz | hz | hz
  · exact r_tswOut (tgt := 130) C dX9_isSign_1 (Or.inl hz) (by decide) hd
  · exact r_tswOut (tgt := 130) C dX9_isSign_1 (Or.inr hz) (by decide) hd
  · exact r_tswIn (tgt := 130) (v := 36) C hz dX9_isSign_1 (by decide) rfl (by decide) hd
  · exact r_tswIn (tgt := 130) (v := 38) C hz dX9_isSign_1 (by decide) rfl (by decide) hd
  · exact r_tswIn (tgt := 130) (v := 39) C hz dX9_isSign_1 (by decide) rfl (by decide) hd
  · exact r_tswIn (tgt := 130) (v := 44) C hz dX9_isSign_1 (by decide) rfl (by decide) hd
  · exact r_tswIn (tgt := 130) (v := 46) C hz dX9_isSign_1 (by decide) rfl (by decide) hd
  · exact r_tswIn (tgt := 130) (v := 48) C hz dX9_isSign_1 (by decide) rfl (by decide) hd
  · exact r_tswIn (tgt := 130) (v := 49) C hz dX9_isSign_1 (by decide) rfl (by decide) hd
  · exact r_tswIn (tgt := 130) (v := 50) C hz dX9_isSign_1 (by decide) rfl (by decide) hd
  · exact r_tswIn (tgt := 130) (v := 51) C hz dX9_isSign_1 (by decide) rfl (by decide) hd
  · exact r_tswIn (tgt := 130) (v := 52) C hz dX9_isSign_1 (by decide) rfl (by decide) hd
  · exact r_tswIn (tgt := 130) (v := 53) C hz dX9_isSign_1 (by decide) rfl (by decide) hd
  · exact r_tswIn (tgt := 130) (v := 54) C hz dX9_isSign_1 (by decide) rfl (by decide) hd
  · exact r_tswIn (tgt := 130) (v := 55) C hz dX9_isSign_1 (by decide) rfl (by decide) hd
  · exact r_tswIn (tgt := 130) (v := 56) C hz dX9_isSign_1 (by decide) rfl (by decide) hd
  · exact r_tswIn (tgt := 130) (v := 57) C hz dX9_isSign_1 (by decide) rfl (by decide) hd
theorem c_X9_isSign (l : Launch) {V : g_V} (hok : g_ok mG V) {a1 : Int} {M : g_M} {x : Int} (h : m_X9_isSign a1 = some x) : MetI mG V l yX9_isSign cX9_isSign 1 (some .boolean) 0 0 [.int (gI a1)] M x M :=
  g_metI hok cal_X9_isSign.2.2.2 rfl (Nat.le_of_ble_eq_true rfl) (@fun p e R s m args below meth c Q ls C hR hp hl => b_X9_isSign C hR h hp hl)
set_option maxRecDepth 100000 in
set_option maxHeartbeats 4000000 in
theorem w_X9_nextToken_L0 (C : g_CX mG V p R s m args meth c cX9_nextToken 2 none RX9 1 21) {res : g_M} (hR : g_RetV mG V p l e R s m args below meth c Q cX9_nextToken res)  (k12 : g_M → Option (g_M)) (hk12 : ∀ (M17 : g_M) (H : Heap) (locs : List Loc) (ls : Array Slot), k12 M17 = some res → g_PT mG V M17 s H locs → lv_has ls 2 [(0, .ref (V.2.2 0))] → W p l e R s m args below meth c H locs 0 0 Q (F0 m 39 ls [])) : ∀ (f : Nat)  (M11 : g_M) (H : Heap) (locs : List Loc) (ls : Array Slot), m_X9_nextToken_L0 k12 f M11 = some res → g_PT mG V M11 s H locs → lv_has ls 2 [(0, .ref (V.2.2 0))] → W p l e R s m args below meth c H locs 0 0 Q (F0 m 0 ls []) := by
  intro f
  induction f with
  | zero => intro M11 H locs ls h hp hl; cases h
  | succ f ih =>
    intro M11 H locs ls h hp hl
    rw [m_X9_nextToken_L0] at h
    refine r_jn (P := fun J => ∀  (H : Heap) (locs : List Loc) (ls : Array Slot), J  = some res → g_PT mG V M11 s H locs → lv_has ls 2 [(0, .ref (V.2.2 0))] → W p l e R s m args below meth c H locs 0 0 Q (F0 m 26 ls [])) h ?_ (fun J13 hJ13 h => ?_)
    · intro  H locs ls h hp hl
      refine lv_aload_n C.1 C.2.1 dX9_nextToken_26 rfl (lv_at hl 0 rfl) ?_
      refine lv_dup C.1 C.2.1 dX9_nextToken_27 rfl ?_
      refine r_geti (t := 0) C hp mk_0 ms_0 mc_0 min_0 (j := 7) (by decide) rfl gw_1263 rfl dX9_nextToken_28 ?_
      refine r_iconst C dX9_nextToken_31 ?_
      refine r_iadd C dX9_nextToken_32 ?_
      refine r_puti C hp h mk_0 ms_0 mc_0 min_0 tyX9 tyX9_ok nmX9 (j := 7) (by decide) rfl gw_1263 rfl rfl rfl dX9_nextToken_33 (fun M16 H locs h hp => ?_)
      refine r_goto (tgt := 0) C dX9_nextToken_36 (by decide) ?_
      exact ih _ _ _ _ h hp hl
    refine lv_aload_n C.1 C.2.1 dX9_nextToken_0 rfl (lv_at hl 0 rfl) ?_
    refine lv_aload_n C.1 C.2.1 dX9_nextToken_1 rfl (lv_at hl 0 rfl) ?_
    refine r_geti (t := 0) C hp mk_0 ms_0 mc_0 min_0 (j := 7) (by decide) rfl gw_1263 rfl dX9_nextToken_2 ?_
    obtain ⟨x14, hr, h⟩ := bd_of h
    refine r_callVI (As := [.int (gI (M11 0 7))]) (rest := []) C hl.1 hp (c_X9_byteAt l C.2.2.2.2.2.2.2.2.2.2.2 hr) gw_1431 gw_1433 gw_51 mk_0 ms_0 mc_0 cal_X9_byteAt rfl rfl (Nat.le_of_ble_eq_true rfl) ⟨Nat.le_of_ble_eq_true rfl, Nat.le_of_ble_eq_true rfl⟩ dX9_nextToken_5 (fun H locs hp => ?_)
    refine r_bipush C dX9_nextToken_8 (by decide +kernel) ?_
    refine r_icmp_eq (tgt := 26) C h dX9_nextToken_10 (by decide) (fun h => ?_) (fun h => ?_)
    · exact hJ13  _ _ _ h hp hl
    · refine lv_aload_n C.1 C.2.1 dX9_nextToken_13 rfl (lv_at hl 0 rfl) ?_
      refine lv_aload_n C.1 C.2.1 dX9_nextToken_14 rfl (lv_at hl 0 rfl) ?_
      refine r_geti (t := 0) C hp mk_0 ms_0 mc_0 min_0 (j := 7) (by decide) rfl gw_1263 rfl dX9_nextToken_15 ?_
      obtain ⟨x15, hr, h⟩ := bd_of h
      refine r_callVI (As := [.int (gI (M11 0 7))]) (rest := []) C hl.1 hp (c_X9_byteAt l C.2.2.2.2.2.2.2.2.2.2.2 hr) gw_1431 gw_1433 gw_51 mk_0 ms_0 mc_0 cal_X9_byteAt rfl rfl (Nat.le_of_ble_eq_true rfl) ⟨Nat.le_of_ble_eq_true rfl, Nat.le_of_ble_eq_true rfl⟩ dX9_nextToken_18 (fun H locs hp => ?_)
      refine r_bipush C dX9_nextToken_21 (by decide +kernel) ?_
      refine r_icmp_ne (tgt := 39) C h dX9_nextToken_23 (by decide) (fun h => ?_) (fun h => ?_)
      · exact hk12 _ _ _ _ h hp hl
      · exact hJ13  _ _ _ h hp hl
set_option maxRecDepth 100000 in
set_option maxHeartbeats 4000000 in
theorem w_X9_nextToken_L168 (C : g_CX mG V p R s m args meth c cX9_nextToken 2 none RX9 1 21) {res : g_M} (hR : g_RetV mG V p l e R s m args below meth c Q cX9_nextToken res)    : ∀ (f : Nat)  (M38 : g_M) (H : Heap) (locs : List Loc) (ls : Array Slot), m_X9_nextToken_L168  f M38 = some res → g_PT mG V M38 s H locs → lv_has ls 2 [(0, .ref (V.2.2 0))] → W p l e R s m args below meth c H locs 0 0 Q (F0 m 168 ls []) := by
  intro f
  induction f with
  | zero => intro M38 H locs ls h hp hl; cases h
  | succ f ih =>
    intro M38 H locs ls h hp hl
    rw [m_X9_nextToken_L168] at h
    refine lv_aload_n C.1 C.2.1 dX9_nextToken_168 rfl (lv_at hl 0 rfl) ?_
    refine lv_aload_n C.1 C.2.1 dX9_nextToken_169 rfl (lv_at hl 0 rfl) ?_
    refine r_geti (t := 0) C hp mk_0 ms_0 mc_0 min_0 (j := 7) (by decide) rfl gw_1263 rfl dX9_nextToken_170 ?_
    obtain ⟨x39, hr, h⟩ := bd_of h
    refine r_callVI (As := [.int (gI (M38 0 7))]) (rest := []) C hl.1 hp (c_X9_byteAt l C.2.2.2.2.2.2.2.2.2.2.2 hr) gw_1431 gw_1433 gw_51 mk_0 ms_0 mc_0 cal_X9_byteAt rfl rfl (Nat.le_of_ble_eq_true rfl) ⟨Nat.le_of_ble_eq_true rfl, Nat.le_of_ble_eq_true rfl⟩ dX9_nextToken_173 (fun H locs hp => ?_)
    obtain ⟨x40, hr, h⟩ := bd_of h
    refine r_callSI (As := [.int (gI x39)]) (rest := []) C hl.1 hp (c_X9_isLetterByte l C.2.2.2.2.2.2.2.2.2.2.2 hr) gw_1439 gw_1440 cal_X9_isLetterByte rfl rfl (Nat.le_of_ble_eq_true rfl) ⟨Nat.le_of_ble_eq_true rfl, Nat.le_of_ble_eq_true rfl⟩ dX9_nextToken_176 (fun H locs hp => ?_)
    refine r_if_eq (tgt := 310) C h dX9_nextToken_179 (by decide) (fun h => ?_) (fun h => ?_)
    · cases h
      exact hR _ _ _ _ dX9_nextToken_310 hp
    · refine r_jn (P := fun J => ∀ (x43 : Int) (H : Heap) (locs : List Loc) (ls : Array Slot), J x43 = some res → g_PT mG V M38 s H locs → lv_has ls 2 [(0, .ref (V.2.2 0))] → W p l e R s m args below meth c H locs 0 0 Q (F0 m 218 ls [.long (gJ x43), .ref (V.2.2 0)])) h ?_ (fun J41 hJ41 h => ?_)
      · intro x43 H locs ls h hp hl
        refine r_putl C hp h mk_0 ms_0 mc_0 min_0 tyX9 tyX9_ok nmX9 (j := 11) (by decide) rfl gw_1267 rfl rfl rfl dX9_nextToken_218 (fun M44 H locs h hp => ?_)
        refine lv_aload_n C.1 C.2.1 dX9_nextToken_221 rfl (lv_at hl 0 rfl) ?_
        refine lv_dup C.1 C.2.1 dX9_nextToken_222 rfl ?_
        refine r_geti (t := 0) C hp mk_0 ms_0 mc_0 min_0 (j := 7) (by decide) rfl gw_1263 rfl dX9_nextToken_223 ?_
        refine r_iconst C dX9_nextToken_226 ?_
        refine r_iadd C dX9_nextToken_227 ?_
        refine r_puti C hp h mk_0 ms_0 mc_0 min_0 tyX9 tyX9_ok nmX9 (j := 7) (by decide) rfl gw_1263 rfl rfl rfl dX9_nextToken_228 (fun M45 H locs h hp => ?_)
        refine r_goto (tgt := 168) C dX9_nextToken_231 (by decide) ?_
        exact ih _ _ _ _ h hp hl
      refine lv_aload_n C.1 C.2.1 dX9_nextToken_182 rfl (lv_at hl 0 rfl) ?_
      refine lv_aload_n C.1 C.2.1 dX9_nextToken_183 rfl (lv_at hl 0 rfl) ?_
      refine r_getl (t := 0) C hp mk_0 ms_0 mc_0 min_0 (j := 11) (by decide) rfl gw_1267 rfl dX9_nextToken_184 ?_
      refine r_bipush C dX9_nextToken_187 (by decide +kernel) ?_
      refine r_lshr C dX9_nextToken_189 ?_
      refine r_lconst (z := 0) C dX9_nextToken_190 rfl ?_
      refine r_lcmp C dX9_nextToken_191 ?_
      refine r_if_eq (tgt := 201) C h dX9_nextToken_192 (by decide) (fun h => ?_) (fun h => ?_)
      · refine lv_aload_n C.1 C.2.1 dX9_nextToken_201 rfl (lv_at hl 0 rfl) ?_
        refine r_getl (t := 0) C hp mk_0 ms_0 mc_0 min_0 (j := 11) (by decide) rfl gw_1267 rfl dX9_nextToken_202 ?_
        refine r_bipush C dX9_nextToken_205 (by decide +kernel) ?_
        refine r_lshl C dX9_nextToken_207 ?_
        refine lv_aload_n C.1 C.2.1 dX9_nextToken_208 rfl (lv_at hl 0 rfl) ?_
        refine lv_aload_n C.1 C.2.1 dX9_nextToken_209 rfl (lv_at hl 0 rfl) ?_
        refine r_geti (t := 0) C hp mk_0 ms_0 mc_0 min_0 (j := 7) (by decide) rfl gw_1263 rfl dX9_nextToken_210 ?_
        obtain ⟨x42, hr, h⟩ := bd_of h
        refine r_callVI (As := [.int (gI (M38 0 7))]) (rest := [.long (gJ (g_lshl (M38 0 11) 8)), .ref (V.2.2 0)]) C hl.1 hp (c_X9_byteAt l C.2.2.2.2.2.2.2.2.2.2.2 hr) gw_1431 gw_1433 gw_51 mk_0 ms_0 mc_0 cal_X9_byteAt rfl rfl (Nat.le_of_ble_eq_true rfl) ⟨Nat.le_of_ble_eq_true rfl, Nat.le_of_ble_eq_true rfl⟩ dX9_nextToken_213 (fun H locs hp => ?_)
        refine r_i2l C dX9_nextToken_216 ?_
        refine r_lor C dX9_nextToken_217 ?_
        exact hJ41 _ _ _ _ h hp hl
      · refine r_ldc2 (n := 1152921504606846976) C gw_1442 (by decide +kernel) dX9_nextToken_195 ?_
        refine r_goto (tgt := 218) C dX9_nextToken_198 (by decide) ?_
        exact hJ41 _ _ _ _ h hp hl
set_option maxRecDepth 100000 in
set_option maxHeartbeats 4000000 in
theorem w_X9_nextToken_L85 (C : g_CX mG V p R s m args meth c cX9_nextToken 2 none RX9 1 21) {res : g_M} (hR : g_RetV mG V p l e R s m args below meth c Q cX9_nextToken res)    : ∀ (f : Nat)  (M48 : g_M) (H : Heap) (locs : List Loc) (ls : Array Slot), m_X9_nextToken_L85  f M48 = some res → g_PT mG V M48 s H locs → lv_has ls 2 [(0, .ref (V.2.2 0))] → W p l e R s m args below meth c H locs 0 0 Q (F0 m 85 ls []) := by
  intro f
  induction f with
  | zero => intro M48 H locs ls h hp hl; cases h
  | succ f ih =>
    intro M48 H locs ls h hp hl
    rw [m_X9_nextToken_L85] at h
    refine lv_aload_n C.1 C.2.1 dX9_nextToken_85 rfl (lv_at hl 0 rfl) ?_
    refine lv_aload_n C.1 C.2.1 dX9_nextToken_86 rfl (lv_at hl 0 rfl) ?_
    refine r_geti (t := 0) C hp mk_0 ms_0 mc_0 min_0 (j := 7) (by decide) rfl gw_1263 rfl dX9_nextToken_87 ?_
    obtain ⟨x49, hr, h⟩ := bd_of h
    refine r_callVI (As := [.int (gI (M48 0 7))]) (rest := []) C hl.1 hp (c_X9_byteAt l C.2.2.2.2.2.2.2.2.2.2.2 hr) gw_1431 gw_1433 gw_51 mk_0 ms_0 mc_0 cal_X9_byteAt rfl rfl (Nat.le_of_ble_eq_true rfl) ⟨Nat.le_of_ble_eq_true rfl, Nat.le_of_ble_eq_true rfl⟩ dX9_nextToken_90 (fun H locs hp => ?_)
    obtain ⟨x50, hr, h⟩ := bd_of h
    refine r_callSI (As := [.int (gI x49)]) (rest := []) C hl.1 hp (c_X9_isFigure l C.2.2.2.2.2.2.2.2.2.2.2 hr) gw_1435 gw_1436 cal_X9_isFigure rfl rfl (Nat.le_of_ble_eq_true rfl) ⟨Nat.le_of_ble_eq_true rfl, Nat.le_of_ble_eq_true rfl⟩ dX9_nextToken_93 (fun H locs hp => ?_)
    refine r_if_eq (tgt := 310) C h dX9_nextToken_96 (by decide) (fun h => ?_) (fun h => ?_)
    · cases h
      exact hR _ _ _ _ dX9_nextToken_310 hp
    · refine r_jn (P := fun J => ∀ (x53 : Int) (H : Heap) (locs : List Loc) (ls : Array Slot), J x53 = some res → g_PT mG V M48 s H locs → lv_has ls 2 [(0, .ref (V.2.2 0))] → W p l e R s m args below meth c H locs 0 0 Q (F0 m 135 ls [.int (gI x53), .ref (V.2.2 0)])) h ?_ (fun J51 hJ51 h => ?_)
      · intro x53 H locs ls h hp hl
        refine r_puti C hp h mk_0 ms_0 mc_0 min_0 tyX9 tyX9_ok nmX9 (j := 10) (by decide) rfl gw_1266 rfl rfl rfl dX9_nextToken_135 (fun M54 H locs h hp => ?_)
        refine lv_aload_n C.1 C.2.1 dX9_nextToken_138 rfl (lv_at hl 0 rfl) ?_
        refine lv_dup C.1 C.2.1 dX9_nextToken_139 rfl ?_
        refine r_geti (t := 0) C hp mk_0 ms_0 mc_0 min_0 (j := 7) (by decide) rfl gw_1263 rfl dX9_nextToken_140 ?_
        refine r_iconst C dX9_nextToken_143 ?_
        refine r_iadd C dX9_nextToken_144 ?_
        refine r_puti C hp h mk_0 ms_0 mc_0 min_0 tyX9 tyX9_ok nmX9 (j := 7) (by decide) rfl gw_1263 rfl rfl rfl dX9_nextToken_145 (fun M55 H locs h hp => ?_)
        refine r_goto (tgt := 85) C dX9_nextToken_148 (by decide) ?_
        exact ih _ _ _ _ h hp hl
      refine lv_aload_n C.1 C.2.1 dX9_nextToken_99 rfl (lv_at hl 0 rfl) ?_
      refine lv_aload_n C.1 C.2.1 dX9_nextToken_100 rfl (lv_at hl 0 rfl) ?_
      refine r_geti (t := 0) C hp mk_0 ms_0 mc_0 min_0 (j := 10) (by decide) rfl gw_1266 rfl dX9_nextToken_101 ?_
      refine r_ldc (n := 99999) C gw_1438 (by decide +kernel) dX9_nextToken_104 ?_
      refine r_icmp_le (tgt := 116) C h dX9_nextToken_106 (by decide) (fun h => ?_) (fun h => ?_)
      · refine r_bipush C dX9_nextToken_116 (by decide +kernel) ?_
        refine lv_aload_n C.1 C.2.1 dX9_nextToken_118 rfl (lv_at hl 0 rfl) ?_
        refine r_geti (t := 0) C hp mk_0 ms_0 mc_0 min_0 (j := 10) (by decide) rfl gw_1266 rfl dX9_nextToken_119 ?_
        refine r_imul C dX9_nextToken_122 ?_
        refine lv_aload_n C.1 C.2.1 dX9_nextToken_123 rfl (lv_at hl 0 rfl) ?_
        refine lv_aload_n C.1 C.2.1 dX9_nextToken_124 rfl (lv_at hl 0 rfl) ?_
        refine r_geti (t := 0) C hp mk_0 ms_0 mc_0 min_0 (j := 7) (by decide) rfl gw_1263 rfl dX9_nextToken_125 ?_
        obtain ⟨x52, hr, h⟩ := bd_of h
        refine r_callVI (As := [.int (gI (M48 0 7))]) (rest := [.int (gI (10 * (M48 0 10))), .ref (V.2.2 0)]) C hl.1 hp (c_X9_byteAt l C.2.2.2.2.2.2.2.2.2.2.2 hr) gw_1431 gw_1433 gw_51 mk_0 ms_0 mc_0 cal_X9_byteAt rfl rfl (Nat.le_of_ble_eq_true rfl) ⟨Nat.le_of_ble_eq_true rfl, Nat.le_of_ble_eq_true rfl⟩ dX9_nextToken_128 (fun H locs hp => ?_)
        refine r_iadd C dX9_nextToken_131 ?_
        refine r_bipush C dX9_nextToken_132 (by decide +kernel) ?_
        refine r_isub C dX9_nextToken_134 ?_
        exact hJ51 _ _ _ _ h hp hl
      · refine lv_aload_n C.1 C.2.1 dX9_nextToken_109 rfl (lv_at hl 0 rfl) ?_
        refine r_geti (t := 0) C hp mk_0 ms_0 mc_0 min_0 (j := 10) (by decide) rfl gw_1266 rfl dX9_nextToken_110 ?_
        refine r_goto (tgt := 135) C dX9_nextToken_113 (by decide) ?_
        exact hJ51 _ _ _ _ h hp hl
set_option maxRecDepth 100000 in
set_option maxHeartbeats 4000000 in
theorem b_X9_nextToken (C : g_CX mG V p R s m args meth c cX9_nextToken 2 none RX9 1 21) {res : g_M} (hR : g_RetV mG V p l e R s m args below meth c Q cX9_nextToken res)  {M : g_M} {H : Heap} {locs : List Loc} {ls : Array Slot} (h : m_X9_nextToken M = some res) (hp : g_PT mG V M s H locs) (hl : lv_has ls 2 [(0, .ref (V.2.2 0))]) : W p l e R s m args below meth c H locs 0 0 Q (F0 m 0 ls []) := by
  unfold m_X9_nextToken at h
  refine w_X9_nextToken_L0 C hR _ ?_ _ _ H locs ls h hp hl
  · intro M18 H locs ls h hp hl
    refine lv_aload_n C.1 C.2.1 dX9_nextToken_39 rfl (lv_at hl 0 rfl) ?_
    refine lv_aload_n C.1 C.2.1 dX9_nextToken_40 rfl (lv_at hl 0 rfl) ?_
    refine r_geti (t := 0) C hp mk_0 ms_0 mc_0 min_0 (j := 7) (by decide) rfl gw_1263 rfl dX9_nextToken_41 ?_
    refine r_puti C hp h mk_0 ms_0 mc_0 min_0 tyX9 tyX9_ok nmX9 (j := 8) (by decide) rfl gw_1264 rfl rfl rfl dX9_nextToken_44 (fun M19 H locs h hp => ?_)
    refine lv_aload_n C.1 C.2.1 dX9_nextToken_47 rfl (lv_at hl 0 rfl) ?_
    refine lv_aload_n C.1 C.2.1 dX9_nextToken_48 rfl (lv_at hl 0 rfl) ?_
    refine r_geti (t := 0) C hp mk_0 ms_0 mc_0 min_0 (j := 7) (by decide) rfl gw_1263 rfl dX9_nextToken_49 ?_
    obtain ⟨x20, hr, h⟩ := bd_of h
    refine r_callVI (As := [.int (gI (M19 0 7))]) (rest := []) C hl.1 hp (c_X9_byteAt l C.2.2.2.2.2.2.2.2.2.2.2 hr) gw_1431 gw_1433 gw_51 mk_0 ms_0 mc_0 cal_X9_byteAt rfl rfl (Nat.le_of_ble_eq_true rfl) ⟨Nat.le_of_ble_eq_true rfl, Nat.le_of_ble_eq_true rfl⟩ dX9_nextToken_52 (fun H locs hp => ?_)
    refine r_istore_n (lv' := fun x21 => [(1, .int (gI x21)), (0, .ref (V.2.2 0))]) C h dX9_nextToken_55 rfl hl (by decide) (fun _ => rfl) (fun x21 ls h hl => ?_)
    refine lv_iload_n C.1 C.2.1 dX9_nextToken_56 rfl (lv_at hl 0 rfl) ?_
    refine r_if_ge (tgt := 68) C h dX9_nextToken_57 (by decide) (fun h => ?_) (fun h => ?_)
    · refine lv_iload_n C.1 C.2.1 dX9_nextToken_68 rfl (lv_at hl 0 rfl) ?_
      obtain ⟨x22, hr, h⟩ := bd_of h
      refine r_callSI (As := [.int (gI x21)]) (rest := []) C hl.1 hp (c_X9_isFigure l C.2.2.2.2.2.2.2.2.2.2.2 hr) gw_1435 gw_1436 cal_X9_isFigure rfl rfl (Nat.le_of_ble_eq_true rfl) ⟨Nat.le_of_ble_eq_true rfl, Nat.le_of_ble_eq_true rfl⟩ dX9_nextToken_69 (fun H locs hp => ?_)
      refine r_if_eq (tgt := 151) C h dX9_nextToken_72 (by decide) (fun h => ?_) (fun h => ?_)
      · refine lv_iload_n C.1 C.2.1 dX9_nextToken_151 rfl (lv_at hl 0 rfl) ?_
        obtain ⟨x23, hr, h⟩ := bd_of h
        refine r_callSI (As := [.int (gI x21)]) (rest := []) C hl.1 hp (c_X9_isLetterByte l C.2.2.2.2.2.2.2.2.2.2.2 hr) gw_1439 gw_1440 cal_X9_isLetterByte rfl rfl (Nat.le_of_ble_eq_true rfl) ⟨Nat.le_of_ble_eq_true rfl, Nat.le_of_ble_eq_true rfl⟩ dX9_nextToken_152 (fun H locs hp => ?_)
        refine r_if_eq (tgt := 234) C h dX9_nextToken_155 (by decide) (fun h => ?_) (fun h => ?_)
        · refine r_jn (P := fun J => ∀ (x26 : Int) (H : Heap) (locs : List Loc) (ls : Array Slot), J x26 = some res → g_PT mG V M19 s H locs → lv_has ls 2 [(0, .ref (V.2.2 0)), (1, .int (gI x21))] → W p l e R s m args below meth c H locs 0 0 Q (F0 m 247 ls [.int (gI x26), .ref (V.2.2 0)])) h ?_ (fun J24 hJ24 h => ?_)
          · intro x26 H locs ls h hp hl
            refine r_jn (P := fun J => ∀ (M30 : g_M) (H : Heap) (locs : List Loc) (ls : Array Slot), J M30 = some res → g_PT mG V M30 s H locs → lv_has ls 2 [(0, .ref (V.2.2 0)), (1, .int (gI x21))] → W p l e R s m args below meth c H locs 0 0 Q (F0 m 272 ls [])) h ?_ (fun J27 hJ27 h => ?_)
            · intro M30 H locs ls h hp hl
              refine lv_aload_n C.1 C.2.1 dX9_nextToken_272 rfl (lv_at hl 0 rfl) ?_
              refine lv_aload_n C.1 C.2.1 dX9_nextToken_273 rfl (lv_at hl 0 rfl) ?_
              refine r_geti (t := 0) C hp mk_0 ms_0 mc_0 min_0 (j := 7) (by decide) rfl gw_1263 rfl dX9_nextToken_274 ?_
              obtain ⟨x31, hr, h⟩ := bd_of h
              refine r_callVI (As := [.int (gI (M30 0 7))]) (rest := []) C hl.1 hp (c_X9_byteAt l C.2.2.2.2.2.2.2.2.2.2.2 hr) gw_1431 gw_1433 gw_51 mk_0 ms_0 mc_0 cal_X9_byteAt rfl rfl (Nat.le_of_ble_eq_true rfl) ⟨Nat.le_of_ble_eq_true rfl, Nat.le_of_ble_eq_true rfl⟩ dX9_nextToken_277 (fun H locs hp => ?_)
              refine r_bipush C dX9_nextToken_280 (by decide +kernel) ?_
              refine r_icmp_ne (tgt := 310) C h dX9_nextToken_282 (by decide) (fun h => ?_) (fun h => ?_)
              · cases h
                exact hR _ _ _ _ dX9_nextToken_310 hp
              · refine r_jn (P := fun J => ∀ (x33 : Int) (H : Heap) (locs : List Loc) (ls : Array Slot), J x33 = some res → g_PT mG V M30 s H locs → lv_has ls 2 [(0, .ref (V.2.2 0))] → W p l e R s m args below meth c H locs 0 0 Q (F0 m 297 ls [.int (gI x33), .ref (V.2.2 0)])) h ?_ (fun J32 hJ32 h => ?_)
                · intro x33 H locs ls h hp hl
                  refine r_puti C hp h mk_0 ms_0 mc_0 min_0 tyX9 tyX9_ok nmX9 (j := 9) (by decide) rfl gw_1265 rfl rfl rfl dX9_nextToken_297 (fun M34 H locs h hp => ?_)
                  refine lv_aload_n C.1 C.2.1 dX9_nextToken_300 rfl (lv_at hl 0 rfl) ?_
                  refine lv_dup C.1 C.2.1 dX9_nextToken_301 rfl ?_
                  refine r_geti (t := 0) C hp mk_0 ms_0 mc_0 min_0 (j := 7) (by decide) rfl gw_1263 rfl dX9_nextToken_302 ?_
                  refine r_iconst C dX9_nextToken_305 ?_
                  refine r_iadd C dX9_nextToken_306 ?_
                  refine r_puti C hp h mk_0 ms_0 mc_0 min_0 tyX9 tyX9_ok nmX9 (j := 7) (by decide) rfl gw_1263 rfl rfl rfl dX9_nextToken_307 (fun M35 H locs h hp => ?_)
                  cases h
                  exact hR _ _ _ _ dX9_nextToken_310 hp
                refine lv_aload_n C.1 C.2.1 dX9_nextToken_285 rfl (lv_at hl 0 rfl) ?_
                refine lv_iload_n C.1 C.2.1 dX9_nextToken_286 rfl (lv_at hl 1 rfl) ?_
                refine r_bipush C dX9_nextToken_287 (by decide +kernel) ?_
                refine r_icmp_ne (tgt := 296) C h dX9_nextToken_289 (by decide) (fun h => ?_) (fun h => ?_)
                · refine r_iconst C dX9_nextToken_296 ?_
                  exact hJ32 _ _ _ _ h hp (lv_sub hl [0] rfl)
                · refine r_iconst C dX9_nextToken_292 ?_
                  refine r_goto (tgt := 297) C dX9_nextToken_293 (by decide) ?_
                  exact hJ32 _ _ _ _ h hp (lv_sub hl [0] rfl)
            refine r_puti C hp h mk_0 ms_0 mc_0 min_0 tyX9 tyX9_ok nmX9 (j := 9) (by decide) rfl gw_1265 rfl rfl rfl dX9_nextToken_247 (fun M28 H locs h hp => ?_)
            refine lv_aload_n C.1 C.2.1 dX9_nextToken_250 rfl (lv_at hl 0 rfl) ?_
            refine lv_dup C.1 C.2.1 dX9_nextToken_251 rfl ?_
            refine r_geti (t := 0) C hp mk_0 ms_0 mc_0 min_0 (j := 7) (by decide) rfl gw_1263 rfl dX9_nextToken_252 ?_
            refine r_iconst C dX9_nextToken_255 ?_
            refine r_iadd C dX9_nextToken_256 ?_
            refine r_puti C hp h mk_0 ms_0 mc_0 min_0 tyX9 tyX9_ok nmX9 (j := 7) (by decide) rfl gw_1263 rfl rfl rfl dX9_nextToken_257 (fun M29 H locs h hp => ?_)
            refine lv_iload_n C.1 C.2.1 dX9_nextToken_260 rfl (lv_at hl 1 rfl) ?_
            refine r_bipush C dX9_nextToken_261 (by decide +kernel) ?_
            refine r_icmp_eq (tgt := 272) C h dX9_nextToken_263 (by decide) (fun h => ?_) (fun h => ?_)
            · exact hJ27 _ _ _ _ h hp hl
            · refine lv_iload_n C.1 C.2.1 dX9_nextToken_266 rfl (lv_at hl 1 rfl) ?_
              refine r_bipush C dX9_nextToken_267 (by decide +kernel) ?_
              refine r_icmp_ne (tgt := 310) C h dX9_nextToken_269 (by decide) (fun h => ?_) (fun h => ?_)
              · cases h
                exact hR _ _ _ _ dX9_nextToken_310 hp
              · exact hJ27 _ _ _ _ h hp hl
          refine lv_aload_n C.1 C.2.1 dX9_nextToken_234 rfl (lv_at hl 1 rfl) ?_
          refine lv_iload_n C.1 C.2.1 dX9_nextToken_235 rfl (lv_at hl 0 rfl) ?_
          obtain ⟨x25, hr, h⟩ := bd_of h
          refine r_callSI (As := [.int (gI x21)]) (rest := [.ref (V.2.2 0)]) C hl.1 hp (c_X9_isSign l C.2.2.2.2.2.2.2.2.2.2.2 hr) gw_1443 gw_1444 cal_X9_isSign rfl rfl (Nat.le_of_ble_eq_true rfl) ⟨Nat.le_of_ble_eq_true rfl, Nat.le_of_ble_eq_true rfl⟩ dX9_nextToken_236 (fun H locs hp => ?_)
          refine r_if_eq (tgt := 246) C h dX9_nextToken_239 (by decide) (fun h => ?_) (fun h => ?_)
          · refine r_iconst C dX9_nextToken_246 ?_
            exact hJ24 _ _ _ _ h hp (lv_sub hl [1, 0] rfl)
          · refine lv_iload_n C.1 C.2.1 dX9_nextToken_242 rfl (lv_at hl 0 rfl) ?_
            refine r_goto (tgt := 247) C dX9_nextToken_243 (by decide) ?_
            exact hJ24 _ _ _ _ h hp (lv_sub hl [1, 0] rfl)
        · refine lv_aload_n C.1 C.2.1 dX9_nextToken_158 rfl (lv_at hl 1 rfl) ?_
          refine r_iconst C dX9_nextToken_159 ?_
          refine r_puti C hp h mk_0 ms_0 mc_0 min_0 tyX9 tyX9_ok nmX9 (j := 9) (by decide) rfl gw_1265 rfl rfl rfl dX9_nextToken_160 (fun M36 H locs h hp => ?_)
          refine lv_aload_n C.1 C.2.1 dX9_nextToken_163 rfl (lv_at hl 1 rfl) ?_
          refine r_lconst (z := 0) C dX9_nextToken_164 rfl ?_
          refine r_putl C hp h mk_0 ms_0 mc_0 min_0 tyX9 tyX9_ok nmX9 (j := 11) (by decide) rfl gw_1267 rfl rfl rfl dX9_nextToken_165 (fun M37 H locs h hp => ?_)
          refine w_X9_nextToken_L168 C hR _ _ H locs ls h hp (lv_sub hl [1] rfl)
      · refine lv_aload_n C.1 C.2.1 dX9_nextToken_75 rfl (lv_at hl 1 rfl) ?_
        refine r_iconst C dX9_nextToken_76 ?_
        refine r_puti C hp h mk_0 ms_0 mc_0 min_0 tyX9 tyX9_ok nmX9 (j := 9) (by decide) rfl gw_1265 rfl rfl rfl dX9_nextToken_77 (fun M46 H locs h hp => ?_)
        refine lv_aload_n C.1 C.2.1 dX9_nextToken_80 rfl (lv_at hl 1 rfl) ?_
        refine r_iconst C dX9_nextToken_81 ?_
        refine r_puti C hp h mk_0 ms_0 mc_0 min_0 tyX9 tyX9_ok nmX9 (j := 10) (by decide) rfl gw_1266 rfl rfl rfl dX9_nextToken_82 (fun M47 H locs h hp => ?_)
        refine w_X9_nextToken_L85 C hR _ _ H locs ls h hp (lv_sub hl [1] rfl)
    · refine lv_aload_n C.1 C.2.1 dX9_nextToken_60 rfl (lv_at hl 1 rfl) ?_
      refine r_iconst C dX9_nextToken_61 ?_
      refine r_puti C hp h mk_0 ms_0 mc_0 min_0 tyX9 tyX9_ok nmX9 (j := 9) (by decide) rfl gw_1265 rfl rfl rfl dX9_nextToken_62 (fun M56 H locs h hp => ?_)
      refine r_goto (tgt := 310) C dX9_nextToken_65 (by decide) ?_
      cases h
      exact hR _ _ _ _ dX9_nextToken_310 hp
theorem c_X9_nextToken (l : Launch) {V : g_V} (hok : g_ok mG V)  {M : g_M} {res : g_M} (h : m_X9_nextToken M = some res) : MetV mG V l yX9_nextToken cX9_nextToken 2 none 1 21 [.ref (V.2.2 0)] M res :=
  g_metV hok cal_X9_nextToken.2.2.2 rfl (Nat.le_of_ble_eq_true rfl) (@fun p e R s m args below meth c Q ls C hR hp hl => b_X9_nextToken C hR h hp hl)
set_option maxRecDepth 100000 in
set_option maxHeartbeats 4000000 in
theorem b_X9_w2 (C : g_CX mG V p R s m args meth c cX9_w2 2 (some .long) RX9 0 0) {res : Int} {M : g_M} (hR : g_RetL mG V p l e R s m args below meth c Q cX9_w2 res M) {a1 : Int} {a2 : Int} {H : Heap} {locs : List Loc} {ls : Array Slot} (h : m_X9_w2 a1 a2 = some res) (hp : g_PT mG V M s H locs) (hl : lv_has ls 2 [(0, .int (gI a1)), (1, .int (gI a2))]) : W p l e R s m args below meth c H locs 0 0 Q (F0 m 0 ls []) := by
  unfold m_X9_w2 at h
  refine lv_iload_n C.1 C.2.1 dX9_w2_0 rfl (lv_at hl 0 rfl) ?_
  refine r_i2l C dX9_w2_1 ?_
  refine r_bipush C dX9_w2_2 (by decide +kernel) ?_
  refine r_lshl C dX9_w2_4 ?_
  refine lv_iload_n C.1 C.2.1 dX9_w2_5 rfl (lv_at hl 1 rfl) ?_
  refine r_i2l C dX9_w2_6 ?_
  refine r_lor C dX9_w2_7 ?_
  cases h
  exact hR _ _ _ _ dX9_w2_8 hp
theorem c_X9_w2 (l : Launch) {V : g_V} (hok : g_ok mG V) {a1 : Int} {a2 : Int} {M : g_M} {x : Int} (h : m_X9_w2 a1 a2 = some x) : MetL mG V l yX9_w2 cX9_w2 2 (some .long) 0 0 [.int (gI a1), .int (gI a2)] M x M :=
  g_metL hok cal_X9_w2.2.2.2 rfl (Nat.le_of_ble_eq_true rfl) (@fun p e R s m args below meth c Q ls C hR hp hl => b_X9_w2 C hR h hp hl)
set_option maxRecDepth 100000 in
set_option maxHeartbeats 4000000 in
theorem b_X9_w3 (C : g_CX mG V p R s m args meth c cX9_w3 3 (some .long) RX9 1 21) {res : Int} {M : g_M} (hR : g_RetL mG V p l e R s m args below meth c Q cX9_w3 res M) {a1 : Int} {a2 : Int} {a3 : Int} {H : Heap} {locs : List Loc} {ls : Array Slot} (h : m_X9_w3 a1 a2 a3 = some res) (hp : g_PT mG V M s H locs) (hl : lv_has ls 3 [(0, .int (gI a1)), (1, .int (gI a2)), (2, .int (gI a3))]) : W p l e R s m args below meth c H locs 0 0 Q (F0 m 0 ls []) := by
  unfold m_X9_w3 at h
  refine lv_iload_n C.1 C.2.1 dX9_w3_0 rfl (lv_at hl 0 rfl) ?_
  refine lv_iload_n C.1 C.2.1 dX9_w3_1 rfl (lv_at hl 1 rfl) ?_
  obtain ⟨x11, hr, h⟩ := bd_of h
  refine r_callSL (As := [.int (gI a1), .int (gI a2)]) (rest := []) C hl.1 hp (c_X9_w2 l C.2.2.2.2.2.2.2.2.2.2.2 hr) gw_1460 gw_1461 cal_X9_w2 rfl rfl (Nat.le_of_ble_eq_true rfl) ⟨Nat.le_of_ble_eq_true rfl, Nat.le_of_ble_eq_true rfl⟩ dX9_w3_2 (fun H locs hp => ?_)
  refine r_bipush C dX9_w3_5 (by decide +kernel) ?_
  refine r_lshl C dX9_w3_7 ?_
  refine lv_iload_n C.1 C.2.1 dX9_w3_8 rfl (lv_at hl 2 rfl) ?_
  refine r_i2l C dX9_w3_9 ?_
  refine r_lor C dX9_w3_10 ?_
  cases h
  exact hR _ _ _ _ dX9_w3_11 hp
theorem c_X9_w3 (l : Launch) {V : g_V} (hok : g_ok mG V) {a1 : Int} {a2 : Int} {a3 : Int} {M : g_M} {x : Int} (h : m_X9_w3 a1 a2 a3 = some x) : MetL mG V l yX9_w3 cX9_w3 3 (some .long) 1 21 [.int (gI a1), .int (gI a2), .int (gI a3)] M x M :=
  g_metL hok cal_X9_w3.2.2.2 rfl (Nat.le_of_ble_eq_true rfl) (@fun p e R s m args below meth c Q ls C hR hp hl => b_X9_w3 C hR h hp hl)
set_option maxRecDepth 100000 in
set_option maxHeartbeats 4000000 in
theorem b_X9_w4 (C : g_CX mG V p R s m args meth c cX9_w4 4 (some .long) RX9 2 43) {res : Int} {M : g_M} (hR : g_RetL mG V p l e R s m args below meth c Q cX9_w4 res M) {a1 : Int} {a2 : Int} {a3 : Int} {a4 : Int} {H : Heap} {locs : List Loc} {ls : Array Slot} (h : m_X9_w4 a1 a2 a3 a4 = some res) (hp : g_PT mG V M s H locs) (hl : lv_has ls 4 [(0, .int (gI a1)), (1, .int (gI a2)), (2, .int (gI a3)), (3, .int (gI a4))]) : W p l e R s m args below meth c H locs 0 0 Q (F0 m 0 ls []) := by
  unfold m_X9_w4 at h
  refine lv_iload_n C.1 C.2.1 dX9_w4_0 rfl (lv_at hl 0 rfl) ?_
  refine lv_iload_n C.1 C.2.1 dX9_w4_1 rfl (lv_at hl 1 rfl) ?_
  refine lv_iload_n C.1 C.2.1 dX9_w4_2 rfl (lv_at hl 2 rfl) ?_
  obtain ⟨x11, hr, h⟩ := bd_of h
  refine r_callSL (As := [.int (gI a1), .int (gI a2), .int (gI a3)]) (rest := []) C hl.1 hp (c_X9_w3 l C.2.2.2.2.2.2.2.2.2.2.2 hr) gw_1457 gw_1458 cal_X9_w3 rfl rfl (Nat.le_of_ble_eq_true rfl) ⟨Nat.le_of_ble_eq_true rfl, Nat.le_of_ble_eq_true rfl⟩ dX9_w4_3 (fun H locs hp => ?_)
  refine r_bipush C dX9_w4_6 (by decide +kernel) ?_
  refine r_lshl C dX9_w4_8 ?_
  refine lv_iload_n C.1 C.2.1 dX9_w4_9 rfl (lv_at hl 3 rfl) ?_
  refine r_i2l C dX9_w4_10 ?_
  refine r_lor C dX9_w4_11 ?_
  cases h
  exact hR _ _ _ _ dX9_w4_12 hp
theorem c_X9_w4 (l : Launch) {V : g_V} (hok : g_ok mG V) {a1 : Int} {a2 : Int} {a3 : Int} {a4 : Int} {M : g_M} {x : Int} (h : m_X9_w4 a1 a2 a3 a4 = some x) : MetL mG V l yX9_w4 cX9_w4 4 (some .long) 2 43 [.int (gI a1), .int (gI a2), .int (gI a3), .int (gI a4)] M x M :=
  g_metL hok cal_X9_w4.2.2.2 rfl (Nat.le_of_ble_eq_true rfl) (@fun p e R s m args below meth c Q ls C hR hp hl => b_X9_w4 C hR h hp hl)
set_option maxRecDepth 100000 in
set_option maxHeartbeats 4000000 in
theorem b_X9_w5 (C : g_CX mG V p R s m args meth c cX9_w5 5 (some .long) RX9 3 66) {res : Int} {M : g_M} (hR : g_RetL mG V p l e R s m args below meth c Q cX9_w5 res M) {a1 : Int} {a2 : Int} {a3 : Int} {a4 : Int} {a5 : Int} {H : Heap} {locs : List Loc} {ls : Array Slot} (h : m_X9_w5 a1 a2 a3 a4 a5 = some res) (hp : g_PT mG V M s H locs) (hl : lv_has ls 5 [(0, .int (gI a1)), (1, .int (gI a2)), (2, .int (gI a3)), (3, .int (gI a4)), (4, .int (gI a5))]) : W p l e R s m args below meth c H locs 0 0 Q (F0 m 0 ls []) := by
  unfold m_X9_w5 at h
  refine lv_iload_n C.1 C.2.1 dX9_w5_0 rfl (lv_at hl 0 rfl) ?_
  refine lv_iload_n C.1 C.2.1 dX9_w5_1 rfl (lv_at hl 1 rfl) ?_
  refine lv_iload_n C.1 C.2.1 dX9_w5_2 rfl (lv_at hl 2 rfl) ?_
  refine lv_iload_n C.1 C.2.1 dX9_w5_3 rfl (lv_at hl 3 rfl) ?_
  obtain ⟨x11, hr, h⟩ := bd_of h
  refine r_callSL (As := [.int (gI a1), .int (gI a2), .int (gI a3), .int (gI a4)]) (rest := []) C hl.1 hp (c_X9_w4 l C.2.2.2.2.2.2.2.2.2.2.2 hr) gw_1454 gw_1455 cal_X9_w4 rfl rfl (Nat.le_of_ble_eq_true rfl) ⟨Nat.le_of_ble_eq_true rfl, Nat.le_of_ble_eq_true rfl⟩ dX9_w5_4 (fun H locs hp => ?_)
  refine r_bipush C dX9_w5_7 (by decide +kernel) ?_
  refine r_lshl C dX9_w5_9 ?_
  refine lv_iload C.1 C.2.1 dX9_w5_10 (lv_at hl 4 rfl) ?_
  refine r_i2l C dX9_w5_12 ?_
  refine r_lor C dX9_w5_13 ?_
  cases h
  exact hR _ _ _ _ dX9_w5_14 hp
theorem c_X9_w5 (l : Launch) {V : g_V} (hok : g_ok mG V) {a1 : Int} {a2 : Int} {a3 : Int} {a4 : Int} {a5 : Int} {M : g_M} {x : Int} (h : m_X9_w5 a1 a2 a3 a4 a5 = some x) : MetL mG V l yX9_w5 cX9_w5 5 (some .long) 3 66 [.int (gI a1), .int (gI a2), .int (gI a3), .int (gI a4), .int (gI a5)] M x M :=
  g_metL hok cal_X9_w5.2.2.2 rfl (Nat.le_of_ble_eq_true rfl) (@fun p e R s m args below meth c Q ls C hR hp hl => b_X9_w5 C hR h hp hl)
set_option maxRecDepth 100000 in
set_option maxHeartbeats 4000000 in
theorem b_X9_w6 (C : g_CX mG V p R s m args meth c cX9_w6 6 (some .long) RX9 4 90) {res : Int} {M : g_M} (hR : g_RetL mG V p l e R s m args below meth c Q cX9_w6 res M) {a1 : Int} {a2 : Int} {a3 : Int} {a4 : Int} {a5 : Int} {a6 : Int} {H : Heap} {locs : List Loc} {ls : Array Slot} (h : m_X9_w6 a1 a2 a3 a4 a5 a6 = some res) (hp : g_PT mG V M s H locs) (hl : lv_has ls 6 [(0, .int (gI a1)), (1, .int (gI a2)), (2, .int (gI a3)), (3, .int (gI a4)), (4, .int (gI a5)), (5, .int (gI a6))]) : W p l e R s m args below meth c H locs 0 0 Q (F0 m 0 ls []) := by
  unfold m_X9_w6 at h
  refine lv_iload_n C.1 C.2.1 dX9_w6_0 rfl (lv_at hl 0 rfl) ?_
  refine lv_iload_n C.1 C.2.1 dX9_w6_1 rfl (lv_at hl 1 rfl) ?_
  refine lv_iload_n C.1 C.2.1 dX9_w6_2 rfl (lv_at hl 2 rfl) ?_
  refine lv_iload_n C.1 C.2.1 dX9_w6_3 rfl (lv_at hl 3 rfl) ?_
  refine lv_iload C.1 C.2.1 dX9_w6_4 (lv_at hl 4 rfl) ?_
  obtain ⟨x11, hr, h⟩ := bd_of h
  refine r_callSL (As := [.int (gI a1), .int (gI a2), .int (gI a3), .int (gI a4), .int (gI a5)]) (rest := []) C hl.1 hp (c_X9_w5 l C.2.2.2.2.2.2.2.2.2.2.2 hr) gw_1467 gw_1468 cal_X9_w5 rfl rfl (Nat.le_of_ble_eq_true rfl) ⟨Nat.le_of_ble_eq_true rfl, Nat.le_of_ble_eq_true rfl⟩ dX9_w6_6 (fun H locs hp => ?_)
  refine r_bipush C dX9_w6_9 (by decide +kernel) ?_
  refine r_lshl C dX9_w6_11 ?_
  refine lv_iload C.1 C.2.1 dX9_w6_12 (lv_at hl 5 rfl) ?_
  refine r_i2l C dX9_w6_14 ?_
  refine r_lor C dX9_w6_15 ?_
  cases h
  exact hR _ _ _ _ dX9_w6_16 hp
theorem c_X9_w6 (l : Launch) {V : g_V} (hok : g_ok mG V) {a1 : Int} {a2 : Int} {a3 : Int} {a4 : Int} {a5 : Int} {a6 : Int} {M : g_M} {x : Int} (h : m_X9_w6 a1 a2 a3 a4 a5 a6 = some x) : MetL mG V l yX9_w6 cX9_w6 6 (some .long) 4 90 [.int (gI a1), .int (gI a2), .int (gI a3), .int (gI a4), .int (gI a5), .int (gI a6)] M x M :=
  g_metL hok cal_X9_w6.2.2.2 rfl (Nat.le_of_ble_eq_true rfl) (@fun p e R s m args below meth c Q ls C hR hp hl => b_X9_w6 C hR h hp hl)
set_option maxRecDepth 100000 in
set_option maxHeartbeats 4000000 in
theorem b_X9_isWord (C : g_CX mG V p R s m args meth c cX9_isWord 3 (some .boolean) RX9 0 0) {res : Int} {M : g_M} (hR : g_RetI mG V p l e R s m args below meth c Q cX9_isWord .boolean res M) {a1 : Int} {H : Heap} {locs : List Loc} {ls : Array Slot} (h : m_X9_isWord a1 M = some res) (hp : g_PT mG V M s H locs) (hl : lv_has ls 3 [(0, .ref (V.2.2 0)), (1, .long (gJ a1))]) : W p l e R s m args below meth c H locs 0 0 Q (F0 m 0 ls []) := by
  unfold m_X9_isWord at h
  refine r_jn (P := fun J => ∀  (H : Heap) (locs : List Loc) (ls : Array Slot), J  = some res → g_PT mG V M s H locs → lv_has ls 3 [] → W p l e R s m args below meth c H locs 0 0 Q (F0 m 21 ls [])) h ?_ (fun J11 hJ11 h => ?_)
  · intro  H locs ls h hp hl
    refine r_iconst C dX9_isWord_21 ?_
    cases h
    exact hR _ _ _ _ dX9_isWord_22 g_nz0 hp
  refine lv_aload_n C.1 C.2.1 dX9_isWord_0 rfl (lv_at hl 0 rfl) ?_
  refine r_geti (t := 0) C hp mk_0 ms_0 mc_0 min_0 (j := 9) (by decide) rfl gw_1265 rfl dX9_isWord_1 ?_
  refine r_iconst C dX9_isWord_4 ?_
  refine r_icmp_ne (tgt := 21) C h dX9_isWord_5 (by decide) (fun h => ?_) (fun h => ?_)
  · exact hJ11  _ _ _ h hp (lv_sub hl [] rfl)
  · refine lv_aload_n C.1 C.2.1 dX9_isWord_8 rfl (lv_at hl 0 rfl) ?_
    refine r_getl (t := 0) C hp mk_0 ms_0 mc_0 min_0 (j := 11) (by decide) rfl gw_1267 rfl dX9_isWord_9 ?_
    refine lv_lload_n C.1 C.2.1 dX9_isWord_12 rfl (lv_at hl 1 rfl) ?_
    refine r_lcmp C dX9_isWord_13 ?_
    refine r_if_ne (tgt := 21) C h dX9_isWord_14 (by decide) (fun h => ?_) (fun h => ?_)
    · exact hJ11  _ _ _ h hp (lv_sub hl [] rfl)
    · refine r_iconst C dX9_isWord_17 ?_
      refine r_goto (tgt := 22) C dX9_isWord_18 (by decide) ?_
      cases h
      exact hR _ _ _ _ dX9_isWord_22 g_nz1 hp
theorem c_X9_isWord (l : Launch) {V : g_V} (hok : g_ok mG V) {a1 : Int} {M : g_M} {x : Int} (h : m_X9_isWord a1 M = some x) : MetI mG V l yX9_isWord cX9_isWord 3 (some .boolean) 0 0 [.ref (V.2.2 0), .long (gJ a1)] M x M :=
  g_metI hok cal_X9_isWord.2.2.2 rfl (Nat.le_of_ble_eq_true rfl) (@fun p e R s m args below meth c Q ls C hR hp hl => b_X9_isWord C hR h hp hl)
set_option maxRecDepth 100000 in
set_option maxHeartbeats 4000000 in
theorem b_X9_emit (C : g_CX mG V p R s m args meth c cX9_emit 3 none RX9 0 0) {res : g_M} (hR : g_RetV mG V p l e R s m args below meth c Q cX9_emit res) {a1 : Int} {a2 : Int} {M : g_M} {H : Heap} {locs : List Loc} {ls : Array Slot} (h : m_X9_emit a1 a2 M = some res) (hp : g_PT mG V M s H locs) (hl : lv_has ls 3 [(0, .ref (V.2.2 0)), (1, .int (gI a1)), (2, .int (gI a2))]) : W p l e R s m args below meth c H locs 0 0 Q (F0 m 0 ls []) := by
  unfold m_X9_emit at h
  refine lv_aload_n C.1 C.2.1 dX9_emit_0 rfl (lv_at hl 0 rfl) ?_
  refine r_getr (t := 3) C hp mk_0 ms_0 mc_0 min_0 (j := 2) (by decide) rfl gw_1258 rfl dX9_emit_1 ?_
  refine lv_aload_n C.1 C.2.1 dX9_emit_4 rfl (lv_at hl 0 rfl) ?_
  refine r_geti (t := 0) C hp mk_0 ms_0 mc_0 min_0 (j := 12) (by decide) rfl gw_1268 rfl dX9_emit_5 ?_
  refine r_bipush C dX9_emit_8 (by decide +kernel) ?_
  refine r_iadd C dX9_emit_10 ?_
  refine r_iconst C dX9_emit_11 ?_
  refine lv_aload_n C.1 C.2.1 dX9_emit_12 rfl (lv_at hl 0 rfl) ?_
  refine r_geti (t := 0) C hp mk_0 ms_0 mc_0 min_0 (j := 13) (by decide) rfl gw_1269 rfl dX9_emit_13 ?_
  refine r_imul C dX9_emit_16 ?_
  refine r_iadd C dX9_emit_17 ?_
  refine lv_iload_n C.1 C.2.1 dX9_emit_18 rfl (lv_at hl 1 rfl) ?_
  refine r_iast C hp h mk_3 ms_3 dX9_emit_19 (fun M11 H locs h hp => ?_)
  refine lv_aload_n C.1 C.2.1 dX9_emit_20 rfl (lv_at hl 0 rfl) ?_
  refine r_getr (t := 3) C hp mk_0 ms_0 mc_0 min_0 (j := 2) (by decide) rfl gw_1258 rfl dX9_emit_21 ?_
  refine lv_aload_n C.1 C.2.1 dX9_emit_24 rfl (lv_at hl 0 rfl) ?_
  refine r_geti (t := 0) C hp mk_0 ms_0 mc_0 min_0 (j := 12) (by decide) rfl gw_1268 rfl dX9_emit_25 ?_
  refine r_bipush C dX9_emit_28 (by decide +kernel) ?_
  refine r_iadd C dX9_emit_30 ?_
  refine r_iconst C dX9_emit_31 ?_
  refine lv_aload_n C.1 C.2.1 dX9_emit_32 rfl (lv_at hl 0 rfl) ?_
  refine r_geti (t := 0) C hp mk_0 ms_0 mc_0 min_0 (j := 13) (by decide) rfl gw_1269 rfl dX9_emit_33 ?_
  refine r_imul C dX9_emit_36 ?_
  refine r_iadd C dX9_emit_37 ?_
  refine r_iconst C dX9_emit_38 ?_
  refine r_iadd C dX9_emit_39 ?_
  refine lv_iload_n C.1 C.2.1 dX9_emit_40 rfl (lv_at hl 2 rfl) ?_
  refine r_iast C hp h mk_3 ms_3 dX9_emit_41 (fun M12 H locs h hp => ?_)
  refine lv_aload_n C.1 C.2.1 dX9_emit_42 rfl (lv_at hl 0 rfl) ?_
  refine lv_dup C.1 C.2.1 dX9_emit_43 rfl ?_
  refine r_geti (t := 0) C hp mk_0 ms_0 mc_0 min_0 (j := 13) (by decide) rfl gw_1269 rfl dX9_emit_44 ?_
  refine r_iconst C dX9_emit_47 ?_
  refine r_iadd C dX9_emit_48 ?_
  refine r_puti C hp h mk_0 ms_0 mc_0 min_0 tyX9 tyX9_ok nmX9 (j := 13) (by decide) rfl gw_1269 rfl rfl rfl dX9_emit_49 (fun M13 H locs h hp => ?_)
  cases h
  exact hR _ _ _ _ dX9_emit_52 hp
theorem c_X9_emit (l : Launch) {V : g_V} (hok : g_ok mG V) {a1 : Int} {a2 : Int} {M : g_M} {res : g_M} (h : m_X9_emit a1 a2 M = some res) : MetV mG V l yX9_emit cX9_emit 3 none 0 0 [.ref (V.2.2 0), .int (gI a1), .int (gI a2)] M res :=
  g_metV hok cal_X9_emit.2.2.2 rfl (Nat.le_of_ble_eq_true rfl) (@fun p e R s m args below meth c Q ls C hR hp hl => b_X9_emit C hR h hp hl)
end
