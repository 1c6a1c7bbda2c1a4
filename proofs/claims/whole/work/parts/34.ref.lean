theorem dX9_show_0 : decode cX9_show 0 = .ok (.aload_n 0, 1) := by decide +kernel
theorem dX9_show_1 : decode cX9_show 1 = .ok (.iload_n 1, 1) := by decide +kernel
theorem dX9_show_2 : decode cX9_show 2 = .ok (.aload_n 0, 1) := by decide +kernel
theorem dX9_show_3 : decode cX9_show 3 = .ok (.getfield 7, 3) := by decide +kernel
theorem dX9_show_6 : decode cX9_show 6 = .ok (.bipush 7, 2) := by decide +kernel
theorem dX9_show_8 : decode cX9_show 8 = .ok (.iaload, 1) := by decide +kernel
theorem dX9_show_9 : decode cX9_show 9 = .ok (.bipush 10, 2) := by decide +kernel
theorem dX9_show_11 : decode cX9_show 11 = .ok (.irem, 1) := by decide +kernel
theorem dX9_show_12 : decode cX9_show 12 = .ok (.invokevirtual 337, 3) := by decide +kernel
theorem dX9_show_15 : decode cX9_show 15 = .ok (.istore_n 2, 1) := by decide +kernel
theorem dX9_show_16 : decode cX9_show 16 = .ok (.aload_n 0, 1) := by decide +kernel
theorem dX9_show_17 : decode cX9_show 17 = .ok (.invokevirtual 340, 3) := by decide +kernel
theorem dX9_show_20 : decode cX9_show 20 = .ok (.aload_n 0, 1) := by decide +kernel
theorem dX9_show_21 : decode cX9_show 21 = .ok (.getfield 7, 3) := by decide +kernel
theorem dX9_show_24 : decode cX9_show 24 = .ok (.bipush 10, 2) := by decide +kernel
theorem dX9_show_26 : decode cX9_show 26 = .ok (.iload_n 1, 1) := by decide +kernel
theorem dX9_show_27 : decode cX9_show 27 = .ok (.iadd, 1) := by decide +kernel
theorem dX9_show_28 : decode cX9_show 28 = .ok (.aload_n 0, 1) := by decide +kernel
theorem dX9_show_29 : decode cX9_show 29 = .ok (.getfield 7, 3) := by decide +kernel
theorem dX9_show_32 : decode cX9_show 32 = .ok (.bipush 10, 2) := by decide +kernel
theorem dX9_show_34 : decode cX9_show 34 = .ok (.iload_n 1, 1) := by decide +kernel
theorem dX9_show_35 : decode cX9_show 35 = .ok (.iadd, 1) := by decide +kernel
theorem dX9_show_36 : decode cX9_show 36 = .ok (.iaload, 1) := by decide +kernel
theorem dX9_show_37 : decode cX9_show 37 = .ok (.iconst 1, 1) := by decide +kernel
theorem dX9_show_38 : decode cX9_show 38 = .ok (.iadd, 1) := by decide +kernel
theorem dX9_show_39 : decode cX9_show 39 = .ok (.i2l, 1) := by decide +kernel
theorem dX9_show_40 : decode cX9_show 40 = .ok (.iconst 0, 1) := by decide +kernel
theorem dX9_show_41 : decode cX9_show 41 = .ok (.sipush 9999, 3) := by decide +kernel
theorem dX9_show_44 : decode cX9_show 44 = .ok (.invokestatic 311, 3) := by decide +kernel
theorem dX9_show_47 : decode cX9_show 47 = .ok (.iastore, 1) := by decide +kernel
theorem dX9_show_48 : decode cX9_show 48 = .ok (.aload_n 0, 1) := by decide +kernel
theorem dX9_show_49 : decode cX9_show 49 = .ok (.iload_n 1, 1) := by decide +kernel
theorem dX9_show_50 : decode cX9_show 50 = .ok (.iload_n 2, 1) := by decide +kernel
theorem dX9_show_51 : decode cX9_show 51 = .ok (.invokevirtual 343, 3) := by decide +kernel
theorem dX9_show_54 : decode cX9_show 54 = .ok (.istore_n 3, 1) := by decide +kernel
theorem dX9_show_55 : decode cX9_show 55 = .ok (.iload_n 2, 1) := by decide +kernel
theorem dX9_show_56 : decode cX9_show 56 = .ok (.ifCond .eq 26, 3) := by decide +kernel
theorem dX9_show_59 : decode cX9_show 59 = .ok (.aload_n 0, 1) := by decide +kernel
theorem dX9_show_60 : decode cX9_show 60 = .ok (.iload_n 1, 1) := by decide +kernel
theorem dX9_show_61 : decode cX9_show 61 = .ok (.iload_n 2, 1) := by decide +kernel
theorem dX9_show_62 : decode cX9_show 62 = .ok (.iload_n 3, 1) := by decide +kernel
theorem dX9_show_63 : decode cX9_show 63 = .ok (.invokevirtual 346, 3) := by decide +kernel
theorem dX9_show_66 : decode cX9_show 66 = .ok (.ifCond .eq 16, 3) := by decide +kernel
theorem dX9_show_69 : decode cX9_show 69 = .ok (.aload_n 0, 1) := by decide +kernel
theorem dX9_show_70 : decode cX9_show 70 = .ok (.getfield 7, 3) := by decide +kernel
theorem dX9_show_73 : decode cX9_show 73 = .ok (.bipush 22, 2) := by decide +kernel
theorem dX9_show_75 : decode cX9_show 75 = .ok (.iload_n 1, 1) := by decide +kernel
theorem dX9_show_76 : decode cX9_show 76 = .ok (.iadd, 1) := by decide +kernel
theorem dX9_show_77 : decode cX9_show 77 = .ok (.iaload, 1) := by decide +kernel
theorem dX9_show_78 : decode cX9_show 78 = .ok (.iload_n 3, 1) := by decide +kernel
theorem dX9_show_79 : decode cX9_show 79 = .ok (.if_icmp .ne 5, 3) := by decide +kernel
theorem dX9_show_82 : decode cX9_show 82 = .ok (.iload_n 3, 1) := by decide +kernel
theorem dX9_show_83 : decode cX9_show 83 = .ok (.ireturn, 1) := by decide +kernel
theorem dX9_show_84 : decode cX9_show 84 = .ok (.aload_n 0, 1) := by decide +kernel
theorem dX9_show_85 : decode cX9_show 85 = .ok (.getfield 7, 3) := by decide +kernel
theorem dX9_show_88 : decode cX9_show 88 = .ok (.bipush 22, 2) := by decide +kernel
theorem dX9_show_90 : decode cX9_show 90 = .ok (.iload_n 1, 1) := by decide +kernel
theorem dX9_show_91 : decode cX9_show 91 = .ok (.iadd, 1) := by decide +kernel
theorem dX9_show_92 : decode cX9_show 92 = .ok (.iload_n 3, 1) := by decide +kernel
theorem dX9_show_93 : decode cX9_show 93 = .ok (.iastore, 1) := by decide +kernel
theorem dX9_show_94 : decode cX9_show 94 = .ok (.aload_n 0, 1) := by decide +kernel
theorem dX9_show_95 : decode cX9_show 95 = .ok (.dup, 1) := by decide +kernel
theorem dX9_show_96 : decode cX9_show 96 = .ok (.getfield 349, 3) := by decide +kernel
theorem dX9_show_99 : decode cX9_show 99 = .ok (.iconst 1, 1) := by decide +kernel
theorem dX9_show_100 : decode cX9_show 100 = .ok (.iadd, 1) := by decide +kernel
theorem dX9_show_101 : decode cX9_show 101 = .ok (.putfield 349, 3) := by decide +kernel
theorem dX9_show_104 : decode cX9_show 104 = .ok (.iload_n 3, 1) := by decide +kernel
theorem dX9_show_105 : decode cX9_show 105 = .ok (.ireturn, 1) := by decide +kernel
theorem dX9_gladden_0 : decode cX9_gladden 0 = .ok (.aload_n 0, 1) := by decide +kernel
theorem dX9_gladden_1 : decode cX9_gladden 1 = .ok (.getfield 7, 3) := by decide +kernel
theorem dX9_gladden_4 : decode cX9_gladden 4 = .ok (.bipush 8, 2) := by decide +kernel
theorem dX9_gladden_6 : decode cX9_gladden 6 = .ok (.aload_n 0, 1) := by decide +kernel
theorem dX9_gladden_7 : decode cX9_gladden 7 = .ok (.getfield 7, 3) := by decide +kernel
theorem dX9_gladden_10 : decode cX9_gladden 10 = .ok (.bipush 8, 2) := by decide +kernel
theorem dX9_gladden_12 : decode cX9_gladden 12 = .ok (.iaload, 1) := by decide +kernel
theorem dX9_gladden_13 : decode cX9_gladden 13 = .ok (.iconst 1, 1) := by decide +kernel
theorem dX9_gladden_14 : decode cX9_gladden 14 = .ok (.iadd, 1) := by decide +kernel
theorem dX9_gladden_15 : decode cX9_gladden 15 = .ok (.i2l, 1) := by decide +kernel
theorem dX9_gladden_16 : decode cX9_gladden 16 = .ok (.iconst 0, 1) := by decide +kernel
theorem dX9_gladden_17 : decode cX9_gladden 17 = .ok (.sipush 9999, 3) := by decide +kernel
theorem dX9_gladden_20 : decode cX9_gladden 20 = .ok (.invokestatic 311, 3) := by decide +kernel
theorem dX9_gladden_23 : decode cX9_gladden 23 = .ok (.iastore, 1) := by decide +kernel
theorem dX9_gladden_24 : decode cX9_gladden 24 = .ok (.iconst 0, 1) := by decide +kernel
theorem dX9_gladden_25 : decode cX9_gladden 25 = .ok (.istore_n 2, 1) := by decide +kernel
theorem dX9_gladden_26 : decode cX9_gladden 26 = .ok (.iload_n 2, 1) := by decide +kernel
theorem dX9_gladden_27 : decode cX9_gladden 27 = .ok (.aload_n 0, 1) := by decide +kernel
theorem dX9_gladden_28 : decode cX9_gladden 28 = .ok (.getfield 7, 3) := by decide +kernel
theorem dX9_gladden_31 : decode cX9_gladden 31 = .ok (.iconst 0, 1) := by decide +kernel
theorem dX9_gladden_32 : decode cX9_gladden 32 = .ok (.iaload, 1) := by decide +kernel
theorem dX9_gladden_33 : decode cX9_gladden 33 = .ok (.if_icmp .ge 49, 3) := by decide +kernel
theorem dX9_gladden_36 : decode cX9_gladden 36 = .ok (.aload_n 0, 1) := by decide +kernel
theorem dX9_gladden_37 : decode cX9_gladden 37 = .ok (.iload_n 2, 1) := by decide +kernel
theorem dX9_gladden_38 : decode cX9_gladden 38 = .ok (.invokevirtual 86, 3) := by decide +kernel
theorem dX9_gladden_41 : decode cX9_gladden 41 = .ok (.ifCond .eq 35, 3) := by decide +kernel
theorem dX9_gladden_44 : decode cX9_gladden 44 = .ok (.aload_n 0, 1) := by decide +kernel
theorem dX9_gladden_45 : decode cX9_gladden 45 = .ok (.iload_n 2, 1) := by decide +kernel
theorem dX9_gladden_46 : decode cX9_gladden 46 = .ok (.iconst 1, 1) := by decide +kernel
theorem dX9_gladden_47 : decode cX9_gladden 47 = .ok (.aload_n 0, 1) := by decide +kernel
theorem dX9_gladden_48 : decode cX9_gladden 48 = .ok (.iload_n 2, 1) := by decide +kernel
theorem dX9_gladden_49 : decode cX9_gladden 49 = .ok (.iconst 1, 1) := by decide +kernel
theorem dX9_gladden_50 : decode cX9_gladden 50 = .ok (.invokevirtual 82, 3) := by decide +kernel
theorem dX9_gladden_53 : decode cX9_gladden 53 = .ok (.aload_n 0, 1) := by decide +kernel
theorem dX9_gladden_54 : decode cX9_gladden 54 = .ok (.aload_n 0, 1) := by decide +kernel
theorem dX9_gladden_55 : decode cX9_gladden 55 = .ok (.getfield 7, 3) := by decide +kernel
theorem dX9_gladden_58 : decode cX9_gladden 58 = .ok (.iconst 2, 1) := by decide +kernel
theorem dX9_gladden_59 : decode cX9_gladden 59 = .ok (.iaload, 1) := by decide +kernel
theorem dX9_gladden_60 : decode cX9_gladden 60 = .ok (.iload_n 2, 1) := by decide +kernel
theorem dX9_gladden_61 : decode cX9_gladden 61 = .ok (.iload_n 1, 1) := by decide +kernel
theorem dX9_gladden_62 : decode cX9_gladden 62 = .ok (.invokevirtual 352, 3) := by decide +kernel
theorem dX9_gladden_65 : decode cX9_gladden 65 = .ok (.iadd, 1) := by decide +kernel
theorem dX9_gladden_66 : decode cX9_gladden 66 = .ok (.i2l, 1) := by decide +kernel
theorem dX9_gladden_67 : decode cX9_gladden 67 = .ok (.iconst 0, 1) := by decide +kernel
theorem dX9_gladden_68 : decode cX9_gladden 68 = .ok (.bipush 99, 2) := by decide +kernel
theorem dX9_gladden_70 : decode cX9_gladden 70 = .ok (.invokestatic 311, 3) := by decide +kernel
theorem dX9_gladden_73 : decode cX9_gladden 73 = .ok (.invokevirtual 96, 3) := by decide +kernel
theorem dX9_gladden_76 : decode cX9_gladden 76 = .ok (.iinc 2 1, 3) := by decide +kernel
theorem dX9_gladden_79 : decode cX9_gladden 79 = .ok (.goto (-53), 3) := by decide +kernel
theorem dX9_gladden_82 : decode cX9_gladden 82 = .ok (.aload_n 0, 1) := by decide +kernel
theorem dX9_gladden_83 : decode cX9_gladden 83 = .ok (.dup, 1) := by decide +kernel
theorem dX9_gladden_84 : decode cX9_gladden 84 = .ok (.getfield 355, 3) := by decide +kernel
theorem dX9_gladden_87 : decode cX9_gladden 87 = .ok (.iconst 1, 1) := by decide +kernel
theorem dX9_gladden_88 : decode cX9_gladden 88 = .ok (.iadd, 1) := by decide +kernel
theorem dX9_gladden_89 : decode cX9_gladden 89 = .ok (.putfield 355, 3) := by decide +kernel
theorem dX9_gladden_92 : decode cX9_gladden 92 = .ok (.return_, 1) := by decide +kernel
theorem dX9_pass_0 : decode cX9_pass 0 = .ok (.aload_n 0, 1) := by decide +kernel
theorem dX9_pass_1 : decode cX9_pass 1 = .ok (.getfield 349, 3) := by decide +kernel
theorem dX9_pass_4 : decode cX9_pass 4 = .ok (.istore_n 1, 1) := by decide +kernel
theorem dX9_pass_5 : decode cX9_pass 5 = .ok (.iconst 0, 1) := by decide +kernel
theorem dX9_pass_6 : decode cX9_pass 6 = .ok (.istore_n 2, 1) := by decide +kernel
theorem dX9_pass_7 : decode cX9_pass 7 = .ok (.iconst 0, 1) := by decide +kernel
theorem dX9_pass_8 : decode cX9_pass 8 = .ok (.istore_n 3, 1) := by decide +kernel
theorem dX9_pass_9 : decode cX9_pass 9 = .ok (.iload_n 2, 1) := by decide +kernel
theorem dX9_pass_10 : decode cX9_pass 10 = .ok (.bipush 12, 2) := by decide +kernel
theorem dX9_pass_12 : decode cX9_pass 12 = .ok (.if_icmp .eq 21, 3) := by decide +kernel
theorem dX9_pass_15 : decode cX9_pass 15 = .ok (.iload_n 3, 1) := by decide +kernel
theorem dX9_pass_16 : decode cX9_pass 16 = .ok (.bipush 30, 2) := by decide +kernel
theorem dX9_pass_18 : decode cX9_pass 18 = .ok (.if_icmp .ge 15, 3) := by decide +kernel
theorem dX9_pass_21 : decode cX9_pass 21 = .ok (.aload_n 0, 1) := by decide +kernel
theorem dX9_pass_22 : decode cX9_pass 22 = .ok (.iload_n 2, 1) := by decide +kernel
theorem dX9_pass_23 : decode cX9_pass 23 = .ok (.invokevirtual 358, 3) := by decide +kernel
theorem dX9_pass_26 : decode cX9_pass 26 = .ok (.istore_n 2, 1) := by decide +kernel
theorem dX9_pass_27 : decode cX9_pass 27 = .ok (.iinc 3 1, 3) := by decide +kernel
theorem dX9_pass_30 : decode cX9_pass 30 = .ok (.goto (-21), 3) := by decide +kernel
theorem dX9_pass_33 : decode cX9_pass 33 = .ok (.iload_n 2, 1) := by decide +kernel
theorem dX9_pass_34 : decode cX9_pass 34 = .ok (.bipush 12, 2) := by decide +kernel
theorem dX9_pass_36 : decode cX9_pass 36 = .ok (.if_icmp .ne 8, 3) := by decide +kernel
theorem dX9_pass_39 : decode cX9_pass 39 = .ok (.aload_n 0, 1) := by decide +kernel
theorem dX9_pass_40 : decode cX9_pass 40 = .ok (.iload_n 3, 1) := by decide +kernel
theorem dX9_pass_41 : decode cX9_pass 41 = .ok (.invokevirtual 361, 3) := by decide +kernel
theorem dX9_pass_44 : decode cX9_pass 44 = .ok (.aload_n 0, 1) := by decide +kernel
theorem dX9_pass_45 : decode cX9_pass 45 = .ok (.iload_n 3, 1) := by decide +kernel
theorem dX9_pass_46 : decode cX9_pass 46 = .ok (.putfield 364, 3) := by decide +kernel
theorem dX9_pass_49 : decode cX9_pass 49 = .ok (.aload_n 0, 1) := by decide +kernel
theorem dX9_pass_50 : decode cX9_pass 50 = .ok (.iload_n 3, 1) := by decide +kernel
theorem dX9_pass_51 : decode cX9_pass 51 = .ok (.iload_n 2, 1) := by decide +kernel
theorem dX9_pass_52 : decode cX9_pass 52 = .ok (.bipush 12, 2) := by decide +kernel
theorem dX9_pass_54 : decode cX9_pass 54 = .ok (.if_icmp .ne 7, 3) := by decide +kernel
theorem dX9_pass_57 : decode cX9_pass 57 = .ok (.iconst 1, 1) := by decide +kernel
theorem dX9_pass_58 : decode cX9_pass 58 = .ok (.goto 4, 3) := by decide +kernel
theorem dX9_pass_61 : decode cX9_pass 61 = .ok (.iconst 0, 1) := by decide +kernel
theorem dX9_pass_62 : decode cX9_pass 62 = .ok (.aload_n 0, 1) := by decide +kernel
theorem dX9_pass_63 : decode cX9_pass 63 = .ok (.getfield 349, 3) := by decide +kernel
theorem dX9_pass_66 : decode cX9_pass 66 = .ok (.iload_n 1, 1) := by decide +kernel
theorem dX9_pass_67 : decode cX9_pass 67 = .ok (.isub, 1) := by decide +kernel
theorem dX9_pass_68 : decode cX9_pass 68 = .ok (.invokevirtual 367, 3) := by decide +kernel
theorem dX9_pass_71 : decode cX9_pass 71 = .ok (.aload_n 0, 1) := by decide +kernel
theorem dX9_pass_72 : decode cX9_pass 72 = .ok (.getfield 7, 3) := by decide +kernel
theorem dX9_pass_75 : decode cX9_pass 75 = .ok (.bipush 6, 2) := by decide +kernel
theorem dX9_pass_77 : decode cX9_pass 77 = .ok (.dup2, 1) := by decide +kernel
theorem dX9_pass_78 : decode cX9_pass 78 = .ok (.iaload, 1) := by decide +kernel
theorem dX9_pass_79 : decode cX9_pass 79 = .ok (.iconst 1, 1) := by decide +kernel
theorem dX9_pass_80 : decode cX9_pass 80 = .ok (.iadd, 1) := by decide +kernel
theorem dX9_pass_81 : decode cX9_pass 81 = .ok (.iastore, 1) := by decide +kernel
theorem dX9_pass_82 : decode cX9_pass 82 = .ok (.return_, 1) := by decide +kernel
theorem dX9_keep_0 : decode cX9_keep 0 = .ok (.aload_n 0, 1) := by decide +kernel
theorem dX9_keep_1 : decode cX9_keep 1 = .ok (.getfield 7, 3) := by decide +kernel
theorem dX9_keep_4 : decode cX9_keep 4 = .ok (.iconst 3, 1) := by decide +kernel
theorem dX9_keep_5 : decode cX9_keep 5 = .ok (.iaload, 1) := by decide +kernel
theorem dX9_keep_6 : decode cX9_keep 6 = .ok (.bipush 30, 2) := by decide +kernel
theorem dX9_keep_8 : decode cX9_keep 8 = .ok (.if_icmp .ne 48, 3) := by decide +kernel
theorem dX9_keep_11 : decode cX9_keep 11 = .ok (.iconst 0, 1) := by decide +kernel
theorem dX9_keep_12 : decode cX9_keep 12 = .ok (.istore_n 1, 1) := by decide +kernel
theorem dX9_keep_13 : decode cX9_keep 13 = .ok (.iload_n 1, 1) := by decide +kernel
theorem dX9_keep_14 : decode cX9_keep 14 = .ok (.sipush 3045, 3) := by decide +kernel
theorem dX9_keep_17 : decode cX9_keep 17 = .ok (.if_icmp .ge 29, 3) := by decide +kernel
theorem dX9_keep_20 : decode cX9_keep 20 = .ok (.aload_n 0, 1) := by decide +kernel
theorem dX9_keep_21 : decode cX9_keep 21 = .ok (.getfield 7, 3) := by decide +kernel
theorem dX9_keep_24 : decode cX9_keep 24 = .ok (.sipush 199, 3) := by decide +kernel
theorem dX9_keep_27 : decode cX9_keep 27 = .ok (.iload_n 1, 1) := by decide +kernel
theorem dX9_keep_28 : decode cX9_keep 28 = .ok (.iadd, 1) := by decide +kernel
theorem dX9_keep_29 : decode cX9_keep 29 = .ok (.aload_n 0, 1) := by decide +kernel
theorem dX9_keep_30 : decode cX9_keep 30 = .ok (.getfield 7, 3) := by decide +kernel
theorem dX9_keep_33 : decode cX9_keep 33 = .ok (.sipush 304, 3) := by decide +kernel
theorem dX9_keep_36 : decode cX9_keep 36 = .ok (.iload_n 1, 1) := by decide +kernel
theorem dX9_keep_37 : decode cX9_keep 37 = .ok (.iadd, 1) := by decide +kernel
theorem dX9_keep_38 : decode cX9_keep 38 = .ok (.iaload, 1) := by decide +kernel
theorem dX9_keep_39 : decode cX9_keep 39 = .ok (.iastore, 1) := by decide +kernel
theorem dX9_keep_40 : decode cX9_keep 40 = .ok (.iinc 1 1, 3) := by decide +kernel
theorem dX9_keep_43 : decode cX9_keep 43 = .ok (.goto (-30), 3) := by decide +kernel
theorem dX9_keep_46 : decode cX9_keep 46 = .ok (.aload_n 0, 1) := by decide +kernel
theorem dX9_keep_47 : decode cX9_keep 47 = .ok (.getfield 7, 3) := by decide +kernel
theorem dX9_keep_50 : decode cX9_keep 50 = .ok (.iconst 3, 1) := by decide +kernel
theorem dX9_keep_51 : decode cX9_keep 51 = .ok (.dup2, 1) := by decide +kernel
theorem dX9_keep_52 : decode cX9_keep 52 = .ok (.iaload, 1) := by decide +kernel
theorem dX9_keep_53 : decode cX9_keep 53 = .ok (.iconst 1, 1) := by decide +kernel
theorem dX9_keep_54 : decode cX9_keep 54 = .ok (.isub, 1) := by decide +kernel
theorem dX9_keep_55 : decode cX9_keep 55 = .ok (.iastore, 1) := by decide +kernel
theorem dX9_keep_56 : decode cX9_keep 56 = .ok (.sipush 199, 3) := by decide +kernel
theorem dX9_keep_59 : decode cX9_keep 59 = .ok (.bipush 105, 2) := by decide +kernel
theorem dX9_keep_61 : decode cX9_keep 61 = .ok (.aload_n 0, 1) := by decide +kernel
theorem dX9_keep_62 : decode cX9_keep 62 = .ok (.getfield 7, 3) := by decide +kernel
theorem dX9_keep_65 : decode cX9_keep 65 = .ok (.iconst 3, 1) := by decide +kernel
theorem dX9_keep_66 : decode cX9_keep 66 = .ok (.iaload, 1) := by decide +kernel
theorem dX9_keep_67 : decode cX9_keep 67 = .ok (.imul, 1) := by decide +kernel
theorem dX9_keep_68 : decode cX9_keep 68 = .ok (.iadd, 1) := by decide +kernel
theorem dX9_keep_69 : decode cX9_keep 69 = .ok (.istore_n 1, 1) := by decide +kernel
theorem dX9_keep_70 : decode cX9_keep 70 = .ok (.aload_n 0, 1) := by decide +kernel
theorem dX9_keep_71 : decode cX9_keep 71 = .ok (.getfield 7, 3) := by decide +kernel
theorem dX9_keep_74 : decode cX9_keep 74 = .ok (.iload_n 1, 1) := by decide +kernel
theorem dX9_keep_75 : decode cX9_keep 75 = .ok (.aload_n 0, 1) := by decide +kernel
theorem dX9_keep_76 : decode cX9_keep 76 = .ok (.getfield 7, 3) := by decide +kernel
theorem dX9_keep_79 : decode cX9_keep 79 = .ok (.iconst 0, 1) := by decide +kernel
theorem dX9_keep_80 : decode cX9_keep 80 = .ok (.iaload, 1) := by decide +kernel
theorem dX9_keep_81 : decode cX9_keep 81 = .ok (.iastore, 1) := by decide +kernel
theorem dX9_keep_82 : decode cX9_keep 82 = .ok (.iconst 0, 1) := by decide +kernel
theorem dX9_keep_83 : decode cX9_keep 83 = .ok (.istore_n 2, 1) := by decide +kernel
theorem dX9_keep_84 : decode cX9_keep 84 = .ok (.iload_n 2, 1) := by decide +kernel
theorem dX9_keep_85 : decode cX9_keep 85 = .ok (.bipush 28, 2) := by decide +kernel
theorem dX9_keep_87 : decode cX9_keep 87 = .ok (.if_icmp .ge 28, 3) := by decide +kernel
theorem dX9_keep_90 : decode cX9_keep 90 = .ok (.aload_n 0, 1) := by decide +kernel
theorem dX9_keep_91 : decode cX9_keep 91 = .ok (.getfield 7, 3) := by decide +kernel
theorem dX9_keep_94 : decode cX9_keep 94 = .ok (.iload_n 1, 1) := by decide +kernel
theorem dX9_keep_95 : decode cX9_keep 95 = .ok (.iconst 1, 1) := by decide +kernel
theorem dX9_keep_96 : decode cX9_keep 96 = .ok (.iadd, 1) := by decide +kernel
theorem dX9_keep_97 : decode cX9_keep 97 = .ok (.iload_n 2, 1) := by decide +kernel
theorem dX9_keep_98 : decode cX9_keep 98 = .ok (.iadd, 1) := by decide +kernel
theorem dX9_keep_99 : decode cX9_keep 99 = .ok (.aload_n 0, 1) := by decide +kernel
theorem dX9_keep_100 : decode cX9_keep 100 = .ok (.getfield 7, 3) := by decide +kernel
theorem dX9_keep_103 : decode cX9_keep 103 = .ok (.bipush 6, 2) := by decide +kernel
theorem dX9_keep_105 : decode cX9_keep 105 = .ok (.iload_n 2, 1) := by decide +kernel
theorem dX9_keep_106 : decode cX9_keep 106 = .ok (.iadd, 1) := by decide +kernel
theorem dX9_keep_107 : decode cX9_keep 107 = .ok (.iaload, 1) := by decide +kernel
theorem dX9_keep_108 : decode cX9_keep 108 = .ok (.iastore, 1) := by decide +kernel
theorem dX9_keep_109 : decode cX9_keep 109 = .ok (.iinc 2 1, 3) := by decide +kernel
theorem dX9_keep_112 : decode cX9_keep 112 = .ok (.goto (-28), 3) := by decide +kernel
theorem dX9_keep_115 : decode cX9_keep 115 = .ok (.iconst 0, 1) := by decide +kernel
theorem dX9_keep_116 : decode cX9_keep 116 = .ok (.istore_n 2, 1) := by decide +kernel
theorem dX9_keep_117 : decode cX9_keep 117 = .ok (.iload_n 2, 1) := by decide +kernel
theorem dX9_keep_118 : decode cX9_keep 118 = .ok (.bipush 8, 2) := by decide +kernel
theorem dX9_keep_120 : decode cX9_keep 120 = .ok (.if_icmp .ge 43, 3) := by decide +kernel
theorem dX9_keep_123 : decode cX9_keep 123 = .ok (.iconst 0, 1) := by decide +kernel
theorem dX9_keep_124 : decode cX9_keep 124 = .ok (.istore_n 3, 1) := by decide +kernel
theorem dX9_keep_125 : decode cX9_keep 125 = .ok (.iload_n 3, 1) := by decide +kernel
theorem dX9_keep_126 : decode cX9_keep 126 = .ok (.iconst 2, 1) := by decide +kernel
theorem dX9_keep_127 : decode cX9_keep 127 = .ok (.if_icmp .ge 30, 3) := by decide +kernel
theorem dX9_keep_130 : decode cX9_keep 130 = .ok (.aload_n 0, 1) := by decide +kernel
theorem dX9_keep_131 : decode cX9_keep 131 = .ok (.getfield 7, 3) := by decide +kernel
theorem dX9_keep_134 : decode cX9_keep 134 = .ok (.iload_n 1, 1) := by decide +kernel
theorem dX9_keep_135 : decode cX9_keep 135 = .ok (.bipush 29, 2) := by decide +kernel
theorem dX9_keep_137 : decode cX9_keep 137 = .ok (.iadd, 1) := by decide +kernel
theorem dX9_keep_138 : decode cX9_keep 138 = .ok (.iconst 2, 1) := by decide +kernel
theorem dX9_keep_139 : decode cX9_keep 139 = .ok (.iload_n 2, 1) := by decide +kernel
theorem dX9_keep_140 : decode cX9_keep 140 = .ok (.imul, 1) := by decide +kernel
theorem dX9_keep_141 : decode cX9_keep 141 = .ok (.iadd, 1) := by decide +kernel
theorem dX9_keep_142 : decode cX9_keep 142 = .ok (.iload_n 3, 1) := by decide +kernel
theorem dX9_keep_143 : decode cX9_keep 143 = .ok (.iadd, 1) := by decide +kernel
theorem dX9_keep_144 : decode cX9_keep 144 = .ok (.aload_n 0, 1) := by decide +kernel
theorem dX9_keep_145 : decode cX9_keep 145 = .ok (.iload_n 2, 1) := by decide +kernel
theorem dX9_keep_146 : decode cX9_keep 146 = .ok (.iload_n 3, 1) := by decide +kernel
theorem dX9_keep_147 : decode cX9_keep 147 = .ok (.invokevirtual 82, 3) := by decide +kernel
theorem dX9_keep_150 : decode cX9_keep 150 = .ok (.iastore, 1) := by decide +kernel
theorem dX9_keep_151 : decode cX9_keep 151 = .ok (.iinc 3 1, 3) := by decide +kernel
theorem dX9_keep_154 : decode cX9_keep 154 = .ok (.goto (-29), 3) := by decide +kernel
theorem dX9_keep_157 : decode cX9_keep 157 = .ok (.iinc 2 1, 3) := by decide +kernel
theorem dX9_keep_160 : decode cX9_keep 160 = .ok (.goto (-43), 3) := by decide +kernel
theorem dX9_keep_163 : decode cX9_keep 163 = .ok (.iconst 0, 1) := by decide +kernel
theorem dX9_keep_164 : decode cX9_keep 164 = .ok (.istore_n 2, 1) := by decide +kernel
theorem dX9_keep_165 : decode cX9_keep 165 = .ok (.iload_n 2, 1) := by decide +kernel
theorem dX9_keep_166 : decode cX9_keep 166 = .ok (.bipush 60, 2) := by decide +kernel
theorem dX9_keep_168 : decode cX9_keep 168 = .ok (.if_icmp .ge 30, 3) := by decide +kernel
theorem dX9_keep_171 : decode cX9_keep 171 = .ok (.aload_n 0, 1) := by decide +kernel
theorem dX9_keep_172 : decode cX9_keep 172 = .ok (.getfield 7, 3) := by decide +kernel
theorem dX9_keep_175 : decode cX9_keep 175 = .ok (.iload_n 1, 1) := by decide +kernel
theorem dX9_keep_176 : decode cX9_keep 176 = .ok (.bipush 45, 2) := by decide +kernel
theorem dX9_keep_178 : decode cX9_keep 178 = .ok (.iadd, 1) := by decide +kernel
theorem dX9_keep_179 : decode cX9_keep 179 = .ok (.iload_n 2, 1) := by decide +kernel
theorem dX9_keep_180 : decode cX9_keep 180 = .ok (.iadd, 1) := by decide +kernel
theorem dX9_keep_181 : decode cX9_keep 181 = .ok (.aload_n 0, 1) := by decide +kernel
theorem dX9_keep_182 : decode cX9_keep 182 = .ok (.getfield 7, 3) := by decide +kernel
theorem dX9_keep_185 : decode cX9_keep 185 = .ok (.sipush 3349, 3) := by decide +kernel
theorem dX9_keep_188 : decode cX9_keep 188 = .ok (.iload_n 2, 1) := by decide +kernel
theorem dX9_keep_189 : decode cX9_keep 189 = .ok (.iadd, 1) := by decide +kernel
theorem dX9_keep_190 : decode cX9_keep 190 = .ok (.iaload, 1) := by decide +kernel
theorem dX9_keep_191 : decode cX9_keep 191 = .ok (.iastore, 1) := by decide +kernel
theorem dX9_keep_192 : decode cX9_keep 192 = .ok (.iinc 2 1, 3) := by decide +kernel
theorem dX9_keep_195 : decode cX9_keep 195 = .ok (.goto (-30), 3) := by decide +kernel
theorem dX9_keep_198 : decode cX9_keep 198 = .ok (.aload_n 0, 1) := by decide +kernel
theorem dX9_keep_199 : decode cX9_keep 199 = .ok (.getfield 7, 3) := by decide +kernel
theorem dX9_keep_202 : decode cX9_keep 202 = .ok (.iconst 3, 1) := by decide +kernel
theorem dX9_keep_203 : decode cX9_keep 203 = .ok (.dup2, 1) := by decide +kernel
theorem dX9_keep_204 : decode cX9_keep 204 = .ok (.iaload, 1) := by decide +kernel
theorem dX9_keep_205 : decode cX9_keep 205 = .ok (.iconst 1, 1) := by decide +kernel
theorem dX9_keep_206 : decode cX9_keep 206 = .ok (.iadd, 1) := by decide +kernel
theorem dX9_keep_207 : decode cX9_keep 207 = .ok (.iastore, 1) := by decide +kernel
theorem dX9_keep_208 : decode cX9_keep 208 = .ok (.return_, 1) := by decide +kernel
theorem dX9_undo_0 : decode cX9_undo 0 = .ok (.aload_n 0, 1) := by decide +kernel
theorem dX9_undo_1 : decode cX9_undo 1 = .ok (.getfield 7, 3) := by decide +kernel
theorem dX9_undo_4 : decode cX9_undo 4 = .ok (.iconst 3, 1) := by decide +kernel
theorem dX9_undo_5 : decode cX9_undo 5 = .ok (.iaload, 1) := by decide +kernel
theorem dX9_undo_6 : decode cX9_undo 6 = .ok (.ifCond .ne 5, 3) := by decide +kernel
theorem dX9_undo_9 : decode cX9_undo 9 = .ok (.iconst (-1), 1) := by decide +kernel
theorem dX9_undo_10 : decode cX9_undo 10 = .ok (.ireturn, 1) := by decide +kernel
theorem dX9_undo_11 : decode cX9_undo 11 = .ok (.aload_n 0, 1) := by decide +kernel
theorem dX9_undo_12 : decode cX9_undo 12 = .ok (.getfield 7, 3) := by decide +kernel
theorem dX9_undo_15 : decode cX9_undo 15 = .ok (.iconst 3, 1) := by decide +kernel
theorem dX9_undo_16 : decode cX9_undo 16 = .ok (.dup2, 1) := by decide +kernel
theorem dX9_undo_17 : decode cX9_undo 17 = .ok (.iaload, 1) := by decide +kernel
theorem dX9_undo_18 : decode cX9_undo 18 = .ok (.iconst 1, 1) := by decide +kernel
theorem dX9_undo_19 : decode cX9_undo 19 = .ok (.isub, 1) := by decide +kernel
theorem dX9_undo_20 : decode cX9_undo 20 = .ok (.iastore, 1) := by decide +kernel
theorem dX9_undo_21 : decode cX9_undo 21 = .ok (.sipush 199, 3) := by decide +kernel
theorem dX9_undo_24 : decode cX9_undo 24 = .ok (.bipush 105, 2) := by decide +kernel
theorem dX9_undo_26 : decode cX9_undo 26 = .ok (.aload_n 0, 1) := by decide +kernel
theorem dX9_undo_27 : decode cX9_undo 27 = .ok (.getfield 7, 3) := by decide +kernel
theorem dX9_undo_30 : decode cX9_undo 30 = .ok (.iconst 3, 1) := by decide +kernel
theorem dX9_undo_31 : decode cX9_undo 31 = .ok (.iaload, 1) := by decide +kernel
theorem dX9_undo_32 : decode cX9_undo 32 = .ok (.imul, 1) := by decide +kernel
theorem dX9_undo_33 : decode cX9_undo 33 = .ok (.iadd, 1) := by decide +kernel
theorem dX9_undo_34 : decode cX9_undo 34 = .ok (.istore_n 1, 1) := by decide +kernel
theorem dX9_undo_35 : decode cX9_undo 35 = .ok (.iconst 0, 1) := by decide +kernel
theorem dX9_undo_36 : decode cX9_undo 36 = .ok (.istore_n 2, 1) := by decide +kernel
theorem dX9_undo_37 : decode cX9_undo 37 = .ok (.iload_n 2, 1) := by decide +kernel
theorem dX9_undo_38 : decode cX9_undo 38 = .ok (.bipush 28, 2) := by decide +kernel
theorem dX9_undo_40 : decode cX9_undo 40 = .ok (.if_icmp .ge 28, 3) := by decide +kernel
theorem dX9_undo_43 : decode cX9_undo 43 = .ok (.aload_n 0, 1) := by decide +kernel
theorem dX9_undo_44 : decode cX9_undo 44 = .ok (.getfield 7, 3) := by decide +kernel
theorem dX9_undo_47 : decode cX9_undo 47 = .ok (.bipush 6, 2) := by decide +kernel
theorem dX9_undo_49 : decode cX9_undo 49 = .ok (.iload_n 2, 1) := by decide +kernel
theorem dX9_undo_50 : decode cX9_undo 50 = .ok (.iadd, 1) := by decide +kernel
theorem dX9_undo_51 : decode cX9_undo 51 = .ok (.aload_n 0, 1) := by decide +kernel
theorem dX9_undo_52 : decode cX9_undo 52 = .ok (.getfield 7, 3) := by decide +kernel
theorem dX9_undo_55 : decode cX9_undo 55 = .ok (.iload_n 1, 1) := by decide +kernel
theorem dX9_undo_56 : decode cX9_undo 56 = .ok (.iconst 1, 1) := by decide +kernel
theorem dX9_undo_57 : decode cX9_undo 57 = .ok (.iadd, 1) := by decide +kernel
theorem dX9_undo_58 : decode cX9_undo 58 = .ok (.iload_n 2, 1) := by decide +kernel
theorem dX9_undo_59 : decode cX9_undo 59 = .ok (.iadd, 1) := by decide +kernel
theorem dX9_undo_60 : decode cX9_undo 60 = .ok (.iaload, 1) := by decide +kernel
theorem dX9_undo_61 : decode cX9_undo 61 = .ok (.iastore, 1) := by decide +kernel
theorem dX9_undo_62 : decode cX9_undo 62 = .ok (.iinc 2 1, 3) := by decide +kernel
theorem dX9_undo_65 : decode cX9_undo 65 = .ok (.goto (-28), 3) := by decide +kernel
theorem dX9_undo_68 : decode cX9_undo 68 = .ok (.iconst 0, 1) := by decide +kernel
theorem dX9_undo_69 : decode cX9_undo 69 = .ok (.istore_n 2, 1) := by decide +kernel
theorem dX9_undo_70 : decode cX9_undo 70 = .ok (.iload_n 2, 1) := by decide +kernel
theorem dX9_undo_71 : decode cX9_undo 71 = .ok (.aload_n 0, 1) := by decide +kernel
theorem dX9_undo_72 : decode cX9_undo 72 = .ok (.getfield 7, 3) := by decide +kernel
theorem dX9_undo_75 : decode cX9_undo 75 = .ok (.iconst 0, 1) := by decide +kernel
theorem dX9_undo_76 : decode cX9_undo 76 = .ok (.iaload, 1) := by decide +kernel
theorem dX9_undo_77 : decode cX9_undo 77 = .ok (.if_icmp .ge 68, 3) := by decide +kernel
theorem dX9_undo_80 : decode cX9_undo 80 = .ok (.iload_n 2, 1) := by decide +kernel
theorem dX9_undo_81 : decode cX9_undo 81 = .ok (.aload_n 0, 1) := by decide +kernel
theorem dX9_undo_82 : decode cX9_undo 82 = .ok (.getfield 7, 3) := by decide +kernel
theorem dX9_undo_85 : decode cX9_undo 85 = .ok (.iload_n 1, 1) := by decide +kernel
theorem dX9_undo_86 : decode cX9_undo 86 = .ok (.iaload, 1) := by decide +kernel
theorem dX9_undo_87 : decode cX9_undo 87 = .ok (.if_icmp .lt 8, 3) := by decide +kernel
theorem dX9_undo_90 : decode cX9_undo 90 = .ok (.aload_n 0, 1) := by decide +kernel
theorem dX9_undo_91 : decode cX9_undo 91 = .ok (.iload_n 2, 1) := by decide +kernel
theorem dX9_undo_92 : decode cX9_undo 92 = .ok (.invokevirtual 100, 3) := by decide +kernel
theorem dX9_undo_95 : decode cX9_undo 95 = .ok (.iconst 0, 1) := by decide +kernel
theorem dX9_undo_96 : decode cX9_undo 96 = .ok (.istore_n 3, 1) := by decide +kernel
theorem dX9_undo_97 : decode cX9_undo 97 = .ok (.iload_n 3, 1) := by decide +kernel
theorem dX9_undo_98 : decode cX9_undo 98 = .ok (.iconst 2, 1) := by decide +kernel
theorem dX9_undo_99 : decode cX9_undo 99 = .ok (.if_icmp .ge 40, 3) := by decide +kernel
theorem dX9_undo_102 : decode cX9_undo 102 = .ok (.iload_n 2, 1) := by decide +kernel
theorem dX9_undo_103 : decode cX9_undo 103 = .ok (.aload_n 0, 1) := by decide +kernel
theorem dX9_undo_104 : decode cX9_undo 104 = .ok (.getfield 7, 3) := by decide +kernel
theorem dX9_undo_107 : decode cX9_undo 107 = .ok (.iload_n 1, 1) := by decide +kernel
theorem dX9_undo_108 : decode cX9_undo 108 = .ok (.iaload, 1) := by decide +kernel
theorem dX9_undo_109 : decode cX9_undo 109 = .ok (.if_icmp .ge 30, 3) := by decide +kernel
theorem dX9_undo_112 : decode cX9_undo 112 = .ok (.aload_n 0, 1) := by decide +kernel
theorem dX9_undo_113 : decode cX9_undo 113 = .ok (.iload_n 2, 1) := by decide +kernel
theorem dX9_undo_114 : decode cX9_undo 114 = .ok (.iload_n 3, 1) := by decide +kernel
theorem dX9_undo_115 : decode cX9_undo 115 = .ok (.aload_n 0, 1) := by decide +kernel
theorem dX9_undo_116 : decode cX9_undo 116 = .ok (.getfield 7, 3) := by decide +kernel
theorem dX9_undo_119 : decode cX9_undo 119 = .ok (.iload_n 1, 1) := by decide +kernel
theorem dX9_undo_120 : decode cX9_undo 120 = .ok (.bipush 29, 2) := by decide +kernel
theorem dX9_undo_122 : decode cX9_undo 122 = .ok (.iadd, 1) := by decide +kernel
theorem dX9_undo_123 : decode cX9_undo 123 = .ok (.iconst 2, 1) := by decide +kernel
theorem dX9_undo_124 : decode cX9_undo 124 = .ok (.iload_n 2, 1) := by decide +kernel
theorem dX9_undo_125 : decode cX9_undo 125 = .ok (.imul, 1) := by decide +kernel
theorem dX9_undo_126 : decode cX9_undo 126 = .ok (.iadd, 1) := by decide +kernel
theorem dX9_undo_127 : decode cX9_undo 127 = .ok (.iload_n 3, 1) := by decide +kernel
theorem dX9_undo_128 : decode cX9_undo 128 = .ok (.iadd, 1) := by decide +kernel
theorem dX9_undo_129 : decode cX9_undo 129 = .ok (.iaload, 1) := by decide +kernel
theorem dX9_undo_130 : decode cX9_undo 130 = .ok (.invokevirtual 96, 3) := by decide +kernel
theorem dX9_undo_133 : decode cX9_undo 133 = .ok (.iinc 3 1, 3) := by decide +kernel
theorem dX9_undo_136 : decode cX9_undo 136 = .ok (.goto (-39), 3) := by decide +kernel
theorem dX9_undo_139 : decode cX9_undo 139 = .ok (.iinc 2 1, 3) := by decide +kernel
theorem dX9_undo_142 : decode cX9_undo 142 = .ok (.goto (-72), 3) := by decide +kernel
theorem dX9_undo_145 : decode cX9_undo 145 = .ok (.iconst 0, 1) := by decide +kernel
theorem dX9_undo_146 : decode cX9_undo 146 = .ok (.istore_n 2, 1) := by decide +kernel
theorem dX9_undo_147 : decode cX9_undo 147 = .ok (.iload_n 2, 1) := by decide +kernel
theorem dX9_undo_148 : decode cX9_undo 148 = .ok (.bipush 60, 2) := by decide +kernel
theorem dX9_undo_150 : decode cX9_undo 150 = .ok (.if_icmp .ge 30, 3) := by decide +kernel
theorem dX9_undo_153 : decode cX9_undo 153 = .ok (.aload_n 0, 1) := by decide +kernel
theorem dX9_undo_154 : decode cX9_undo 154 = .ok (.getfield 7, 3) := by decide +kernel
theorem dX9_undo_157 : decode cX9_undo 157 = .ok (.sipush 3349, 3) := by decide +kernel
theorem dX9_undo_160 : decode cX9_undo 160 = .ok (.iload_n 2, 1) := by decide +kernel
theorem dX9_undo_161 : decode cX9_undo 161 = .ok (.iadd, 1) := by decide +kernel
theorem dX9_undo_162 : decode cX9_undo 162 = .ok (.aload_n 0, 1) := by decide +kernel
theorem dX9_undo_163 : decode cX9_undo 163 = .ok (.getfield 7, 3) := by decide +kernel
theorem dX9_undo_166 : decode cX9_undo 166 = .ok (.iload_n 1, 1) := by decide +kernel
theorem dX9_undo_167 : decode cX9_undo 167 = .ok (.bipush 45, 2) := by decide +kernel
theorem dX9_undo_169 : decode cX9_undo 169 = .ok (.iadd, 1) := by decide +kernel
theorem dX9_undo_170 : decode cX9_undo 170 = .ok (.iload_n 2, 1) := by decide +kernel
theorem dX9_undo_171 : decode cX9_undo 171 = .ok (.iadd, 1) := by decide +kernel
theorem dX9_undo_172 : decode cX9_undo 172 = .ok (.iaload, 1) := by decide +kernel
theorem dX9_undo_173 : decode cX9_undo 173 = .ok (.iastore, 1) := by decide +kernel
theorem dX9_undo_174 : decode cX9_undo 174 = .ok (.iinc 2 1, 3) := by decide +kernel
theorem dX9_undo_177 : decode cX9_undo 177 = .ok (.goto (-30), 3) := by decide +kernel
theorem dX9_undo_180 : decode cX9_undo 180 = .ok (.aload_n 0, 1) := by decide +kernel
theorem dX9_undo_181 : decode cX9_undo 181 = .ok (.getfield 7, 3) := by decide +kernel
theorem dX9_undo_184 : decode cX9_undo 184 = .ok (.iconst 3, 1) := by decide +kernel
theorem dX9_undo_185 : decode cX9_undo 185 = .ok (.iaload, 1) := by decide +kernel
theorem dX9_undo_186 : decode cX9_undo 186 = .ok (.ireturn, 1) := by decide +kernel
theorem dX9_canSeat_0 : decode cX9_canSeat 0 = .ok (.aload_n 0, 1) := by decide +kernel
theorem dX9_canSeat_1 : decode cX9_canSeat 1 = .ok (.iload_n 1, 1) := by decide +kernel
theorem dX9_canSeat_2 : decode cX9_canSeat 2 = .ok (.invokevirtual 370, 3) := by decide +kernel
theorem dX9_canSeat_5 : decode cX9_canSeat 5 = .ok (.ifCond .eq 27, 3) := by decide +kernel
theorem dX9_canSeat_8 : decode cX9_canSeat 8 = .ok (.iload_n 2, 1) := by decide +kernel
theorem dX9_canSeat_9 : decode cX9_canSeat 9 = .ok (.iconst 0, 1) := by decide +kernel
theorem dX9_canSeat_10 : decode cX9_canSeat 10 = .ok (.bipush 9, 2) := by decide +kernel
theorem dX9_canSeat_12 : decode cX9_canSeat 12 = .ok (.invokestatic 78, 3) := by decide +kernel
theorem dX9_canSeat_15 : decode cX9_canSeat 15 = .ok (.ifCond .eq 17, 3) := by decide +kernel
theorem dX9_canSeat_18 : decode cX9_canSeat 18 = .ok (.aload_n 0, 1) := by decide +kernel
theorem dX9_canSeat_19 : decode cX9_canSeat 19 = .ok (.iload_n 1, 1) := by decide +kernel
theorem dX9_canSeat_20 : decode cX9_canSeat 20 = .ok (.iconst 0, 1) := by decide +kernel
theorem dX9_canSeat_21 : decode cX9_canSeat 21 = .ok (.invokevirtual 82, 3) := by decide +kernel
theorem dX9_canSeat_24 : decode cX9_canSeat 24 = .ok (.iload_n 2, 1) := by decide +kernel
theorem dX9_canSeat_25 : decode cX9_canSeat 25 = .ok (.if_icmp .eq 7, 3) := by decide +kernel
theorem dX9_canSeat_28 : decode cX9_canSeat 28 = .ok (.iconst 1, 1) := by decide +kernel
theorem dX9_canSeat_29 : decode cX9_canSeat 29 = .ok (.goto 4, 3) := by decide +kernel
theorem dX9_canSeat_32 : decode cX9_canSeat 32 = .ok (.iconst 0, 1) := by decide +kernel
theorem dX9_canSeat_33 : decode cX9_canSeat 33 = .ok (.ireturn, 1) := by decide +kernel
theorem dX9_seat_0 : decode cX9_seat 0 = .ok (.aload_n 0, 1) := by decide +kernel
theorem dX9_seat_1 : decode cX9_seat 1 = .ok (.iload_n 1, 1) := by decide +kernel
theorem dX9_seat_2 : decode cX9_seat 2 = .ok (.iload_n 2, 1) := by decide +kernel
theorem dX9_seat_3 : decode cX9_seat 3 = .ok (.invokevirtual 373, 3) := by decide +kernel
theorem dX9_seat_6 : decode cX9_seat 6 = .ok (.ifCond .ne 5, 3) := by decide +kernel
theorem dX9_seat_9 : decode cX9_seat 9 = .ok (.iconst 0, 1) := by decide +kernel
theorem dX9_seat_10 : decode cX9_seat 10 = .ok (.ireturn, 1) := by decide +kernel
theorem dX9_seat_11 : decode cX9_seat 11 = .ok (.aload_n 0, 1) := by decide +kernel
theorem dX9_seat_12 : decode cX9_seat 12 = .ok (.invokevirtual 376, 3) := by decide +kernel
theorem dX9_seat_15 : decode cX9_seat 15 = .ok (.aload_n 0, 1) := by decide +kernel
theorem dX9_seat_16 : decode cX9_seat 16 = .ok (.iload_n 1, 1) := by decide +kernel
theorem dX9_seat_17 : decode cX9_seat 17 = .ok (.iconst 0, 1) := by decide +kernel
theorem dX9_seat_18 : decode cX9_seat 18 = .ok (.iload_n 2, 1) := by decide +kernel
theorem dX9_seat_19 : decode cX9_seat 19 = .ok (.invokevirtual 96, 3) := by decide +kernel
theorem dX9_seat_22 : decode cX9_seat 22 = .ok (.iconst 1, 1) := by decide +kernel
theorem dX9_seat_23 : decode cX9_seat 23 = .ok (.ireturn, 1) := by decide +kernel
theorem dX9_canCall_0 : decode cX9_canCall 0 = .ok (.iload_n 1, 1) := by decide +kernel
theorem dX9_canCall_1 : decode cX9_canCall 1 = .ok (.invokestatic 90, 3) := by decide +kernel
theorem dX9_canCall_4 : decode cX9_canCall 4 = .ok (.ifCond .eq 34, 3) := by decide +kernel
theorem dX9_canCall_7 : decode cX9_canCall 7 = .ok (.iload_n 2, 1) := by decide +kernel
theorem dX9_canCall_8 : decode cX9_canCall 8 = .ok (.iconst 1, 1) := by decide +kernel
theorem dX9_canCall_9 : decode cX9_canCall 9 = .ok (.iconst 3, 1) := by decide +kernel
theorem dX9_canCall_10 : decode cX9_canCall 10 = .ok (.invokestatic 78, 3) := by decide +kernel
theorem dX9_canCall_13 : decode cX9_canCall 13 = .ok (.ifCond .eq 25, 3) := by decide +kernel
theorem dX9_canCall_16 : decode cX9_canCall 16 = .ok (.aload_n 0, 1) := by decide +kernel
theorem dX9_canCall_17 : decode cX9_canCall 17 = .ok (.iload_n 1, 1) := by decide +kernel
theorem dX9_canCall_18 : decode cX9_canCall 18 = .ok (.iload_n 2, 1) := by decide +kernel
theorem dX9_canCall_19 : decode cX9_canCall 19 = .ok (.invokevirtual 343, 3) := by decide +kernel
theorem dX9_canCall_22 : decode cX9_canCall 22 = .ok (.aload_n 0, 1) := by decide +kernel
theorem dX9_canCall_23 : decode cX9_canCall 23 = .ok (.getfield 7, 3) := by decide +kernel
theorem dX9_canCall_26 : decode cX9_canCall 26 = .ok (.bipush 22, 2) := by decide +kernel
theorem dX9_canCall_28 : decode cX9_canCall 28 = .ok (.iload_n 1, 1) := by decide +kernel
theorem dX9_canCall_29 : decode cX9_canCall 29 = .ok (.iadd, 1) := by decide +kernel
theorem dX9_canCall_30 : decode cX9_canCall 30 = .ok (.iaload, 1) := by decide +kernel
theorem dX9_canCall_31 : decode cX9_canCall 31 = .ok (.if_icmp .eq 7, 3) := by decide +kernel
theorem dX9_canCall_34 : decode cX9_canCall 34 = .ok (.iconst 1, 1) := by decide +kernel
theorem dX9_canCall_35 : decode cX9_canCall 35 = .ok (.goto 4, 3) := by decide +kernel
theorem dX9_canCall_38 : decode cX9_canCall 38 = .ok (.iconst 0, 1) := by decide +kernel
theorem dX9_canCall_39 : decode cX9_canCall 39 = .ok (.ireturn, 1) := by decide +kernel
theorem dX9_call_0 : decode cX9_call 0 = .ok (.aload_n 0, 1) := by decide +kernel
theorem dX9_call_1 : decode cX9_call 1 = .ok (.iload_n 1, 1) := by decide +kernel
theorem dX9_call_2 : decode cX9_call 2 = .ok (.iload_n 2, 1) := by decide +kernel
theorem dX9_call_3 : decode cX9_call 3 = .ok (.invokevirtual 379, 3) := by decide +kernel
theorem dX9_call_6 : decode cX9_call 6 = .ok (.ifCond .ne 5, 3) := by decide +kernel
theorem dX9_call_9 : decode cX9_call 9 = .ok (.iconst 0, 1) := by decide +kernel
theorem dX9_call_10 : decode cX9_call 10 = .ok (.ireturn, 1) := by decide +kernel
theorem dX9_call_11 : decode cX9_call 11 = .ok (.aload_n 0, 1) := by decide +kernel
theorem dX9_call_12 : decode cX9_call 12 = .ok (.invokevirtual 376, 3) := by decide +kernel
theorem dX9_call_15 : decode cX9_call 15 = .ok (.aload_n 0, 1) := by decide +kernel
theorem dX9_call_16 : decode cX9_call 16 = .ok (.getfield 7, 3) := by decide +kernel
theorem dX9_call_19 : decode cX9_call 19 = .ok (.bipush 22, 2) := by decide +kernel
theorem dX9_call_21 : decode cX9_call 21 = .ok (.iload_n 1, 1) := by decide +kernel
theorem dX9_call_22 : decode cX9_call 22 = .ok (.iadd, 1) := by decide +kernel
theorem dX9_call_23 : decode cX9_call 23 = .ok (.aload_n 0, 1) := by decide +kernel
theorem dX9_call_24 : decode cX9_call 24 = .ok (.iload_n 1, 1) := by decide +kernel
theorem dX9_call_25 : decode cX9_call 25 = .ok (.iload_n 2, 1) := by decide +kernel
theorem dX9_call_26 : decode cX9_call 26 = .ok (.invokevirtual 343, 3) := by decide +kernel
theorem dX9_call_29 : decode cX9_call 29 = .ok (.iastore, 1) := by decide +kernel
theorem dX9_call_30 : decode cX9_call 30 = .ok (.iconst 1, 1) := by decide +kernel
theorem dX9_call_31 : decode cX9_call 31 = .ok (.ireturn, 1) := by decide +kernel
theorem dX9_canMend_0 : decode cX9_canMend 0 = .ok (.iload_n 1, 1) := by decide +kernel
theorem dX9_canMend_1 : decode cX9_canMend 1 = .ok (.invokestatic 90, 3) := by decide +kernel
theorem dX9_canMend_4 : decode cX9_canMend 4 = .ok (.ifCond .eq 30, 3) := by decide +kernel
theorem dX9_canMend_7 : decode cX9_canMend 7 = .ok (.aload_n 0, 1) := by decide +kernel
theorem dX9_canMend_8 : decode cX9_canMend 8 = .ok (.getfield 7, 3) := by decide +kernel
theorem dX9_canMend_11 : decode cX9_canMend 11 = .ok (.bipush 22, 2) := by decide +kernel
theorem dX9_canMend_13 : decode cX9_canMend 13 = .ok (.iload_n 1, 1) := by decide +kernel
theorem dX9_canMend_14 : decode cX9_canMend 14 = .ok (.iadd, 1) := by decide +kernel
theorem dX9_canMend_15 : decode cX9_canMend 15 = .ok (.iaload, 1) := by decide +kernel
theorem dX9_canMend_16 : decode cX9_canMend 16 = .ok (.aload_n 0, 1) := by decide +kernel
theorem dX9_canMend_17 : decode cX9_canMend 17 = .ok (.getfield 7, 3) := by decide +kernel
theorem dX9_canMend_20 : decode cX9_canMend 20 = .ok (.bipush 66, 2) := by decide +kernel
theorem dX9_canMend_22 : decode cX9_canMend 22 = .ok (.iconst 4, 1) := by decide +kernel
theorem dX9_canMend_23 : decode cX9_canMend 23 = .ok (.iload_n 1, 1) := by decide +kernel
theorem dX9_canMend_24 : decode cX9_canMend 24 = .ok (.imul, 1) := by decide +kernel
theorem dX9_canMend_25 : decode cX9_canMend 25 = .ok (.iadd, 1) := by decide +kernel
theorem dX9_canMend_26 : decode cX9_canMend 26 = .ok (.iaload, 1) := by decide +kernel
theorem dX9_canMend_27 : decode cX9_canMend 27 = .ok (.if_icmp .eq 7, 3) := by decide +kernel
theorem dX9_canMend_30 : decode cX9_canMend 30 = .ok (.iconst 1, 1) := by decide +kernel
theorem dX9_canMend_31 : decode cX9_canMend 31 = .ok (.goto 4, 3) := by decide +kernel
theorem dX9_canMend_34 : decode cX9_canMend 34 = .ok (.iconst 0, 1) := by decide +kernel
theorem dX9_canMend_35 : decode cX9_canMend 35 = .ok (.ireturn, 1) := by decide +kernel
theorem dX9_mend_0 : decode cX9_mend 0 = .ok (.aload_n 0, 1) := by decide +kernel
theorem dX9_mend_1 : decode cX9_mend 1 = .ok (.iload_n 1, 1) := by decide +kernel
theorem dX9_mend_2 : decode cX9_mend 2 = .ok (.invokevirtual 382, 3) := by decide +kernel
theorem dX9_mend_5 : decode cX9_mend 5 = .ok (.ifCond .ne 5, 3) := by decide +kernel
theorem dX9_mend_8 : decode cX9_mend 8 = .ok (.iconst 0, 1) := by decide +kernel
theorem dX9_mend_9 : decode cX9_mend 9 = .ok (.ireturn, 1) := by decide +kernel
theorem dX9_mend_10 : decode cX9_mend 10 = .ok (.aload_n 0, 1) := by decide +kernel
theorem dX9_mend_11 : decode cX9_mend 11 = .ok (.invokevirtual 376, 3) := by decide +kernel
theorem dX9_mend_14 : decode cX9_mend 14 = .ok (.aload_n 0, 1) := by decide +kernel
theorem dX9_mend_15 : decode cX9_mend 15 = .ok (.getfield 7, 3) := by decide +kernel
theorem dX9_mend_18 : decode cX9_mend 18 = .ok (.bipush 22, 2) := by decide +kernel
theorem dX9_mend_20 : decode cX9_mend 20 = .ok (.iload_n 1, 1) := by decide +kernel
theorem dX9_mend_21 : decode cX9_mend 21 = .ok (.iadd, 1) := by decide +kernel
theorem dX9_mend_22 : decode cX9_mend 22 = .ok (.aload_n 0, 1) := by decide +kernel
theorem dX9_mend_23 : decode cX9_mend 23 = .ok (.getfield 7, 3) := by decide +kernel
theorem dX9_mend_26 : decode cX9_mend 26 = .ok (.bipush 66, 2) := by decide +kernel
theorem dX9_mend_28 : decode cX9_mend 28 = .ok (.iconst 4, 1) := by decide +kernel
theorem dX9_mend_29 : decode cX9_mend 29 = .ok (.iload_n 1, 1) := by decide +kernel
theorem dX9_mend_30 : decode cX9_mend 30 = .ok (.imul, 1) := by decide +kernel
theorem dX9_mend_31 : decode cX9_mend 31 = .ok (.iadd, 1) := by decide +kernel
theorem dX9_mend_32 : decode cX9_mend 32 = .ok (.iaload, 1) := by decide +kernel
theorem dX9_mend_33 : decode cX9_mend 33 = .ok (.iastore, 1) := by decide +kernel
theorem dX9_mend_34 : decode cX9_mend 34 = .ok (.iconst 1, 1) := by decide +kernel
theorem dX9_mend_35 : decode cX9_mend 35 = .ok (.ireturn, 1) := by decide +kernel
theorem dX9_arePassed_0 : decode cX9_arePassed 0 = .ok (.aload_n 0, 1) := by decide +kernel
theorem dX9_arePassed_1 : decode cX9_arePassed 1 = .ok (.iconst 0, 1) := by decide +kernel
theorem dX9_arePassed_2 : decode cX9_arePassed 2 = .ok (.putfield 355, 3) := by decide +kernel
theorem dX9_arePassed_5 : decode cX9_arePassed 5 = .ok (.iconst 0, 1) := by decide +kernel
theorem dX9_arePassed_6 : decode cX9_arePassed 6 = .ok (.istore_n 2, 1) := by decide +kernel
theorem dX9_arePassed_7 : decode cX9_arePassed 7 = .ok (.iload_n 2, 1) := by decide +kernel
theorem dX9_arePassed_8 : decode cX9_arePassed 8 = .ok (.iload_n 1, 1) := by decide +kernel
theorem dX9_arePassed_9 : decode cX9_arePassed 9 = .ok (.if_icmp .ge 32, 3) := by decide +kernel
theorem dX9_arePassed_12 : decode cX9_arePassed 12 = .ok (.aload_n 0, 1) := by decide +kernel
theorem dX9_arePassed_13 : decode cX9_arePassed 13 = .ok (.getfield 7, 3) := by decide +kernel
theorem dX9_arePassed_16 : decode cX9_arePassed 16 = .ok (.bipush 6, 2) := by decide +kernel
theorem dX9_arePassed_18 : decode cX9_arePassed 18 = .ok (.iaload, 1) := by decide +kernel
theorem dX9_arePassed_19 : decode cX9_arePassed 19 = .ok (.sipush 9999, 3) := by decide +kernel
theorem dX9_arePassed_22 : decode cX9_arePassed 22 = .ok (.if_icmp .ne 5, 3) := by decide +kernel
theorem dX9_arePassed_25 : decode cX9_arePassed 25 = .ok (.iconst 0, 1) := by decide +kernel
theorem dX9_arePassed_26 : decode cX9_arePassed 26 = .ok (.ireturn, 1) := by decide +kernel
theorem dX9_arePassed_27 : decode cX9_arePassed 27 = .ok (.aload_n 0, 1) := by decide +kernel
theorem dX9_arePassed_28 : decode cX9_arePassed 28 = .ok (.invokevirtual 376, 3) := by decide +kernel
theorem dX9_arePassed_31 : decode cX9_arePassed 31 = .ok (.aload_n 0, 1) := by decide +kernel
theorem dX9_arePassed_32 : decode cX9_arePassed 32 = .ok (.invokevirtual 385, 3) := by decide +kernel
theorem dX9_arePassed_35 : decode cX9_arePassed 35 = .ok (.iinc 2 1, 3) := by decide +kernel
theorem dX9_arePassed_38 : decode cX9_arePassed 38 = .ok (.goto (-31), 3) := by decide +kernel
theorem dX9_arePassed_41 : decode cX9_arePassed 41 = .ok (.iconst 1, 1) := by decide +kernel
theorem dX9_arePassed_42 : decode cX9_arePassed 42 = .ok (.ireturn, 1) := by decide +kernel
theorem dX9_evening_0 : decode cX9_evening 0 = .ok (.iload_n 1, 1) := by decide +kernel
theorem dX9_evening_1 : decode cX9_evening 1 = .ok (.iconst 1, 1) := by decide +kernel
theorem dX9_evening_2 : decode cX9_evening 2 = .ok (.bipush 40, 2) := by decide +kernel
theorem dX9_evening_4 : decode cX9_evening 4 = .ok (.invokestatic 78, 3) := by decide +kernel
theorem dX9_evening_7 : decode cX9_evening 7 = .ok (.ifCond .eq 33, 3) := by decide +kernel
theorem dX9_evening_10 : decode cX9_evening 10 = .ok (.aload_n 0, 1) := by decide +kernel
theorem dX9_evening_11 : decode cX9_evening 11 = .ok (.getfield 7, 3) := by decide +kernel
theorem dX9_evening_14 : decode cX9_evening 14 = .ok (.bipush 6, 2) := by decide +kernel
theorem dX9_evening_16 : decode cX9_evening 16 = .ok (.iaload, 1) := by decide +kernel
theorem dX9_evening_17 : decode cX9_evening 17 = .ok (.iload_n 1, 1) := by decide +kernel
theorem dX9_evening_18 : decode cX9_evening 18 = .ok (.iadd, 1) := by decide +kernel
theorem dX9_evening_19 : decode cX9_evening 19 = .ok (.sipush 9999, 3) := by decide +kernel
theorem dX9_evening_22 : decode cX9_evening 22 = .ok (.if_icmp .gt 18, 3) := by decide +kernel
theorem dX9_evening_25 : decode cX9_evening 25 = .ok (.aload_n 0, 1) := by decide +kernel
theorem dX9_evening_26 : decode cX9_evening 26 = .ok (.iload_n 1, 1) := by decide +kernel
theorem dX9_evening_27 : decode cX9_evening 27 = .ok (.invokevirtual 388, 3) := by decide +kernel
theorem dX9_evening_30 : decode cX9_evening 30 = .ok (.ifCond .eq 10, 3) := by decide +kernel
theorem dX9_evening_33 : decode cX9_evening 33 = .ok (.aload_n 0, 1) := by decide +kernel
theorem dX9_evening_34 : decode cX9_evening 34 = .ok (.getfield 355, 3) := by decide +kernel
theorem dX9_evening_37 : decode cX9_evening 37 = .ok (.goto 4, 3) := by decide +kernel
theorem dX9_evening_40 : decode cX9_evening 40 = .ok (.iconst (-1), 1) := by decide +kernel
theorem dX9_evening_41 : decode cX9_evening 41 = .ok (.ireturn, 1) := by decide +kernel
theorem dX9_isPlayed_0 : decode cX9_isPlayed 0 = .ok (.aload_n 0, 1) := by decide +kernel
theorem dX9_isPlayed_1 : decode cX9_isPlayed 1 = .ok (.getfield 16, 3) := by decide +kernel
theorem dX9_isPlayed_4 : decode cX9_isPlayed 4 = .ok (.iload_n 1, 1) := by decide +kernel
theorem dX9_isPlayed_5 : decode cX9_isPlayed 5 = .ok (.iconst 1, 1) := by decide +kernel
theorem dX9_isPlayed_6 : decode cX9_isPlayed 6 = .ok (.iadd, 1) := by decide +kernel
theorem dX9_isPlayed_7 : decode cX9_isPlayed 7 = .ok (.iaload, 1) := by decide +kernel
theorem dX9_isPlayed_8 : decode cX9_isPlayed 8 = .ok (.istore_n 2, 1) := by decide +kernel
theorem dX9_isPlayed_9 : decode cX9_isPlayed 9 = .ok (.aload_n 0, 1) := by decide +kernel
theorem dX9_isPlayed_10 : decode cX9_isPlayed 10 = .ok (.getfield 16, 3) := by decide +kernel
theorem dX9_isPlayed_13 : decode cX9_isPlayed 13 = .ok (.iload_n 1, 1) := by decide +kernel
theorem dX9_isPlayed_14 : decode cX9_isPlayed 14 = .ok (.iconst 2, 1) := by decide +kernel
theorem dX9_isPlayed_15 : decode cX9_isPlayed 15 = .ok (.iadd, 1) := by decide +kernel
theorem dX9_isPlayed_16 : decode cX9_isPlayed 16 = .ok (.iaload, 1) := by decide +kernel
theorem dX9_isPlayed_17 : decode cX9_isPlayed 17 = .ok (.istore_n 3, 1) := by decide +kernel
theorem dX9_isPlayed_18 : decode cX9_isPlayed 18 = .ok (.aload_n 0, 1) := by decide +kernel
theorem dX9_isPlayed_19 : decode cX9_isPlayed 19 = .ok (.getfield 16, 3) := by decide +kernel
theorem dX9_isPlayed_22 : decode cX9_isPlayed 22 = .ok (.iload_n 1, 1) := by decide +kernel
theorem dX9_isPlayed_23 : decode cX9_isPlayed 23 = .ok (.iaload, 1) := by decide +kernel
theorem dX9_isPlayed_24 : decode cX9_isPlayed 24 = .ok (.tableswitch 107 3 9 #[44, 59, 66, 81, 88, 95, 101], 44) := by decide +kernel
theorem dX9_isPlayed_68 : decode cX9_isPlayed 68 = .ok (.aload_n 0, 1) := by decide +kernel
theorem dX9_isPlayed_69 : decode cX9_isPlayed 69 = .ok (.iload_n 2, 1) := by decide +kernel
theorem dX9_isPlayed_70 : decode cX9_isPlayed 70 = .ok (.iload_n 3, 1) := by decide +kernel
theorem dX9_isPlayed_71 : decode cX9_isPlayed 71 = .ok (.aload_n 0, 1) := by decide +kernel
theorem dX9_isPlayed_72 : decode cX9_isPlayed 72 = .ok (.getfield 16, 3) := by decide +kernel
theorem dX9_isPlayed_75 : decode cX9_isPlayed 75 = .ok (.iload_n 1, 1) := by decide +kernel
theorem dX9_isPlayed_76 : decode cX9_isPlayed 76 = .ok (.iconst 3, 1) := by decide +kernel
theorem dX9_isPlayed_77 : decode cX9_isPlayed 77 = .ok (.iadd, 1) := by decide +kernel
theorem dX9_isPlayed_78 : decode cX9_isPlayed 78 = .ok (.iaload, 1) := by decide +kernel
theorem dX9_isPlayed_79 : decode cX9_isPlayed 79 = .ok (.invokevirtual 391, 3) := by decide +kernel
theorem dX9_isPlayed_82 : decode cX9_isPlayed 82 = .ok (.ireturn, 1) := by decide +kernel
theorem dX9_isPlayed_83 : decode cX9_isPlayed 83 = .ok (.aload_n 0, 1) := by decide +kernel
theorem dX9_isPlayed_84 : decode cX9_isPlayed 84 = .ok (.iload_n 3, 1) := by decide +kernel
theorem dX9_isPlayed_85 : decode cX9_isPlayed 85 = .ok (.iload_n 2, 1) := by decide +kernel
theorem dX9_isPlayed_86 : decode cX9_isPlayed 86 = .ok (.invokevirtual 394, 3) := by decide +kernel
theorem dX9_isPlayed_89 : decode cX9_isPlayed 89 = .ok (.ireturn, 1) := by decide +kernel
theorem dX9_isPlayed_90 : decode cX9_isPlayed 90 = .ok (.aload_n 0, 1) := by decide +kernel
theorem dX9_isPlayed_91 : decode cX9_isPlayed 91 = .ok (.iload_n 2, 1) := by decide +kernel
theorem dX9_isPlayed_92 : decode cX9_isPlayed 92 = .ok (.iload_n 3, 1) := by decide +kernel
theorem dX9_isPlayed_93 : decode cX9_isPlayed 93 = .ok (.invokevirtual 397, 3) := by decide +kernel
theorem dX9_isPlayed_96 : decode cX9_isPlayed 96 = .ok (.ifCond .lt 7, 3) := by decide +kernel
theorem dX9_isPlayed_99 : decode cX9_isPlayed 99 = .ok (.iconst 1, 1) := by decide +kernel
theorem dX9_isPlayed_100 : decode cX9_isPlayed 100 = .ok (.goto 4, 3) := by decide +kernel
theorem dX9_isPlayed_103 : decode cX9_isPlayed 103 = .ok (.iconst 0, 1) := by decide +kernel
theorem dX9_isPlayed_104 : decode cX9_isPlayed 104 = .ok (.ireturn, 1) := by decide +kernel
theorem dX9_isPlayed_105 : decode cX9_isPlayed 105 = .ok (.aload_n 0, 1) := by decide +kernel
theorem dX9_isPlayed_106 : decode cX9_isPlayed 106 = .ok (.iload_n 2, 1) := by decide +kernel
theorem dX9_isPlayed_107 : decode cX9_isPlayed 107 = .ok (.iload_n 3, 1) := by decide +kernel
theorem dX9_isPlayed_108 : decode cX9_isPlayed 108 = .ok (.invokevirtual 400, 3) := by decide +kernel
theorem dX9_isPlayed_111 : decode cX9_isPlayed 111 = .ok (.ireturn, 1) := by decide +kernel
theorem dX9_isPlayed_112 : decode cX9_isPlayed 112 = .ok (.aload_n 0, 1) := by decide +kernel
theorem dX9_isPlayed_113 : decode cX9_isPlayed 113 = .ok (.iload_n 2, 1) := by decide +kernel
theorem dX9_isPlayed_114 : decode cX9_isPlayed 114 = .ok (.iload_n 3, 1) := by decide +kernel
theorem dX9_isPlayed_115 : decode cX9_isPlayed 115 = .ok (.invokevirtual 403, 3) := by decide +kernel
theorem dX9_isPlayed_118 : decode cX9_isPlayed 118 = .ok (.ireturn, 1) := by decide +kernel
theorem dX9_isPlayed_119 : decode cX9_isPlayed 119 = .ok (.aload_n 0, 1) := by decide +kernel
theorem dX9_isPlayed_120 : decode cX9_isPlayed 120 = .ok (.iload_n 2, 1) := by decide +kernel
theorem dX9_isPlayed_121 : decode cX9_isPlayed 121 = .ok (.invokevirtual 406, 3) := by decide +kernel
theorem dX9_isPlayed_124 : decode cX9_isPlayed 124 = .ok (.ireturn, 1) := by decide +kernel
theorem dX9_isPlayed_125 : decode cX9_isPlayed 125 = .ok (.aload_n 0, 1) := by decide +kernel
theorem dX9_isPlayed_126 : decode cX9_isPlayed 126 = .ok (.iload_n 2, 1) := by decide +kernel
theorem dX9_isPlayed_127 : decode cX9_isPlayed 127 = .ok (.invokevirtual 388, 3) := by decide +kernel
theorem dX9_isPlayed_130 : decode cX9_isPlayed 130 = .ok (.ireturn, 1) := by decide +kernel
theorem dX9_isPlayed_131 : decode cX9_isPlayed 131 = .ok (.iconst 1, 1) := by decide +kernel
theorem dX9_isPlayed_132 : decode cX9_isPlayed 132 = .ok (.ireturn, 1) := by decide +kernel
theorem dX9_played_0 : decode cX9_played 0 = .ok (.iload_n 1, 1) := by decide +kernel
theorem dX9_played_1 : decode cX9_played 1 = .ok (.iconst 0, 1) := by decide +kernel
theorem dX9_played_2 : decode cX9_played 2 = .ok (.aload_n 0, 1) := by decide +kernel
theorem dX9_played_3 : decode cX9_played 3 = .ok (.getfield 7, 3) := by decide +kernel
theorem dX9_played_6 : decode cX9_played 6 = .ok (.iconst 1, 1) := by decide +kernel
theorem dX9_played_7 : decode cX9_played 7 = .ok (.iaload, 1) := by decide +kernel
theorem dX9_played_8 : decode cX9_played 8 = .ok (.iconst 1, 1) := by decide +kernel
theorem dX9_played_9 : decode cX9_played 9 = .ok (.isub, 1) := by decide +kernel
theorem dX9_played_10 : decode cX9_played 10 = .ok (.invokestatic 78, 3) := by decide +kernel
theorem dX9_played_13 : decode cX9_played 13 = .ok (.ifCond .ne 6, 3) := by decide +kernel
theorem dX9_played_16 : decode cX9_played 16 = .ok (.bipush (-2), 2) := by decide +kernel
theorem dX9_played_18 : decode cX9_played 18 = .ok (.ireturn, 1) := by decide +kernel
theorem dX9_played_19 : decode cX9_played 19 = .ok (.iconst 0, 1) := by decide +kernel
theorem dX9_played_20 : decode cX9_played 20 = .ok (.istore_n 2, 1) := by decide +kernel
theorem dX9_played_21 : decode cX9_played 21 = .ok (.iload_n 2, 1) := by decide +kernel
theorem dX9_played_22 : decode cX9_played 22 = .ok (.aload_n 0, 1) := by decide +kernel
theorem dX9_played_23 : decode cX9_played 23 = .ok (.getfield 16, 3) := by decide +kernel
theorem dX9_played_26 : decode cX9_played 26 = .ok (.sipush 705, 3) := by decide +kernel
theorem dX9_played_29 : decode cX9_played 29 = .ok (.iload_n 1, 1) := by decide +kernel
theorem dX9_played_30 : decode cX9_played 30 = .ok (.imul, 1) := by decide +kernel
theorem dX9_played_31 : decode cX9_played 31 = .ok (.iaload, 1) := by decide +kernel
theorem dX9_played_32 : decode cX9_played 32 = .ok (.if_icmp .ge 29, 3) := by decide +kernel
theorem dX9_played_35 : decode cX9_played 35 = .ok (.aload_n 0, 1) := by decide +kernel
theorem dX9_played_36 : decode cX9_played 36 = .ok (.sipush 705, 3) := by decide +kernel
theorem dX9_played_39 : decode cX9_played 39 = .ok (.iload_n 1, 1) := by decide +kernel
theorem dX9_played_40 : decode cX9_played 40 = .ok (.imul, 1) := by decide +kernel
theorem dX9_played_41 : decode cX9_played 41 = .ok (.iconst 1, 1) := by decide +kernel
theorem dX9_played_42 : decode cX9_played 42 = .ok (.iadd, 1) := by decide +kernel
theorem dX9_played_43 : decode cX9_played 43 = .ok (.iconst 4, 1) := by decide +kernel
theorem dX9_played_44 : decode cX9_played 44 = .ok (.iload_n 2, 1) := by decide +kernel
theorem dX9_played_45 : decode cX9_played 45 = .ok (.imul, 1) := by decide +kernel
theorem dX9_played_46 : decode cX9_played 46 = .ok (.iadd, 1) := by decide +kernel
theorem dX9_played_47 : decode cX9_played 47 = .ok (.invokevirtual 409, 3) := by decide +kernel
theorem dX9_played_50 : decode cX9_played 50 = .ok (.ifCond .ne 5, 3) := by decide +kernel
theorem dX9_played_53 : decode cX9_played 53 = .ok (.iload_n 2, 1) := by decide +kernel
theorem dX9_played_54 : decode cX9_played 54 = .ok (.ireturn, 1) := by decide +kernel
theorem dX9_played_55 : decode cX9_played 55 = .ok (.iinc 2 1, 3) := by decide +kernel
theorem dX9_played_58 : decode cX9_played 58 = .ok (.goto (-37), 3) := by decide +kernel
theorem dX9_played_61 : decode cX9_played 61 = .ok (.iconst (-1), 1) := by decide +kernel
theorem dX9_played_62 : decode cX9_played 62 = .ok (.ireturn, 1) := by decide +kernel
section
variable {p : Program} {l : Launch} {e : Env} {R : Room} {s : State} {m : MethodId} {args : Array Value} {below : List Frame} {meth : Method} {c : Code} {Q : State → Prop} {V : g_V} {nf nl : Nat}
set_option maxRecDepth 100000 in
set_option maxHeartbeats 4000000 in
theorem b_X9_show (C : g_CX mG V p R s m args meth c cX9_show 4 (some .int) RX9 5 122) {res : Int × g_M} (hR : g_RetI mG V p l e R s m args below meth c Q cX9_show .int res.1 res.2) {a1 : Int} {M : g_M} {H : Heap} {locs : List Loc} {ls : Array Slot} (h : m_X9_show a1 M = some res) (hp : g_PT mG V M s H locs) (hl : lv_has ls 4 [(0, .ref (V.2.2 0)), (1, .int (gI a1))]) : W p l e R s m args below meth c H locs 0 0 Q (F0 m 0 ls []) := by
  unfold m_X9_show at h
  refine lv_aload_n C.1 C.2.1 dX9_show_0 rfl (lv_at hl 0 rfl) ?_
  refine lv_iload_n C.1 C.2.1 dX9_show_1 rfl (lv_at hl 1 rfl) ?_
  refine lv_aload_n C.1 C.2.1 dX9_show_2 rfl (lv_at hl 0 rfl) ?_
  refine r_getr (t := 1) C hp mk_0 ms_0 mc_0 min_0 (j := 0) (by decide) rfl gw_1256 rfl dX9_show_3 ?_
  refine r_bipush C dX9_show_6 (by decide +kernel) ?_
  refine r_iald C hp h mk_1 ms_1 dX9_show_8 (fun h => ?_)
  refine r_bipush C dX9_show_9 (by decide +kernel) ?_
  refine r_irem C h dX9_show_11 (fun h => ?_)
  obtain ⟨x11, M12, hr, h⟩ := bW_of h
  refine r_callVI (As := [.int (gI a1), .int (gI (g_rem (M 1 (gs 7).toNat) 10))]) (rest := []) C hl.1 hp (c_X9_cueOf l C.2.2.2.2.2.2.2.2.2.2.2 hr) gw_1631 gw_1633 gw_86 mk_0 ms_0 mc_0 cal_X9_cueOf rfl rfl (Nat.le_of_ble_eq_true rfl) ⟨Nat.le_of_ble_eq_true rfl, Nat.le_of_ble_eq_true rfl⟩ dX9_show_12 (fun H locs hp => ?_)
  refine r_istore_n (lv' := fun x13 => [(2, .int (gI x13)), (0, .ref (V.2.2 0)), (1, .int (gI a1))]) C h dX9_show_15 rfl hl (by decide) (fun _ => rfl) (fun x13 ls h hl => ?_)
  refine lv_aload_n C.1 C.2.1 dX9_show_16 rfl (lv_at hl 1 rfl) ?_
  obtain ⟨M14, hr, h⟩ := bd_of h
  refine r_callVV (As := []) (rest := []) C hl.1 hp (c_X9_anew l C.2.2.2.2.2.2.2.2.2.2.2 hr) gw_1680 gw_1682 gw_92 mk_0 ms_0 mc_0 cal_X9_anew rfl rfl (Nat.le_of_ble_eq_true rfl) ⟨Nat.le_of_ble_eq_true rfl, Nat.le_of_ble_eq_true rfl⟩ dX9_show_17 (fun H locs hp => ?_)
  refine lv_aload_n C.1 C.2.1 dX9_show_20 rfl (lv_at hl 1 rfl) ?_
  refine r_getr (t := 1) C hp mk_0 ms_0 mc_0 min_0 (j := 0) (by decide) rfl gw_1256 rfl dX9_show_21 ?_
  refine r_bipush C dX9_show_24 (by decide +kernel) ?_
  refine lv_iload_n C.1 C.2.1 dX9_show_26 rfl (lv_at hl 2 rfl) ?_
  refine r_iadd C dX9_show_27 ?_
  refine lv_aload_n C.1 C.2.1 dX9_show_28 rfl (lv_at hl 1 rfl) ?_
  refine r_getr (t := 1) C hp mk_0 ms_0 mc_0 min_0 (j := 0) (by decide) rfl gw_1256 rfl dX9_show_29 ?_
  refine r_bipush C dX9_show_32 (by decide +kernel) ?_
  refine lv_iload_n C.1 C.2.1 dX9_show_34 rfl (lv_at hl 2 rfl) ?_
  refine r_iadd C dX9_show_35 ?_
  refine r_iald C hp h mk_1 ms_1 dX9_show_36 (fun h => ?_)
  refine r_iconst C dX9_show_37 ?_
  refine r_iadd C dX9_show_38 ?_
  refine r_i2l C dX9_show_39 ?_
  refine r_iconst C dX9_show_40 ?_
  refine r_sipush C dX9_show_41 (by decide +kernel) ?_
  obtain ⟨x15, hr, h⟩ := bd_of h
  refine r_callSI (As := [.long (gJ (gs ((M14 1 (gs (10 + a1)).toNat) + 1))), .int (gI 0), .int (gI 9999)]) (rest := [.int (gI (10 + a1)), .ref (V.2.2 1)]) C hl.1 hp (c_X9_cut l C.2.2.2.2.2.2.2.2.2.2.2 hr) gw_1677 gw_1678 cal_X9_cut rfl rfl (Nat.le_of_ble_eq_true rfl) ⟨Nat.le_of_ble_eq_true rfl, Nat.le_of_ble_eq_true rfl⟩ dX9_show_44 (fun H locs hp => ?_)
  refine r_iast C hp h mk_1 ms_1 dX9_show_47 (fun M16 H locs h hp => ?_)
  refine lv_aload_n C.1 C.2.1 dX9_show_48 rfl (lv_at hl 1 rfl) ?_
  refine lv_iload_n C.1 C.2.1 dX9_show_49 rfl (lv_at hl 2 rfl) ?_
  refine lv_iload_n C.1 C.2.1 dX9_show_50 rfl (lv_at hl 0 rfl) ?_
  obtain ⟨x17, hr, h⟩ := bd_of h
  refine r_callVI (As := [.int (gI a1), .int (gI x13)]) (rest := []) C hl.1 hp (c_X9_nextOf l C.2.2.2.2.2.2.2.2.2.2.2 hr) gw_1603 gw_1605 gw_81 mk_0 ms_0 mc_0 cal_X9_nextOf rfl rfl (Nat.le_of_ble_eq_true rfl) ⟨Nat.le_of_ble_eq_true rfl, Nat.le_of_ble_eq_true rfl⟩ dX9_show_51 (fun H locs hp => ?_)
  refine r_istore_n (lv' := fun x18 => [(3, .int (gI x18)), (2, .int (gI x13)), (0, .ref (V.2.2 0)), (1, .int (gI a1))]) C h dX9_show_54 rfl hl (by decide) (fun _ => rfl) (fun x18 ls h hl => ?_)
  refine lv_iload_n C.1 C.2.1 dX9_show_55 rfl (lv_at hl 1 rfl) ?_
  refine r_if_eq (tgt := 82) C h dX9_show_56 (by decide) (fun h => ?_) (fun h => ?_)
  · refine lv_iload_n C.1 C.2.1 dX9_show_82 rfl (lv_at hl 0 rfl) ?_
    cases h
    exact hR _ _ _ _ dX9_show_83 rfl hp
  · refine lv_aload_n C.1 C.2.1 dX9_show_59 rfl (lv_at hl 2 rfl) ?_
    refine lv_iload_n C.1 C.2.1 dX9_show_60 rfl (lv_at hl 3 rfl) ?_
    refine lv_iload_n C.1 C.2.1 dX9_show_61 rfl (lv_at hl 1 rfl) ?_
    refine lv_iload_n C.1 C.2.1 dX9_show_62 rfl (lv_at hl 0 rfl) ?_
    obtain ⟨x19, M20, hr, h⟩ := bW_of h
    refine r_callVI (As := [.int (gI a1), .int (gI x13), .int (gI x18)]) (rest := []) C hl.1 hp (c_X9_staysOf l C.2.2.2.2.2.2.2.2.2.2.2 hr) gw_1687 gw_1689 gw_93 mk_0 ms_0 mc_0 cal_X9_staysOf rfl rfl (Nat.le_of_ble_eq_true rfl) ⟨Nat.le_of_ble_eq_true rfl, Nat.le_of_ble_eq_true rfl⟩ dX9_show_63 (fun H locs hp => ?_)
    refine r_if_eq (tgt := 82) C h dX9_show_66 (by decide) (fun h => ?_) (fun h => ?_)
    · refine lv_iload_n C.1 C.2.1 dX9_show_82 rfl (lv_at hl 0 rfl) ?_
      cases h
      exact hR _ _ _ _ dX9_show_83 rfl hp
    · refine lv_aload_n C.1 C.2.1 dX9_show_69 rfl (lv_at hl 2 rfl) ?_
      refine r_getr (t := 1) C hp mk_0 ms_0 mc_0 min_0 (j := 0) (by decide) rfl gw_1256 rfl dX9_show_70 ?_
      refine r_bipush C dX9_show_73 (by decide +kernel) ?_
      refine lv_iload_n C.1 C.2.1 dX9_show_75 rfl (lv_at hl 3 rfl) ?_
      refine r_iadd C dX9_show_76 ?_
      refine r_iald C hp h mk_1 ms_1 dX9_show_77 (fun h => ?_)
      refine lv_iload_n C.1 C.2.1 dX9_show_78 rfl (lv_at hl 0 rfl) ?_
      refine r_icmp_ne (tgt := 84) C h dX9_show_79 (by decide) (fun h => ?_) (fun h => ?_)
      · refine lv_aload_n C.1 C.2.1 dX9_show_84 rfl (lv_at hl 2 rfl) ?_
        refine r_getr (t := 1) C hp mk_0 ms_0 mc_0 min_0 (j := 0) (by decide) rfl gw_1256 rfl dX9_show_85 ?_
        refine r_bipush C dX9_show_88 (by decide +kernel) ?_
        refine lv_iload_n C.1 C.2.1 dX9_show_90 rfl (lv_at hl 3 rfl) ?_
        refine r_iadd C dX9_show_91 ?_
        refine lv_iload_n C.1 C.2.1 dX9_show_92 rfl (lv_at hl 0 rfl) ?_
        refine r_iast C hp h mk_1 ms_1 dX9_show_93 (fun M21 H locs h hp => ?_)
        refine lv_aload_n C.1 C.2.1 dX9_show_94 rfl (lv_at hl 2 rfl) ?_
        refine lv_dup C.1 C.2.1 dX9_show_95 rfl ?_
        refine r_geti (t := 0) C hp mk_0 ms_0 mc_0 min_0 (j := 25) (by decide) rfl gw_1281 rfl dX9_show_96 ?_
        refine r_iconst C dX9_show_99 ?_
        refine r_iadd C dX9_show_100 ?_
        refine r_puti C hp h mk_0 ms_0 mc_0 min_0 tyX9 tyX9_ok nmX9 (j := 25) (by decide) rfl gw_1281 rfl rfl rfl dX9_show_101 (fun M22 H locs h hp => ?_)
        refine lv_iload_n C.1 C.2.1 dX9_show_104 rfl (lv_at hl 0 rfl) ?_
        cases h
        exact hR _ _ _ _ dX9_show_105 rfl hp
      · refine lv_iload_n C.1 C.2.1 dX9_show_82 rfl (lv_at hl 0 rfl) ?_
        cases h
        exact hR _ _ _ _ dX9_show_83 rfl hp
theorem c_X9_show (l : Launch) {V : g_V} (hok : g_ok mG V) {a1 : Int} {M : g_M} {x : Int} {M2 : g_M} (h : m_X9_show a1 M = some (x, M2)) : MetI mG V l yX9_show cX9_show 4 (some .int) 5 122 [.ref (V.2.2 0), .int (gI a1)] M x M2 :=
  g_metI hok cal_X9_show.2.2.2 rfl (Nat.le_of_ble_eq_true rfl) (@fun p e R s m args below meth c Q ls C hR hp hl => b_X9_show C hR h hp hl)
set_option maxRecDepth 100000 in
set_option maxHeartbeats 4000000 in
theorem w_X9_gladden_L26 (C : g_CX mG V p R s m args meth c cX9_gladden 3 none RX9 5 122) {res : g_M} (hR : g_RetV mG V p l e R s m args below meth c Q cX9_gladden res) (x14 : Int) (k17 : g_M → Option (g_M)) (hk17 : ∀ (M27 : g_M) (H : Heap) (locs : List Loc) (ls : Array Slot), k17 M27 = some res → g_PT mG V M27 s H locs → lv_has ls 3 [(0, .ref (V.2.2 0))] → W p l e R s m args below meth c H locs 0 0 Q (F0 m 82 ls [])) : ∀ (f : Nat) (x15 : Int) (M16 : g_M) (H : Heap) (locs : List Loc) (ls : Array Slot), m_X9_gladden_L26 x14 k17 f x15 M16 = some res → g_PT mG V M16 s H locs → lv_has ls 3 [(0, .ref (V.2.2 0)), (1, .int (gI x14)), (2, .int (gI x15))] → W p l e R s m args below meth c H locs 0 0 Q (F0 m 26 ls []) := by
  intro f
  induction f with
  | zero => intro x15 M16 H locs ls h hp hl; cases h
  | succ f ih =>
    intro x15 M16 H locs ls h hp hl
    rw [m_X9_gladden_L26] at h
    refine lv_iload_n C.1 C.2.1 dX9_gladden_26 rfl (lv_at hl 2 rfl) ?_
    refine lv_aload_n C.1 C.2.1 dX9_gladden_27 rfl (lv_at hl 0 rfl) ?_
    refine r_getr (t := 1) C hp mk_0 ms_0 mc_0 min_0 (j := 0) (by decide) rfl gw_1256 rfl dX9_gladden_28 ?_
    refine r_iconst C dX9_gladden_31 ?_
    refine r_iald C hp h mk_1 ms_1 dX9_gladden_32 (fun h => ?_)
    refine r_icmp_ge (tgt := 82) C h dX9_gladden_33 (by decide) (fun h => ?_) (fun h => ?_)
    · exact hk17 _ _ _ _ h hp (lv_sub hl [0] rfl)
    · refine r_jn (P := fun J => ∀ (M25 : g_M) (H : Heap) (locs : List Loc) (ls : Array Slot), J M25 = some res → g_PT mG V M25 s H locs → lv_has ls 3 [(0, .ref (V.2.2 0)), (1, .int (gI x14)), (2, .int (gI x15))] → W p l e R s m args below meth c H locs 0 0 Q (F0 m 76 ls [])) h ?_ (fun J18 hJ18 h => ?_)
      · intro M25 H locs ls h hp hl
        refine r_iinc (lv' := fun x26 => [(2, .int (gI x26)), (0, .ref (V.2.2 0)), (1, .int (gI x14))]) C h dX9_gladden_76 hl (j := 2) rfl (by decide) (fun _ => rfl) (fun x26 ls h hl => ?_)
        refine r_goto (tgt := 26) C dX9_gladden_79 (by decide) ?_
        exact ih _ _ _ _ _ h hp (lv_sub hl [1, 2, 0] rfl)
      refine lv_aload_n C.1 C.2.1 dX9_gladden_36 rfl (lv_at hl 0 rfl) ?_
      refine lv_iload_n C.1 C.2.1 dX9_gladden_37 rfl (lv_at hl 2 rfl) ?_
      obtain ⟨x19, hr, h⟩ := bd_of h
      refine r_callVI (As := [.int (gI x15)]) (rest := []) C hl.1 hp (c_X9_isSeen l C.2.2.2.2.2.2.2.2.2.2.2 hr) gw_1370 gw_1372 gw_44 mk_0 ms_0 mc_0 cal_X9_isSeen rfl rfl (Nat.le_of_ble_eq_true rfl) ⟨Nat.le_of_ble_eq_true rfl, Nat.le_of_ble_eq_true rfl⟩ dX9_gladden_38 (fun H locs hp => ?_)
      refine r_if_eq (tgt := 76) C h dX9_gladden_41 (by decide) (fun h => ?_) (fun h => ?_)
      · exact hJ18 _ _ _ _ h hp hl
      · refine lv_aload_n C.1 C.2.1 dX9_gladden_44 rfl (lv_at hl 0 rfl) ?_
        refine lv_iload_n C.1 C.2.1 dX9_gladden_45 rfl (lv_at hl 2 rfl) ?_
        refine r_iconst C dX9_gladden_46 ?_
        refine lv_aload_n C.1 C.2.1 dX9_gladden_47 rfl (lv_at hl 0 rfl) ?_
        refine lv_iload_n C.1 C.2.1 dX9_gladden_48 rfl (lv_at hl 2 rfl) ?_
        refine r_iconst C dX9_gladden_49 ?_
        obtain ⟨x20, hr, h⟩ := bd_of h
        refine r_callVI (As := [.int (gI x15), .int (gI 1)]) (rest := [.int (gI 1), .int (gI x15), .ref (V.2.2 0)]) C hl.1 hp (c_X9_get l C.2.2.2.2.2.2.2.2.2.2.2 hr) gw_1374 gw_1376 gw_45 mk_0 ms_0 mc_0 cal_X9_get rfl rfl (Nat.le_of_ble_eq_true rfl) ⟨Nat.le_of_ble_eq_true rfl, Nat.le_of_ble_eq_true rfl⟩ dX9_gladden_50 (fun H locs hp => ?_)
        refine lv_aload_n C.1 C.2.1 dX9_gladden_53 rfl (lv_at hl 0 rfl) ?_
        refine lv_aload_n C.1 C.2.1 dX9_gladden_54 rfl (lv_at hl 0 rfl) ?_
        refine r_getr (t := 1) C hp mk_0 ms_0 mc_0 min_0 (j := 0) (by decide) rfl gw_1256 rfl dX9_gladden_55 ?_
        refine r_iconst C dX9_gladden_58 ?_
        refine r_iald C hp h mk_1 ms_1 dX9_gladden_59 (fun h => ?_)
        refine lv_iload_n C.1 C.2.1 dX9_gladden_60 rfl (lv_at hl 2 rfl) ?_
        refine lv_iload_n C.1 C.2.1 dX9_gladden_61 rfl (lv_at hl 1 rfl) ?_
        obtain ⟨x21, M22, hr, h⟩ := bW_of h
        refine r_callVI (As := [.int (gI (M16 1 (gs 2).toNat)), .int (gI x15), .int (gI x14)]) (rest := [.int (gI x20), .int (gI 1), .int (gI x15), .ref (V.2.2 0)]) C hl.1 hp (c_X9_gladdensOf l C.2.2.2.2.2.2.2.2.2.2.2 hr) gw_1695 gw_1697 gw_95 mk_0 ms_0 mc_0 cal_X9_gladdensOf rfl rfl (Nat.le_of_ble_eq_true rfl) ⟨Nat.le_of_ble_eq_true rfl, Nat.le_of_ble_eq_true rfl⟩ dX9_gladden_62 (fun H locs hp => ?_)
        refine r_iadd C dX9_gladden_65 ?_
        refine r_i2l C dX9_gladden_66 ?_
        refine r_iconst C dX9_gladden_67 ?_
        refine r_bipush C dX9_gladden_68 (by decide +kernel) ?_
        obtain ⟨x23, hr, h⟩ := bd_of h
        refine r_callSI (As := [.long (gJ (gs (x20 + x21))), .int (gI 0), .int (gI 99)]) (rest := [.int (gI 1), .int (gI x15), .ref (V.2.2 0)]) C hl.1 hp (c_X9_cut l C.2.2.2.2.2.2.2.2.2.2.2 hr) gw_1677 gw_1678 cal_X9_cut rfl rfl (Nat.le_of_ble_eq_true rfl) ⟨Nat.le_of_ble_eq_true rfl, Nat.le_of_ble_eq_true rfl⟩ dX9_gladden_70 (fun H locs hp => ?_)
        obtain ⟨M24, hr, h⟩ := bd_of h
        refine r_callVV (As := [.int (gI x15), .int (gI 1), .int (gI x23)]) (rest := []) C hl.1 hp (c_X9_put l C.2.2.2.2.2.2.2.2.2.2.2 hr) gw_1399 gw_1401 gw_46 mk_0 ms_0 mc_0 cal_X9_put rfl rfl (Nat.le_of_ble_eq_true rfl) ⟨Nat.le_of_ble_eq_true rfl, Nat.le_of_ble_eq_true rfl⟩ dX9_gladden_73 (fun H locs hp => ?_)
        exact hJ18 _ _ _ _ h hp hl
set_option maxRecDepth 100000 in
set_option maxHeartbeats 4000000 in
theorem b_X9_gladden (C : g_CX mG V p R s m args meth c cX9_gladden 3 none RX9 5 122) {res : g_M} (hR : g_RetV mG V p l e R s m args below meth c Q cX9_gladden res) {a1 : Int} {M : g_M} {H : Heap} {locs : List Loc} {ls : Array Slot} (h : m_X9_gladden a1 M = some res) (hp : g_PT mG V M s H locs) (hl : lv_has ls 3 [(0, .ref (V.2.2 0)), (1, .int (gI a1))]) : W p l e R s m args below meth c H locs 0 0 Q (F0 m 0 ls []) := by
  unfold m_X9_gladden at h
  refine lv_aload_n C.1 C.2.1 dX9_gladden_0 rfl (lv_at hl 0 rfl) ?_
  refine r_getr (t := 1) C hp mk_0 ms_0 mc_0 min_0 (j := 0) (by decide) rfl gw_1256 rfl dX9_gladden_1 ?_
  refine r_bipush C dX9_gladden_4 (by decide +kernel) ?_
  refine lv_aload_n C.1 C.2.1 dX9_gladden_6 rfl (lv_at hl 0 rfl) ?_
  refine r_getr (t := 1) C hp mk_0 ms_0 mc_0 min_0 (j := 0) (by decide) rfl gw_1256 rfl dX9_gladden_7 ?_
  refine r_bipush C dX9_gladden_10 (by decide +kernel) ?_
  refine r_iald C hp h mk_1 ms_1 dX9_gladden_12 (fun h => ?_)
  refine r_iconst C dX9_gladden_13 ?_
  refine r_iadd C dX9_gladden_14 ?_
  refine r_i2l C dX9_gladden_15 ?_
  refine r_iconst C dX9_gladden_16 ?_
  refine r_sipush C dX9_gladden_17 (by decide +kernel) ?_
  obtain ⟨x11, hr, h⟩ := bd_of h
  refine r_callSI (As := [.long (gJ (gs ((M 1 (gs 8).toNat) + 1))), .int (gI 0), .int (gI 9999)]) (rest := [.int (gI 8), .ref (V.2.2 1)]) C hl.1 hp (c_X9_cut l C.2.2.2.2.2.2.2.2.2.2.2 hr) gw_1677 gw_1678 cal_X9_cut rfl rfl (Nat.le_of_ble_eq_true rfl) ⟨Nat.le_of_ble_eq_true rfl, Nat.le_of_ble_eq_true rfl⟩ dX9_gladden_20 (fun H locs hp => ?_)
  refine r_iast C hp h mk_1 ms_1 dX9_gladden_23 (fun M12 H locs h hp => ?_)
  refine r_iconst C dX9_gladden_24 ?_
  refine r_istore_n (lv' := fun x13 => [(2, .int (gI x13)), (0, .ref (V.2.2 0)), (1, .int (gI a1))]) C h dX9_gladden_25 rfl hl (by decide) (fun _ => rfl) (fun x13 ls h hl => ?_)
  refine w_X9_gladden_L26 C hR _ _ ?_ _ _ _ H locs ls h hp (lv_sub hl [1, 2, 0] rfl)
  · intro M28 H locs ls h hp hl
    refine lv_aload_n C.1 C.2.1 dX9_gladden_82 rfl (lv_at hl 0 rfl) ?_
    refine lv_dup C.1 C.2.1 dX9_gladden_83 rfl ?_
    refine r_geti (t := 0) C hp mk_0 ms_0 mc_0 min_0 (j := 24) (by decide) rfl gw_1280 rfl dX9_gladden_84 ?_
    refine r_iconst C dX9_gladden_87 ?_
    refine r_iadd C dX9_gladden_88 ?_
    refine r_puti C hp h mk_0 ms_0 mc_0 min_0 tyX9 tyX9_ok nmX9 (j := 24) (by decide) rfl gw_1280 rfl rfl rfl dX9_gladden_89 (fun M29 H locs h hp => ?_)
    cases h
    exact hR _ _ _ _ dX9_gladden_92 hp
theorem c_X9_gladden (l : Launch) {V : g_V} (hok : g_ok mG V) {a1 : Int} {M : g_M} {res : g_M} (h : m_X9_gladden a1 M = some res) : MetV mG V l yX9_gladden cX9_gladden 3 none 5 122 [.ref (V.2.2 0), .int (gI a1)] M res :=
  g_metV hok cal_X9_gladden.2.2.2 rfl (Nat.le_of_ble_eq_true rfl) (@fun p e R s m args below meth c Q ls C hR hp hl => b_X9_gladden C hR h hp hl)
set_option maxRecDepth 100000 in
set_option maxHeartbeats 4000000 in
theorem w_X9_pass_L9 (C : g_CX mG V p R s m args meth c cX9_pass 4 none RX9 6 145) {res : g_M} (hR : g_RetV mG V p l e R s m args below meth c Q cX9_pass res) (x14 : Int) (k18 : Int → Int → g_M → Option (g_M)) (hk18 : ∀ (x23 : Int) (x24 : Int) (M25 : g_M) (H : Heap) (locs : List Loc) (ls : Array Slot), k18 x23 x24 M25 = some res → g_PT mG V M25 s H locs → lv_has ls 4 [(0, .ref (V.2.2 0)), (1, .int (gI x14)), (2, .int (gI x23)), (3, .int (gI x24))] → W p l e R s m args below meth c H locs 0 0 Q (F0 m 33 ls [])) : ∀ (f : Nat) (x15 : Int) (x16 : Int) (M17 : g_M) (H : Heap) (locs : List Loc) (ls : Array Slot), m_X9_pass_L9 x14 k18 f x15 x16 M17 = some res → g_PT mG V M17 s H locs → lv_has ls 4 [(0, .ref (V.2.2 0)), (1, .int (gI x14)), (2, .int (gI x15)), (3, .int (gI x16))] → W p l e R s m args below meth c H locs 0 0 Q (F0 m 9 ls []) := by
  intro f
  induction f with
  | zero => intro x15 x16 M17 H locs ls h hp hl; cases h
  | succ f ih =>
    intro x15 x16 M17 H locs ls h hp hl
    rw [m_X9_pass_L9] at h
    refine lv_iload_n C.1 C.2.1 dX9_pass_9 rfl (lv_at hl 2 rfl) ?_
    refine r_bipush C dX9_pass_10 (by decide +kernel) ?_
    refine r_icmp_eq (tgt := 33) C h dX9_pass_12 (by decide) (fun h => ?_) (fun h => ?_)
    · exact hk18 _ _ _ _ _ _ h hp hl
    · refine lv_iload_n C.1 C.2.1 dX9_pass_15 rfl (lv_at hl 3 rfl) ?_
      refine r_bipush C dX9_pass_16 (by decide +kernel) ?_
      refine r_icmp_ge (tgt := 33) C h dX9_pass_18 (by decide) (fun h => ?_) (fun h => ?_)
      · exact hk18 _ _ _ _ _ _ h hp hl
      · refine lv_aload_n C.1 C.2.1 dX9_pass_21 rfl (lv_at hl 0 rfl) ?_
        refine lv_iload_n C.1 C.2.1 dX9_pass_22 rfl (lv_at hl 2 rfl) ?_
        obtain ⟨x19, M20, hr, h⟩ := bW_of h
        refine r_callVI (As := [.int (gI x15)]) (rest := []) C hl.1 hp (c_X9_show l C.2.2.2.2.2.2.2.2.2.2.2 hr) gw_1627 gw_1629 gw_85 mk_0 ms_0 mc_0 cal_X9_show rfl rfl (Nat.le_of_ble_eq_true rfl) ⟨Nat.le_of_ble_eq_true rfl, Nat.le_of_ble_eq_true rfl⟩ dX9_pass_23 (fun H locs hp => ?_)
        refine r_istore_n (lv' := fun x21 => [(2, .int (gI x21)), (0, .ref (V.2.2 0)), (1, .int (gI x14)), (3, .int (gI x16))]) C h dX9_pass_26 rfl hl (by decide) (fun _ => rfl) (fun x21 ls h hl => ?_)
        refine r_iinc (lv' := fun x22 => [(3, .int (gI x22)), (2, .int (gI x21)), (0, .ref (V.2.2 0)), (1, .int (gI x14))]) C h dX9_pass_27 hl (j := 3) rfl (by decide) (fun _ => rfl) (fun x22 ls h hl => ?_)
        refine r_goto (tgt := 9) C dX9_pass_30 (by decide) ?_
        exact ih _ _ _ _ _ _ h hp (lv_sub hl [2, 3, 1, 0] rfl)
set_option maxRecDepth 100000 in
set_option maxHeartbeats 4000000 in
theorem b_X9_pass (C : g_CX mG V p R s m args meth c cX9_pass 4 none RX9 6 145) {res : g_M} (hR : g_RetV mG V p l e R s m args below meth c Q cX9_pass res)  {M : g_M} {H : Heap} {locs : List Loc} {ls : Array Slot} (h : m_X9_pass M = some res) (hp : g_PT mG V M s H locs) (hl : lv_has ls 4 [(0, .ref (V.2.2 0))]) : W p l e R s m args below meth c H locs 0 0 Q (F0 m 0 ls []) := by
  unfold m_X9_pass at h
  refine lv_aload_n C.1 C.2.1 dX9_pass_0 rfl (lv_at hl 0 rfl) ?_
  refine r_geti (t := 0) C hp mk_0 ms_0 mc_0 min_0 (j := 25) (by decide) rfl gw_1281 rfl dX9_pass_1 ?_
  refine r_istore_n (lv' := fun x11 => [(1, .int (gI x11)), (0, .ref (V.2.2 0))]) C h dX9_pass_4 rfl hl (by decide) (fun _ => rfl) (fun x11 ls h hl => ?_)
  refine r_iconst C dX9_pass_5 ?_
  refine r_istore_n (lv' := fun x12 => [(2, .int (gI x12)), (1, .int (gI x11)), (0, .ref (V.2.2 0))]) C h dX9_pass_6 rfl hl (by decide) (fun _ => rfl) (fun x12 ls h hl => ?_)
  refine r_iconst C dX9_pass_7 ?_
  refine r_istore_n (lv' := fun x13 => [(3, .int (gI x13)), (2, .int (gI x12)), (1, .int (gI x11)), (0, .ref (V.2.2 0))]) C h dX9_pass_8 rfl hl (by decide) (fun _ => rfl) (fun x13 ls h hl => ?_)
  refine w_X9_pass_L9 C hR _ _ ?_ _ _ _ _ H locs ls h hp (lv_sub hl [3, 2, 1, 0] rfl)
  · intro x26 x27 M28 H locs ls h hp hl
    refine r_jn (P := fun J => ∀ (M31 : g_M) (H : Heap) (locs : List Loc) (ls : Array Slot), J M31 = some res → g_PT mG V M31 s H locs → lv_has ls 4 [(0, .ref (V.2.2 0)), (1, .int (gI x11)), (2, .int (gI x26)), (3, .int (gI x27))] → W p l e R s m args below meth c H locs 0 0 Q (F0 m 44 ls [])) h ?_ (fun J29 hJ29 h => ?_)
    · intro M31 H locs ls h hp hl
      refine r_jn (P := fun J => ∀ (x34 : Int) (x35 : Int) (M36 : g_M) (H : Heap) (locs : List Loc) (ls : Array Slot), J x34 x35 M36 = some res → g_PT mG V M36 s H locs → lv_has ls 4 [(0, .ref (V.2.2 0)), (1, .int (gI x11))] → W p l e R s m args below meth c H locs 0 0 Q (F0 m 62 ls [.int (gI x34), .int (gI x35), .ref (V.2.2 0)])) h ?_ (fun J32 hJ32 h => ?_)
      · intro x34 x35 M36 H locs ls h hp hl
        refine lv_aload_n C.1 C.2.1 dX9_pass_62 rfl (lv_at hl 0 rfl) ?_
        refine r_geti (t := 0) C hp mk_0 ms_0 mc_0 min_0 (j := 25) (by decide) rfl gw_1281 rfl dX9_pass_63 ?_
        refine lv_iload_n C.1 C.2.1 dX9_pass_66 rfl (lv_at hl 1 rfl) ?_
        refine r_isub C dX9_pass_67 ?_
        obtain ⟨M37, hr, h⟩ := bd_of h
        refine r_callVV (As := [.int (gI x35), .int (gI x34), .int (gI ((M36 0 25) - x11))]) (rest := []) C hl.1 hp (c_X9_write l C.2.2.2.2.2.2.2.2.2.2.2 hr) gw_1699 gw_1701 gw_96 mk_0 ms_0 mc_0 cal_X9_write rfl rfl (Nat.le_of_ble_eq_true rfl) ⟨Nat.le_of_ble_eq_true rfl, Nat.le_of_ble_eq_true rfl⟩ dX9_pass_68 (fun H locs hp => ?_)
        refine lv_aload_n C.1 C.2.1 dX9_pass_71 rfl (lv_at hl 0 rfl) ?_
        refine r_getr (t := 1) C hp mk_0 ms_0 mc_0 min_0 (j := 0) (by decide) rfl gw_1256 rfl dX9_pass_72 ?_
        refine r_bipush C dX9_pass_75 (by decide +kernel) ?_
        refine lv_dup2_11 C.1 C.2.1 dX9_pass_77 rfl rfl ?_
        refine r_iald C hp h mk_1 ms_1 dX9_pass_78 (fun h => ?_)
        refine r_iconst C dX9_pass_79 ?_
        refine r_iadd C dX9_pass_80 ?_
        refine r_iast C hp h mk_1 ms_1 dX9_pass_81 (fun M38 H locs h hp => ?_)
        cases h
        exact hR _ _ _ _ dX9_pass_82 hp
      refine lv_aload_n C.1 C.2.1 dX9_pass_44 rfl (lv_at hl 0 rfl) ?_
      refine lv_iload_n C.1 C.2.1 dX9_pass_45 rfl (lv_at hl 3 rfl) ?_
      refine r_puti C hp h mk_0 ms_0 mc_0 min_0 tyX9 tyX9_ok nmX9 (j := 26) (by decide) rfl gw_1282 rfl rfl rfl dX9_pass_46 (fun M33 H locs h hp => ?_)
      refine lv_aload_n C.1 C.2.1 dX9_pass_49 rfl (lv_at hl 0 rfl) ?_
      refine lv_iload_n C.1 C.2.1 dX9_pass_50 rfl (lv_at hl 3 rfl) ?_
      refine lv_iload_n C.1 C.2.1 dX9_pass_51 rfl (lv_at hl 2 rfl) ?_
      refine r_bipush C dX9_pass_52 (by decide +kernel) ?_
      refine r_icmp_ne (tgt := 61) C h dX9_pass_54 (by decide) (fun h => ?_) (fun h => ?_)
      · refine r_iconst C dX9_pass_61 ?_
        exact hJ32 _ _ _ _ _ _ h hp (lv_sub hl [0, 1] rfl)
      · refine r_iconst C dX9_pass_57 ?_
        refine r_goto (tgt := 62) C dX9_pass_58 (by decide) ?_
        exact hJ32 _ _ _ _ _ _ h hp (lv_sub hl [0, 1] rfl)
    refine lv_iload_n C.1 C.2.1 dX9_pass_33 rfl (lv_at hl 2 rfl) ?_
    refine r_bipush C dX9_pass_34 (by decide +kernel) ?_
    refine r_icmp_ne (tgt := 44) C h dX9_pass_36 (by decide) (fun h => ?_) (fun h => ?_)
    · exact hJ29 _ _ _ _ h hp hl
    · refine lv_aload_n C.1 C.2.1 dX9_pass_39 rfl (lv_at hl 0 rfl) ?_
      refine lv_iload_n C.1 C.2.1 dX9_pass_40 rfl (lv_at hl 3 rfl) ?_
      obtain ⟨M30, hr, h⟩ := bd_of h
      refine r_callVV (As := [.int (gI x27)]) (rest := []) C hl.1 hp (c_X9_gladden l C.2.2.2.2.2.2.2.2.2.2.2 hr) gw_1691 gw_1693 gw_94 mk_0 ms_0 mc_0 cal_X9_gladden rfl rfl (Nat.le_of_ble_eq_true rfl) ⟨Nat.le_of_ble_eq_true rfl, Nat.le_of_ble_eq_true rfl⟩ dX9_pass_41 (fun H locs hp => ?_)
      exact hJ29 _ _ _ _ h hp hl
theorem c_X9_pass (l : Launch) {V : g_V} (hok : g_ok mG V)  {M : g_M} {res : g_M} (h : m_X9_pass M = some res) : MetV mG V l yX9_pass cX9_pass 4 none 6 145 [.ref (V.2.2 0)] M res :=
  g_metV hok cal_X9_pass.2.2.2 rfl (Nat.le_of_ble_eq_true rfl) (@fun p e R s m args below meth c Q ls C hR hp hl => b_X9_pass C hR h hp hl)
set_option maxRecDepth 100000 in
set_option maxHeartbeats 4000000 in
theorem w_X9_keep_L13 (C : g_CX mG V p R s m args meth c cX9_keep 4 none RX9 1 22) {res : g_M} (hR : g_RetV mG V p l e R s m args below meth c Q cX9_keep res)  (k15 : g_M → Option (g_M)) (hk15 : ∀ (M18 : g_M) (H : Heap) (locs : List Loc) (ls : Array Slot), k15 M18 = some res → g_PT mG V M18 s H locs → lv_has ls 4 [(0, .ref (V.2.2 0))] → W p l e R s m args below meth c H locs 0 0 Q (F0 m 46 ls [])) : ∀ (f : Nat) (x13 : Int) (M14 : g_M) (H : Heap) (locs : List Loc) (ls : Array Slot), m_X9_keep_L13 k15 f x13 M14 = some res → g_PT mG V M14 s H locs → lv_has ls 4 [(0, .ref (V.2.2 0)), (1, .int (gI x13))] → W p l e R s m args below meth c H locs 0 0 Q (F0 m 13 ls []) := by
  intro f
  induction f with
  | zero => intro x13 M14 H locs ls h hp hl; cases h
  | succ f ih =>
    intro x13 M14 H locs ls h hp hl
    rw [m_X9_keep_L13] at h
    refine lv_iload_n C.1 C.2.1 dX9_keep_13 rfl (lv_at hl 1 rfl) ?_
    refine r_sipush C dX9_keep_14 (by decide +kernel) ?_
    refine r_icmp_ge (tgt := 46) C h dX9_keep_17 (by decide) (fun h => ?_) (fun h => ?_)
    · exact hk15 _ _ _ _ h hp (lv_sub hl [0] rfl)
    · refine lv_aload_n C.1 C.2.1 dX9_keep_20 rfl (lv_at hl 0 rfl) ?_
      refine r_getr (t := 1) C hp mk_0 ms_0 mc_0 min_0 (j := 0) (by decide) rfl gw_1256 rfl dX9_keep_21 ?_
      refine r_sipush C dX9_keep_24 (by decide +kernel) ?_
      refine lv_iload_n C.1 C.2.1 dX9_keep_27 rfl (lv_at hl 1 rfl) ?_
      refine r_iadd C dX9_keep_28 ?_
      refine lv_aload_n C.1 C.2.1 dX9_keep_29 rfl (lv_at hl 0 rfl) ?_
      refine r_getr (t := 1) C hp mk_0 ms_0 mc_0 min_0 (j := 0) (by decide) rfl gw_1256 rfl dX9_keep_30 ?_
      refine r_sipush C dX9_keep_33 (by decide +kernel) ?_
      refine lv_iload_n C.1 C.2.1 dX9_keep_36 rfl (lv_at hl 1 rfl) ?_
      refine r_iadd C dX9_keep_37 ?_
      refine r_iald C hp h mk_1 ms_1 dX9_keep_38 (fun h => ?_)
      refine r_iast C hp h mk_1 ms_1 dX9_keep_39 (fun M16 H locs h hp => ?_)
      refine r_iinc (lv' := fun x17 => [(1, .int (gI x17)), (0, .ref (V.2.2 0))]) C h dX9_keep_40 hl (j := 1) rfl (by decide) (fun _ => rfl) (fun x17 ls h hl => ?_)
      refine r_goto (tgt := 13) C dX9_keep_43 (by decide) ?_
      exact ih _ _ _ _ _ h hp (lv_sub hl [1, 0] rfl)
set_option maxRecDepth 100000 in
set_option maxHeartbeats 4000000 in
theorem w_X9_keep_L84 (C : g_CX mG V p R s m args meth c cX9_keep 4 none RX9 1 22) {res : g_M} (hR : g_RetV mG V p l e R s m args below meth c Q cX9_keep res) (x25 : Int) (k28 : g_M → Option (g_M)) (hk28 : ∀ (M31 : g_M) (H : Heap) (locs : List Loc) (ls : Array Slot), k28 M31 = some res → g_PT mG V M31 s H locs → lv_has ls 4 [(0, .ref (V.2.2 0)), (1, .int (gI x25))] → W p l e R s m args below meth c H locs 0 0 Q (F0 m 115 ls [])) : ∀ (f : Nat) (x26 : Int) (M27 : g_M) (H : Heap) (locs : List Loc) (ls : Array Slot), m_X9_keep_L84 x25 k28 f x26 M27 = some res → g_PT mG V M27 s H locs → lv_has ls 4 [(0, .ref (V.2.2 0)), (1, .int (gI x25)), (2, .int (gI x26))] → W p l e R s m args below meth c H locs 0 0 Q (F0 m 84 ls []) := by
  intro f
  induction f with
  | zero => intro x26 M27 H locs ls h hp hl; cases h
  | succ f ih =>
    intro x26 M27 H locs ls h hp hl
    rw [m_X9_keep_L84] at h
    refine lv_iload_n C.1 C.2.1 dX9_keep_84 rfl (lv_at hl 2 rfl) ?_
    refine r_bipush C dX9_keep_85 (by decide +kernel) ?_
    refine r_icmp_ge (tgt := 115) C h dX9_keep_87 (by decide) (fun h => ?_) (fun h => ?_)
    · exact hk28 _ _ _ _ h hp (lv_sub hl [0, 1] rfl)
    · refine lv_aload_n C.1 C.2.1 dX9_keep_90 rfl (lv_at hl 0 rfl) ?_
      refine r_getr (t := 1) C hp mk_0 ms_0 mc_0 min_0 (j := 0) (by decide) rfl gw_1256 rfl dX9_keep_91 ?_
      refine lv_iload_n C.1 C.2.1 dX9_keep_94 rfl (lv_at hl 1 rfl) ?_
      refine r_iconst C dX9_keep_95 ?_
      refine r_iadd C dX9_keep_96 ?_
      refine lv_iload_n C.1 C.2.1 dX9_keep_97 rfl (lv_at hl 2 rfl) ?_
      refine r_iadd C dX9_keep_98 ?_
      refine lv_aload_n C.1 C.2.1 dX9_keep_99 rfl (lv_at hl 0 rfl) ?_
      refine r_getr (t := 1) C hp mk_0 ms_0 mc_0 min_0 (j := 0) (by decide) rfl gw_1256 rfl dX9_keep_100 ?_
      refine r_bipush C dX9_keep_103 (by decide +kernel) ?_
      refine lv_iload_n C.1 C.2.1 dX9_keep_105 rfl (lv_at hl 2 rfl) ?_
      refine r_iadd C dX9_keep_106 ?_
      refine r_iald C hp h mk_1 ms_1 dX9_keep_107 (fun h => ?_)
      refine r_iast C hp h mk_1 ms_1 dX9_keep_108 (fun M29 H locs h hp => ?_)
      refine r_iinc (lv' := fun x30 => [(2, .int (gI x30)), (0, .ref (V.2.2 0)), (1, .int (gI x25))]) C h dX9_keep_109 hl (j := 2) rfl (by decide) (fun _ => rfl) (fun x30 ls h hl => ?_)
      refine r_goto (tgt := 84) C dX9_keep_112 (by decide) ?_
      exact ih _ _ _ _ _ h hp (lv_sub hl [1, 2, 0] rfl)
set_option maxRecDepth 100000 in
set_option maxHeartbeats 4000000 in
theorem w_X9_keep_L125 (C : g_CX mG V p R s m args meth c cX9_keep 4 none RX9 1 22) {res : g_M} (hR : g_RetV mG V p l e R s m args below meth c Q cX9_keep res) (x39 : Int) (x40 : Int) (k43 : g_M → Option (g_M)) (hk43 : ∀ (M47 : g_M) (H : Heap) (locs : List Loc) (ls : Array Slot), k43 M47 = some res → g_PT mG V M47 s H locs → lv_has ls 4 [(0, .ref (V.2.2 0)), (1, .int (gI x39)), (2, .int (gI x40))] → W p l e R s m args below meth c H locs 0 0 Q (F0 m 157 ls [])) : ∀ (f : Nat) (x41 : Int) (M42 : g_M) (H : Heap) (locs : List Loc) (ls : Array Slot), m_X9_keep_L125 x39 x40 k43 f x41 M42 = some res → g_PT mG V M42 s H locs → lv_has ls 4 [(0, .ref (V.2.2 0)), (1, .int (gI x39)), (2, .int (gI x40)), (3, .int (gI x41))] → W p l e R s m args below meth c H locs 0 0 Q (F0 m 125 ls []) := by
  intro f
  induction f with
  | zero => intro x41 M42 H locs ls h hp hl; cases h
  | succ f ih =>
    intro x41 M42 H locs ls h hp hl
    rw [m_X9_keep_L125] at h
    refine lv_iload_n C.1 C.2.1 dX9_keep_125 rfl (lv_at hl 3 rfl) ?_
    refine r_iconst C dX9_keep_126 ?_
    refine r_icmp_ge (tgt := 157) C h dX9_keep_127 (by decide) (fun h => ?_) (fun h => ?_)
    · exact hk43 _ _ _ _ h hp (lv_sub hl [0, 1, 2] rfl)
    · refine lv_aload_n C.1 C.2.1 dX9_keep_130 rfl (lv_at hl 0 rfl) ?_
      refine r_getr (t := 1) C hp mk_0 ms_0 mc_0 min_0 (j := 0) (by decide) rfl gw_1256 rfl dX9_keep_131 ?_
      refine lv_iload_n C.1 C.2.1 dX9_keep_134 rfl (lv_at hl 1 rfl) ?_
      refine r_bipush C dX9_keep_135 (by decide +kernel) ?_
      refine r_iadd C dX9_keep_137 ?_
      refine r_iconst C dX9_keep_138 ?_
      refine lv_iload_n C.1 C.2.1 dX9_keep_139 rfl (lv_at hl 2 rfl) ?_
      refine r_imul C dX9_keep_140 ?_
      refine r_iadd C dX9_keep_141 ?_
      refine lv_iload_n C.1 C.2.1 dX9_keep_142 rfl (lv_at hl 3 rfl) ?_
      refine r_iadd C dX9_keep_143 ?_
      refine lv_aload_n C.1 C.2.1 dX9_keep_144 rfl (lv_at hl 0 rfl) ?_
      refine lv_iload_n C.1 C.2.1 dX9_keep_145 rfl (lv_at hl 2 rfl) ?_
      refine lv_iload_n C.1 C.2.1 dX9_keep_146 rfl (lv_at hl 3 rfl) ?_
      obtain ⟨x44, hr, h⟩ := bd_of h
      refine r_callVI (As := [.int (gI x40), .int (gI x41)]) (rest := [.int (gI (((x39 + 29) + (2 * x40)) + x41)), .ref (V.2.2 1)]) C hl.1 hp (c_X9_get l C.2.2.2.2.2.2.2.2.2.2.2 hr) gw_1374 gw_1376 gw_45 mk_0 ms_0 mc_0 cal_X9_get rfl rfl (Nat.le_of_ble_eq_true rfl) ⟨Nat.le_of_ble_eq_true rfl, Nat.le_of_ble_eq_true rfl⟩ dX9_keep_147 (fun H locs hp => ?_)
      refine r_iast C hp h mk_1 ms_1 dX9_keep_150 (fun M45 H locs h hp => ?_)
      refine r_iinc (lv' := fun x46 => [(3, .int (gI x46)), (0, .ref (V.2.2 0)), (1, .int (gI x39)), (2, .int (gI x40))]) C h dX9_keep_151 hl (j := 3) rfl (by decide) (fun _ => rfl) (fun x46 ls h hl => ?_)
      refine r_goto (tgt := 125) C dX9_keep_154 (by decide) ?_
      exact ih _ _ _ _ _ h hp (lv_sub hl [1, 2, 3, 0] rfl)
set_option maxRecDepth 100000 in
set_option maxHeartbeats 4000000 in
theorem w_X9_keep_L117 (C : g_CX mG V p R s m args meth c cX9_keep 4 none RX9 1 22) {res : g_M} (hR : g_RetV mG V p l e R s m args below meth c Q cX9_keep res) (x34 : Int) (k37 : g_M → Option (g_M)) (hk37 : ∀ (M50 : g_M) (H : Heap) (locs : List Loc) (ls : Array Slot), k37 M50 = some res → g_PT mG V M50 s H locs → lv_has ls 4 [(0, .ref (V.2.2 0)), (1, .int (gI x34))] → W p l e R s m args below meth c H locs 0 0 Q (F0 m 163 ls [])) : ∀ (f : Nat) (x35 : Int) (M36 : g_M) (H : Heap) (locs : List Loc) (ls : Array Slot), m_X9_keep_L117 x34 k37 f x35 M36 = some res → g_PT mG V M36 s H locs → lv_has ls 4 [(0, .ref (V.2.2 0)), (1, .int (gI x34)), (2, .int (gI x35))] → W p l e R s m args below meth c H locs 0 0 Q (F0 m 117 ls []) := by
  intro f
  induction f with
  | zero => intro x35 M36 H locs ls h hp hl; cases h
  | succ f ih =>
    intro x35 M36 H locs ls h hp hl
    rw [m_X9_keep_L117] at h
    refine lv_iload_n C.1 C.2.1 dX9_keep_117 rfl (lv_at hl 2 rfl) ?_
    refine r_bipush C dX9_keep_118 (by decide +kernel) ?_
    refine r_icmp_ge (tgt := 163) C h dX9_keep_120 (by decide) (fun h => ?_) (fun h => ?_)
    · exact hk37 _ _ _ _ h hp (lv_sub hl [0, 1] rfl)
    · refine r_iconst C dX9_keep_123 ?_
      refine r_istore_n (lv' := fun x38 => [(3, .int (gI x38)), (0, .ref (V.2.2 0)), (1, .int (gI x34)), (2, .int (gI x35))]) C h dX9_keep_124 rfl hl (by decide) (fun _ => rfl) (fun x38 ls h hl => ?_)
      refine w_X9_keep_L125 C hR _ _ _ ?_ _ _ _ H locs ls h hp (lv_sub hl [1, 2, 3, 0] rfl)
      · intro M48 H locs ls h hp hl
        refine r_iinc (lv' := fun x49 => [(2, .int (gI x49)), (0, .ref (V.2.2 0)), (1, .int (gI x34))]) C h dX9_keep_157 hl (j := 2) rfl (by decide) (fun _ => rfl) (fun x49 ls h hl => ?_)
        refine r_goto (tgt := 117) C dX9_keep_160 (by decide) ?_
        exact ih _ _ _ _ _ h hp (lv_sub hl [1, 2, 0] rfl)
set_option maxRecDepth 100000 in
set_option maxHeartbeats 4000000 in
theorem w_X9_keep_L165 (C : g_CX mG V p R s m args meth c cX9_keep 4 none RX9 1 22) {res : g_M} (hR : g_RetV mG V p l e R s m args below meth c Q cX9_keep res) (x53 : Int) (k56 : g_M → Option (g_M)) (hk56 : ∀ (M59 : g_M) (H : Heap) (locs : List Loc) (ls : Array Slot), k56 M59 = some res → g_PT mG V M59 s H locs → lv_has ls 4 [(0, .ref (V.2.2 0))] → W p l e R s m args below meth c H locs 0 0 Q (F0 m 198 ls [])) : ∀ (f : Nat) (x54 : Int) (M55 : g_M) (H : Heap) (locs : List Loc) (ls : Array Slot), m_X9_keep_L165 x53 k56 f x54 M55 = some res → g_PT mG V M55 s H locs → lv_has ls 4 [(0, .ref (V.2.2 0)), (1, .int (gI x53)), (2, .int (gI x54))] → W p l e R s m args below meth c H locs 0 0 Q (F0 m 165 ls []) := by
  intro f
  induction f with
  | zero => intro x54 M55 H locs ls h hp hl; cases h
  | succ f ih =>
    intro x54 M55 H locs ls h hp hl
    rw [m_X9_keep_L165] at h
    refine lv_iload_n C.1 C.2.1 dX9_keep_165 rfl (lv_at hl 2 rfl) ?_
    refine r_bipush C dX9_keep_166 (by decide +kernel) ?_
    refine r_icmp_ge (tgt := 198) C h dX9_keep_168 (by decide) (fun h => ?_) (fun h => ?_)
    · exact hk56 _ _ _ _ h hp (lv_sub hl [0] rfl)
    · refine lv_aload_n C.1 C.2.1 dX9_keep_171 rfl (lv_at hl 0 rfl) ?_
      refine r_getr (t := 1) C hp mk_0 ms_0 mc_0 min_0 (j := 0) (by decide) rfl gw_1256 rfl dX9_keep_172 ?_
      refine lv_iload_n C.1 C.2.1 dX9_keep_175 rfl (lv_at hl 1 rfl) ?_
      refine r_bipush C dX9_keep_176 (by decide +kernel) ?_
      refine r_iadd C dX9_keep_178 ?_
      refine lv_iload_n C.1 C.2.1 dX9_keep_179 rfl (lv_at hl 2 rfl) ?_
      refine r_iadd C dX9_keep_180 ?_
      refine lv_aload_n C.1 C.2.1 dX9_keep_181 rfl (lv_at hl 0 rfl) ?_
      refine r_getr (t := 1) C hp mk_0 ms_0 mc_0 min_0 (j := 0) (by decide) rfl gw_1256 rfl dX9_keep_182 ?_
      refine r_sipush C dX9_keep_185 (by decide +kernel) ?_
      refine lv_iload_n C.1 C.2.1 dX9_keep_188 rfl (lv_at hl 2 rfl) ?_
      refine r_iadd C dX9_keep_189 ?_
      refine r_iald C hp h mk_1 ms_1 dX9_keep_190 (fun h => ?_)
      refine r_iast C hp h mk_1 ms_1 dX9_keep_191 (fun M57 H locs h hp => ?_)
      refine r_iinc (lv' := fun x58 => [(2, .int (gI x58)), (0, .ref (V.2.2 0)), (1, .int (gI x53))]) C h dX9_keep_192 hl (j := 2) rfl (by decide) (fun _ => rfl) (fun x58 ls h hl => ?_)
      refine r_goto (tgt := 165) C dX9_keep_195 (by decide) ?_
      exact ih _ _ _ _ _ h hp (lv_sub hl [1, 2, 0] rfl)
set_option maxRecDepth 100000 in
set_option maxHeartbeats 4000000 in
theorem b_X9_keep (C : g_CX mG V p R s m args meth c cX9_keep 4 none RX9 1 22) {res : g_M} (hR : g_RetV mG V p l e R s m args below meth c Q cX9_keep res)  {M : g_M} {H : Heap} {locs : List Loc} {ls : Array Slot} (h : m_X9_keep M = some res) (hp : g_PT mG V M s H locs) (hl : lv_has ls 4 [(0, .ref (V.2.2 0))]) : W p l e R s m args below meth c H locs 0 0 Q (F0 m 0 ls []) := by
  unfold m_X9_keep at h
  refine r_jn (P := fun J => ∀ (M21 : g_M) (H : Heap) (locs : List Loc) (ls : Array Slot), J M21 = some res → g_PT mG V M21 s H locs → lv_has ls 4 [(0, .ref (V.2.2 0))] → W p l e R s m args below meth c H locs 0 0 Q (F0 m 56 ls [])) h ?_ (fun J11 hJ11 h => ?_)
  · intro M21 H locs ls h hp hl
    refine r_sipush C dX9_keep_56 (by decide +kernel) ?_
    refine r_bipush C dX9_keep_59 (by decide +kernel) ?_
    refine lv_aload_n C.1 C.2.1 dX9_keep_61 rfl (lv_at hl 0 rfl) ?_
    refine r_getr (t := 1) C hp mk_0 ms_0 mc_0 min_0 (j := 0) (by decide) rfl gw_1256 rfl dX9_keep_62 ?_
    refine r_iconst C dX9_keep_65 ?_
    refine r_iald C hp h mk_1 ms_1 dX9_keep_66 (fun h => ?_)
    refine r_imul C dX9_keep_67 ?_
    refine r_iadd C dX9_keep_68 ?_
    refine r_istore_n (lv' := fun x22 => [(1, .int (gI x22)), (0, .ref (V.2.2 0))]) C h dX9_keep_69 rfl hl (by decide) (fun _ => rfl) (fun x22 ls h hl => ?_)
    refine lv_aload_n C.1 C.2.1 dX9_keep_70 rfl (lv_at hl 1 rfl) ?_
    refine r_getr (t := 1) C hp mk_0 ms_0 mc_0 min_0 (j := 0) (by decide) rfl gw_1256 rfl dX9_keep_71 ?_
    refine lv_iload_n C.1 C.2.1 dX9_keep_74 rfl (lv_at hl 0 rfl) ?_
    refine lv_aload_n C.1 C.2.1 dX9_keep_75 rfl (lv_at hl 1 rfl) ?_
    refine r_getr (t := 1) C hp mk_0 ms_0 mc_0 min_0 (j := 0) (by decide) rfl gw_1256 rfl dX9_keep_76 ?_
    refine r_iconst C dX9_keep_79 ?_
    refine r_iald C hp h mk_1 ms_1 dX9_keep_80 (fun h => ?_)
    refine r_iast C hp h mk_1 ms_1 dX9_keep_81 (fun M23 H locs h hp => ?_)
    refine r_iconst C dX9_keep_82 ?_
    refine r_istore_n (lv' := fun x24 => [(2, .int (gI x24)), (1, .int (gI x22)), (0, .ref (V.2.2 0))]) C h dX9_keep_83 rfl hl (by decide) (fun _ => rfl) (fun x24 ls h hl => ?_)
    refine w_X9_keep_L84 C hR _ _ ?_ _ _ _ H locs ls h hp (lv_sub hl [2, 1, 0] rfl)
    · intro M32 H locs ls h hp hl
      refine r_iconst C dX9_keep_115 ?_
      refine r_istore_n (lv' := fun x33 => [(2, .int (gI x33)), (0, .ref (V.2.2 0)), (1, .int (gI x22))]) C h dX9_keep_116 rfl hl (by decide) (fun _ => rfl) (fun x33 ls h hl => ?_)
      refine w_X9_keep_L117 C hR _ _ ?_ _ _ _ H locs ls h hp (lv_sub hl [1, 2, 0] rfl)
      · intro M51 H locs ls h hp hl
        refine r_iconst C dX9_keep_163 ?_
        refine r_istore_n (lv' := fun x52 => [(2, .int (gI x52)), (0, .ref (V.2.2 0)), (1, .int (gI x22))]) C h dX9_keep_164 rfl hl (by decide) (fun _ => rfl) (fun x52 ls h hl => ?_)
        refine w_X9_keep_L165 C hR _ _ ?_ _ _ _ H locs ls h hp (lv_sub hl [1, 2, 0] rfl)
        · intro M60 H locs ls h hp hl
          refine lv_aload_n C.1 C.2.1 dX9_keep_198 rfl (lv_at hl 0 rfl) ?_
          refine r_getr (t := 1) C hp mk_0 ms_0 mc_0 min_0 (j := 0) (by decide) rfl gw_1256 rfl dX9_keep_199 ?_
          refine r_iconst C dX9_keep_202 ?_
          refine lv_dup2_11 C.1 C.2.1 dX9_keep_203 rfl rfl ?_
          refine r_iald C hp h mk_1 ms_1 dX9_keep_204 (fun h => ?_)
          refine r_iconst C dX9_keep_205 ?_
          refine r_iadd C dX9_keep_206 ?_
          refine r_iast C hp h mk_1 ms_1 dX9_keep_207 (fun M61 H locs h hp => ?_)
          cases h
          exact hR _ _ _ _ dX9_keep_208 hp
  refine lv_aload_n C.1 C.2.1 dX9_keep_0 rfl (lv_at hl 0 rfl) ?_
  refine r_getr (t := 1) C hp mk_0 ms_0 mc_0 min_0 (j := 0) (by decide) rfl gw_1256 rfl dX9_keep_1 ?_
  refine r_iconst C dX9_keep_4 ?_
  refine r_iald C hp h mk_1 ms_1 dX9_keep_5 (fun h => ?_)
  refine r_bipush C dX9_keep_6 (by decide +kernel) ?_
  refine r_icmp_ne (tgt := 56) C h dX9_keep_8 (by decide) (fun h => ?_) (fun h => ?_)
  · exact hJ11 _ _ _ _ h hp hl
  · refine r_iconst C dX9_keep_11 ?_
    refine r_istore_n (lv' := fun x12 => [(1, .int (gI x12)), (0, .ref (V.2.2 0))]) C h dX9_keep_12 rfl hl (by decide) (fun _ => rfl) (fun x12 ls h hl => ?_)
    refine w_X9_keep_L13 C hR _ ?_ _ _ _ H locs ls h hp (lv_sub hl [1, 0] rfl)
    · intro M19 H locs ls h hp hl
      refine lv_aload_n C.1 C.2.1 dX9_keep_46 rfl (lv_at hl 0 rfl) ?_
      refine r_getr (t := 1) C hp mk_0 ms_0 mc_0 min_0 (j := 0) (by decide) rfl gw_1256 rfl dX9_keep_47 ?_
      refine r_iconst C dX9_keep_50 ?_
      refine lv_dup2_11 C.1 C.2.1 dX9_keep_51 rfl rfl ?_
      refine r_iald C hp h mk_1 ms_1 dX9_keep_52 (fun h => ?_)
      refine r_iconst C dX9_keep_53 ?_
      refine r_isub C dX9_keep_54 ?_
      refine r_iast C hp h mk_1 ms_1 dX9_keep_55 (fun M20 H locs h hp => ?_)
      exact hJ11 _ _ _ _ h hp hl
theorem c_X9_keep (l : Launch) {V : g_V} (hok : g_ok mG V)  {M : g_M} {res : g_M} (h : m_X9_keep M = some res) : MetV mG V l yX9_keep cX9_keep 4 none 1 22 [.ref (V.2.2 0)] M res :=
  g_metV hok cal_X9_keep.2.2.2 rfl (Nat.le_of_ble_eq_true rfl) (@fun p e R s m args below meth c Q ls C hR hp hl => b_X9_keep C hR h hp hl)
set_option maxRecDepth 100000 in
set_option maxHeartbeats 4000000 in
theorem w_X9_undo_L37 (C : g_CX mG V p R s m args meth c cX9_undo 4 (some .int) RX9 2 44) {res : Int × g_M} (hR : g_RetI mG V p l e R s m args below meth c Q cX9_undo .int res.1 res.2) (x14 : Int) (k17 : g_M → Option (Int × g_M)) (hk17 : ∀ (M20 : g_M) (H : Heap) (locs : List Loc) (ls : Array Slot), k17 M20 = some res → g_PT mG V M20 s H locs → lv_has ls 4 [(0, .ref (V.2.2 0)), (1, .int (gI x14))] → W p l e R s m args below meth c H locs 0 0 Q (F0 m 68 ls [])) : ∀ (f : Nat) (x15 : Int) (M16 : g_M) (H : Heap) (locs : List Loc) (ls : Array Slot), m_X9_undo_L37 x14 k17 f x15 M16 = some res → g_PT mG V M16 s H locs → lv_has ls 4 [(0, .ref (V.2.2 0)), (1, .int (gI x14)), (2, .int (gI x15))] → W p l e R s m args below meth c H locs 0 0 Q (F0 m 37 ls []) := by
  intro f
  induction f with
  | zero => intro x15 M16 H locs ls h hp hl; cases h
  | succ f ih =>
    intro x15 M16 H locs ls h hp hl
    rw [m_X9_undo_L37] at h
    refine lv_iload_n C.1 C.2.1 dX9_undo_37 rfl (lv_at hl 2 rfl) ?_
    refine r_bipush C dX9_undo_38 (by decide +kernel) ?_
    refine r_icmp_ge (tgt := 68) C h dX9_undo_40 (by decide) (fun h => ?_) (fun h => ?_)
    · exact hk17 _ _ _ _ h hp (lv_sub hl [0, 1] rfl)
    · refine lv_aload_n C.1 C.2.1 dX9_undo_43 rfl (lv_at hl 0 rfl) ?_
      refine r_getr (t := 1) C hp mk_0 ms_0 mc_0 min_0 (j := 0) (by decide) rfl gw_1256 rfl dX9_undo_44 ?_
      refine r_bipush C dX9_undo_47 (by decide +kernel) ?_
      refine lv_iload_n C.1 C.2.1 dX9_undo_49 rfl (lv_at hl 2 rfl) ?_
      refine r_iadd C dX9_undo_50 ?_
      refine lv_aload_n C.1 C.2.1 dX9_undo_51 rfl (lv_at hl 0 rfl) ?_
      refine r_getr (t := 1) C hp mk_0 ms_0 mc_0 min_0 (j := 0) (by decide) rfl gw_1256 rfl dX9_undo_52 ?_
      refine lv_iload_n C.1 C.2.1 dX9_undo_55 rfl (lv_at hl 1 rfl) ?_
      refine r_iconst C dX9_undo_56 ?_
      refine r_iadd C dX9_undo_57 ?_
      refine lv_iload_n C.1 C.2.1 dX9_undo_58 rfl (lv_at hl 2 rfl) ?_
      refine r_iadd C dX9_undo_59 ?_
      refine r_iald C hp h mk_1 ms_1 dX9_undo_60 (fun h => ?_)
      refine r_iast C hp h mk_1 ms_1 dX9_undo_61 (fun M18 H locs h hp => ?_)
      refine r_iinc (lv' := fun x19 => [(2, .int (gI x19)), (0, .ref (V.2.2 0)), (1, .int (gI x14))]) C h dX9_undo_62 hl (j := 2) rfl (by decide) (fun _ => rfl) (fun x19 ls h hl => ?_)
      refine r_goto (tgt := 37) C dX9_undo_65 (by decide) ?_
      exact ih _ _ _ _ _ h hp (lv_sub hl [1, 2, 0] rfl)
set_option maxRecDepth 100000 in
set_option maxHeartbeats 4000000 in
theorem w_X9_undo_L97 (C : g_CX mG V p R s m args meth c cX9_undo 4 (some .int) RX9 2 44) {res : Int × g_M} (hR : g_RetI mG V p l e R s m args below meth c Q cX9_undo .int res.1 res.2) (x31 : Int) (x32 : Int) (k35 : g_M → Option (Int × g_M)) (hk35 : ∀ (M38 : g_M) (H : Heap) (locs : List Loc) (ls : Array Slot), k35 M38 = some res → g_PT mG V M38 s H locs → lv_has ls 4 [(0, .ref (V.2.2 0)), (1, .int (gI x31)), (2, .int (gI x32))] → W p l e R s m args below meth c H locs 0 0 Q (F0 m 139 ls [])) : ∀ (f : Nat) (x33 : Int) (M34 : g_M) (H : Heap) (locs : List Loc) (ls : Array Slot), m_X9_undo_L97 x31 x32 k35 f x33 M34 = some res → g_PT mG V M34 s H locs → lv_has ls 4 [(0, .ref (V.2.2 0)), (1, .int (gI x31)), (2, .int (gI x32)), (3, .int (gI x33))] → W p l e R s m args below meth c H locs 0 0 Q (F0 m 97 ls []) := by
  intro f
  induction f with
  | zero => intro x33 M34 H locs ls h hp hl; cases h
  | succ f ih =>
    intro x33 M34 H locs ls h hp hl
    rw [m_X9_undo_L97] at h
    refine lv_iload_n C.1 C.2.1 dX9_undo_97 rfl (lv_at hl 3 rfl) ?_
    refine r_iconst C dX9_undo_98 ?_
    refine r_icmp_ge (tgt := 139) C h dX9_undo_99 (by decide) (fun h => ?_) (fun h => ?_)
    · exact hk35 _ _ _ _ h hp (lv_sub hl [0, 1, 2] rfl)
    · refine lv_iload_n C.1 C.2.1 dX9_undo_102 rfl (lv_at hl 2 rfl) ?_
      refine lv_aload_n C.1 C.2.1 dX9_undo_103 rfl (lv_at hl 0 rfl) ?_
      refine r_getr (t := 1) C hp mk_0 ms_0 mc_0 min_0 (j := 0) (by decide) rfl gw_1256 rfl dX9_undo_104 ?_
      refine lv_iload_n C.1 C.2.1 dX9_undo_107 rfl (lv_at hl 1 rfl) ?_
      refine r_iald C hp h mk_1 ms_1 dX9_undo_108 (fun h => ?_)
      refine r_icmp_ge (tgt := 139) C h dX9_undo_109 (by decide) (fun h => ?_) (fun h => ?_)
      · exact hk35 _ _ _ _ h hp (lv_sub hl [0, 1, 2] rfl)
      · refine lv_aload_n C.1 C.2.1 dX9_undo_112 rfl (lv_at hl 0 rfl) ?_
        refine lv_iload_n C.1 C.2.1 dX9_undo_113 rfl (lv_at hl 2 rfl) ?_
        refine lv_iload_n C.1 C.2.1 dX9_undo_114 rfl (lv_at hl 3 rfl) ?_
        refine lv_aload_n C.1 C.2.1 dX9_undo_115 rfl (lv_at hl 0 rfl) ?_
        refine r_getr (t := 1) C hp mk_0 ms_0 mc_0 min_0 (j := 0) (by decide) rfl gw_1256 rfl dX9_undo_116 ?_
        refine lv_iload_n C.1 C.2.1 dX9_undo_119 rfl (lv_at hl 1 rfl) ?_
        refine r_bipush C dX9_undo_120 (by decide +kernel) ?_
        refine r_iadd C dX9_undo_122 ?_
        refine r_iconst C dX9_undo_123 ?_
        refine lv_iload_n C.1 C.2.1 dX9_undo_124 rfl (lv_at hl 2 rfl) ?_
        refine r_imul C dX9_undo_125 ?_
        refine r_iadd C dX9_undo_126 ?_
        refine lv_iload_n C.1 C.2.1 dX9_undo_127 rfl (lv_at hl 3 rfl) ?_
        refine r_iadd C dX9_undo_128 ?_
        refine r_iald C hp h mk_1 ms_1 dX9_undo_129 (fun h => ?_)
        obtain ⟨M36, hr, h⟩ := bd_of h
        refine r_callVV (As := [.int (gI x32), .int (gI x33), .int (gI (M34 1 (gs (((x31 + 29) + (2 * x32)) + x33)).toNat))]) (rest := []) C hl.1 hp (c_X9_put l C.2.2.2.2.2.2.2.2.2.2.2 hr) gw_1399 gw_1401 gw_46 mk_0 ms_0 mc_0 cal_X9_put rfl rfl (Nat.le_of_ble_eq_true rfl) ⟨Nat.le_of_ble_eq_true rfl, Nat.le_of_ble_eq_true rfl⟩ dX9_undo_130 (fun H locs hp => ?_)
        refine r_iinc (lv' := fun x37 => [(3, .int (gI x37)), (0, .ref (V.2.2 0)), (1, .int (gI x31)), (2, .int (gI x32))]) C h dX9_undo_133 hl (j := 3) rfl (by decide) (fun _ => rfl) (fun x37 ls h hl => ?_)
        refine r_goto (tgt := 97) C dX9_undo_136 (by decide) ?_
        exact ih _ _ _ _ _ h hp (lv_sub hl [1, 2, 3, 0] rfl)
set_option maxRecDepth 100000 in
set_option maxHeartbeats 4000000 in
theorem w_X9_undo_L70 (C : g_CX mG V p R s m args meth c cX9_undo 4 (some .int) RX9 2 44) {res : Int × g_M} (hR : g_RetI mG V p l e R s m args below meth c Q cX9_undo .int res.1 res.2) (x23 : Int) (k26 : g_M → Option (Int × g_M)) (hk26 : ∀ (M41 : g_M) (H : Heap) (locs : List Loc) (ls : Array Slot), k26 M41 = some res → g_PT mG V M41 s H locs → lv_has ls 4 [(0, .ref (V.2.2 0)), (1, .int (gI x23))] → W p l e R s m args below meth c H locs 0 0 Q (F0 m 145 ls [])) : ∀ (f : Nat) (x24 : Int) (M25 : g_M) (H : Heap) (locs : List Loc) (ls : Array Slot), m_X9_undo_L70 x23 k26 f x24 M25 = some res → g_PT mG V M25 s H locs → lv_has ls 4 [(0, .ref (V.2.2 0)), (1, .int (gI x23)), (2, .int (gI x24))] → W p l e R s m args below meth c H locs 0 0 Q (F0 m 70 ls []) := by
  intro f
  induction f with
  | zero => intro x24 M25 H locs ls h hp hl; cases h
  | succ f ih =>
    intro x24 M25 H locs ls h hp hl
    rw [m_X9_undo_L70] at h
    refine lv_iload_n C.1 C.2.1 dX9_undo_70 rfl (lv_at hl 2 rfl) ?_
    refine lv_aload_n C.1 C.2.1 dX9_undo_71 rfl (lv_at hl 0 rfl) ?_
    refine r_getr (t := 1) C hp mk_0 ms_0 mc_0 min_0 (j := 0) (by decide) rfl gw_1256 rfl dX9_undo_72 ?_
    refine r_iconst C dX9_undo_75 ?_
    refine r_iald C hp h mk_1 ms_1 dX9_undo_76 (fun h => ?_)
    refine r_icmp_ge (tgt := 145) C h dX9_undo_77 (by decide) (fun h => ?_) (fun h => ?_)
    · exact hk26 _ _ _ _ h hp (lv_sub hl [0, 1] rfl)
    · refine r_jn (P := fun J => ∀ (M29 : g_M) (H : Heap) (locs : List Loc) (ls : Array Slot), J M29 = some res → g_PT mG V M29 s H locs → lv_has ls 4 [(0, .ref (V.2.2 0)), (1, .int (gI x23)), (2, .int (gI x24))] → W p l e R s m args below meth c H locs 0 0 Q (F0 m 95 ls [])) h ?_ (fun J27 hJ27 h => ?_)
      · intro M29 H locs ls h hp hl
        refine r_iconst C dX9_undo_95 ?_
        refine r_istore_n (lv' := fun x30 => [(3, .int (gI x30)), (0, .ref (V.2.2 0)), (1, .int (gI x23)), (2, .int (gI x24))]) C h dX9_undo_96 rfl hl (by decide) (fun _ => rfl) (fun x30 ls h hl => ?_)
        refine w_X9_undo_L97 C hR _ _ _ ?_ _ _ _ H locs ls h hp (lv_sub hl [1, 2, 3, 0] rfl)
        · intro M39 H locs ls h hp hl
          refine r_iinc (lv' := fun x40 => [(2, .int (gI x40)), (0, .ref (V.2.2 0)), (1, .int (gI x23))]) C h dX9_undo_139 hl (j := 2) rfl (by decide) (fun _ => rfl) (fun x40 ls h hl => ?_)
          refine r_goto (tgt := 70) C dX9_undo_142 (by decide) ?_
          exact ih _ _ _ _ _ h hp (lv_sub hl [1, 2, 0] rfl)
      refine lv_iload_n C.1 C.2.1 dX9_undo_80 rfl (lv_at hl 2 rfl) ?_
      refine lv_aload_n C.1 C.2.1 dX9_undo_81 rfl (lv_at hl 0 rfl) ?_
      refine r_getr (t := 1) C hp mk_0 ms_0 mc_0 min_0 (j := 0) (by decide) rfl gw_1256 rfl dX9_undo_82 ?_
      refine lv_iload_n C.1 C.2.1 dX9_undo_85 rfl (lv_at hl 1 rfl) ?_
      refine r_iald C hp h mk_1 ms_1 dX9_undo_86 (fun h => ?_)
      refine r_icmp_lt (tgt := 95) C h dX9_undo_87 (by decide) (fun h => ?_) (fun h => ?_)
      · exact hJ27 _ _ _ _ h hp hl
      · refine lv_aload_n C.1 C.2.1 dX9_undo_90 rfl (lv_at hl 0 rfl) ?_
        refine lv_iload_n C.1 C.2.1 dX9_undo_91 rfl (lv_at hl 2 rfl) ?_
        obtain ⟨M28, hr, h⟩ := bd_of h
        refine r_callVV (As := [.int (gI x24)]) (rest := []) C hl.1 hp (c_X9_begin l C.2.2.2.2.2.2.2.2.2.2.2 hr) gw_1403 gw_1405 gw_47 mk_0 ms_0 mc_0 cal_X9_begin rfl rfl (Nat.le_of_ble_eq_true rfl) ⟨Nat.le_of_ble_eq_true rfl, Nat.le_of_ble_eq_true rfl⟩ dX9_undo_92 (fun H locs hp => ?_)
        exact hJ27 _ _ _ _ h hp hl
set_option maxRecDepth 100000 in
set_option maxHeartbeats 4000000 in
theorem w_X9_undo_L147 (C : g_CX mG V p R s m args meth c cX9_undo 4 (some .int) RX9 2 44) {res : Int × g_M} (hR : g_RetI mG V p l e R s m args below meth c Q cX9_undo .int res.1 res.2) (x44 : Int) (k47 : g_M → Option (Int × g_M)) (hk47 : ∀ (M50 : g_M) (H : Heap) (locs : List Loc) (ls : Array Slot), k47 M50 = some res → g_PT mG V M50 s H locs → lv_has ls 4 [(0, .ref (V.2.2 0))] → W p l e R s m args below meth c H locs 0 0 Q (F0 m 180 ls [])) : ∀ (f : Nat) (x45 : Int) (M46 : g_M) (H : Heap) (locs : List Loc) (ls : Array Slot), m_X9_undo_L147 x44 k47 f x45 M46 = some res → g_PT mG V M46 s H locs → lv_has ls 4 [(0, .ref (V.2.2 0)), (1, .int (gI x44)), (2, .int (gI x45))] → W p l e R s m args below meth c H locs 0 0 Q (F0 m 147 ls []) := by
  intro f
  induction f with
  | zero => intro x45 M46 H locs ls h hp hl; cases h
  | succ f ih =>
    intro x45 M46 H locs ls h hp hl
    rw [m_X9_undo_L147] at h
    refine lv_iload_n C.1 C.2.1 dX9_undo_147 rfl (lv_at hl 2 rfl) ?_
    refine r_bipush C dX9_undo_148 (by decide +kernel) ?_
    refine r_icmp_ge (tgt := 180) C h dX9_undo_150 (by decide) (fun h => ?_) (fun h => ?_)
    · exact hk47 _ _ _ _ h hp (lv_sub hl [0] rfl)
    · refine lv_aload_n C.1 C.2.1 dX9_undo_153 rfl (lv_at hl 0 rfl) ?_
      refine r_getr (t := 1) C hp mk_0 ms_0 mc_0 min_0 (j := 0) (by decide) rfl gw_1256 rfl dX9_undo_154 ?_
      refine r_sipush C dX9_undo_157 (by decide +kernel) ?_
      refine lv_iload_n C.1 C.2.1 dX9_undo_160 rfl (lv_at hl 2 rfl) ?_
      refine r_iadd C dX9_undo_161 ?_
      refine lv_aload_n C.1 C.2.1 dX9_undo_162 rfl (lv_at hl 0 rfl) ?_
      refine r_getr (t := 1) C hp mk_0 ms_0 mc_0 min_0 (j := 0) (by decide) rfl gw_1256 rfl dX9_undo_163 ?_
      refine lv_iload_n C.1 C.2.1 dX9_undo_166 rfl (lv_at hl 1 rfl) ?_
      refine r_bipush C dX9_undo_167 (by decide +kernel) ?_
      refine r_iadd C dX9_undo_169 ?_
      refine lv_iload_n C.1 C.2.1 dX9_undo_170 rfl (lv_at hl 2 rfl) ?_
      refine r_iadd C dX9_undo_171 ?_
      refine r_iald C hp h mk_1 ms_1 dX9_undo_172 (fun h => ?_)
      refine r_iast C hp h mk_1 ms_1 dX9_undo_173 (fun M48 H locs h hp => ?_)
      refine r_iinc (lv' := fun x49 => [(2, .int (gI x49)), (0, .ref (V.2.2 0)), (1, .int (gI x44))]) C h dX9_undo_174 hl (j := 2) rfl (by decide) (fun _ => rfl) (fun x49 ls h hl => ?_)
      refine r_goto (tgt := 147) C dX9_undo_177 (by decide) ?_
      exact ih _ _ _ _ _ h hp (lv_sub hl [1, 2, 0] rfl)
set_option maxRecDepth 100000 in
set_option maxHeartbeats 4000000 in
theorem b_X9_undo (C : g_CX mG V p R s m args meth c cX9_undo 4 (some .int) RX9 2 44) {res : Int × g_M} (hR : g_RetI mG V p l e R s m args below meth c Q cX9_undo .int res.1 res.2)  {M : g_M} {H : Heap} {locs : List Loc} {ls : Array Slot} (h : m_X9_undo M = some res) (hp : g_PT mG V M s H locs) (hl : lv_has ls 4 [(0, .ref (V.2.2 0))]) : W p l e R s m args below meth c H locs 0 0 Q (F0 m 0 ls []) := by
  unfold m_X9_undo at h
  refine lv_aload_n C.1 C.2.1 dX9_undo_0 rfl (lv_at hl 0 rfl) ?_
  refine r_getr (t := 1) C hp mk_0 ms_0 mc_0 min_0 (j := 0) (by decide) rfl gw_1256 rfl dX9_undo_1 ?_
  refine r_iconst C dX9_undo_4 ?_
  refine r_iald C hp h mk_1 ms_1 dX9_undo_5 (fun h => ?_)
  refine r_if_ne (tgt := 11) C h dX9_undo_6 (by decide) (fun h => ?_) (fun h => ?_)
  · refine lv_aload_n C.1 C.2.1 dX9_undo_11 rfl (lv_at hl 0 rfl) ?_
    refine r_getr (t := 1) C hp mk_0 ms_0 mc_0 min_0 (j := 0) (by decide) rfl gw_1256 rfl dX9_undo_12 ?_
    refine r_iconst C dX9_undo_15 ?_
    refine lv_dup2_11 C.1 C.2.1 dX9_undo_16 rfl rfl ?_
    refine r_iald C hp h mk_1 ms_1 dX9_undo_17 (fun h => ?_)
    refine r_iconst C dX9_undo_18 ?_
    refine r_isub C dX9_undo_19 ?_
    refine r_iast C hp h mk_1 ms_1 dX9_undo_20 (fun M11 H locs h hp => ?_)
    refine r_sipush C dX9_undo_21 (by decide +kernel) ?_
    refine r_bipush C dX9_undo_24 (by decide +kernel) ?_
    refine lv_aload_n C.1 C.2.1 dX9_undo_26 rfl (lv_at hl 0 rfl) ?_
    refine r_getr (t := 1) C hp mk_0 ms_0 mc_0 min_0 (j := 0) (by decide) rfl gw_1256 rfl dX9_undo_27 ?_
    refine r_iconst C dX9_undo_30 ?_
    refine r_iald C hp h mk_1 ms_1 dX9_undo_31 (fun h => ?_)
    refine r_imul C dX9_undo_32 ?_
    refine r_iadd C dX9_undo_33 ?_
    refine r_istore_n (lv' := fun x12 => [(1, .int (gI x12)), (0, .ref (V.2.2 0))]) C h dX9_undo_34 rfl hl (by decide) (fun _ => rfl) (fun x12 ls h hl => ?_)
    refine r_iconst C dX9_undo_35 ?_
    refine r_istore_n (lv' := fun x13 => [(2, .int (gI x13)), (1, .int (gI x12)), (0, .ref (V.2.2 0))]) C h dX9_undo_36 rfl hl (by decide) (fun _ => rfl) (fun x13 ls h hl => ?_)
    refine w_X9_undo_L37 C hR _ _ ?_ _ _ _ H locs ls h hp (lv_sub hl [2, 1, 0] rfl)
    · intro M21 H locs ls h hp hl
      refine r_iconst C dX9_undo_68 ?_
      refine r_istore_n (lv' := fun x22 => [(2, .int (gI x22)), (0, .ref (V.2.2 0)), (1, .int (gI x12))]) C h dX9_undo_69 rfl hl (by decide) (fun _ => rfl) (fun x22 ls h hl => ?_)
      refine w_X9_undo_L70 C hR _ _ ?_ _ _ _ H locs ls h hp (lv_sub hl [1, 2, 0] rfl)
      · intro M42 H locs ls h hp hl
        refine r_iconst C dX9_undo_145 ?_
        refine r_istore_n (lv' := fun x43 => [(2, .int (gI x43)), (0, .ref (V.2.2 0)), (1, .int (gI x12))]) C h dX9_undo_146 rfl hl (by decide) (fun _ => rfl) (fun x43 ls h hl => ?_)
        refine w_X9_undo_L147 C hR _ _ ?_ _ _ _ H locs ls h hp (lv_sub hl [1, 2, 0] rfl)
        · intro M51 H locs ls h hp hl
          refine lv_aload_n C.1 C.2.1 dX9_undo_180 rfl (lv_at hl 0 rfl) ?_
          refine r_getr (t := 1) C hp mk_0 ms_0 mc_0 min_0 (j := 0) (by decide) rfl gw_1256 rfl dX9_undo_181 ?_
          refine r_iconst C dX9_undo_184 ?_
          refine r_iald C hp h mk_1 ms_1 dX9_undo_185 (fun h => ?_)
          cases h
          exact hR _ _ _ _ dX9_undo_186 rfl hp
  · refine r_iconst C dX9_undo_9 ?_
    cases h
    exact hR _ _ _ _ dX9_undo_10 rfl hp
theorem c_X9_undo (l : Launch) {V : g_V} (hok : g_ok mG V)  {M : g_M} {x : Int} {M2 : g_M} (h : m_X9_undo M = some (x, M2)) : MetI mG V l yX9_undo cX9_undo 4 (some .int) 2 44 [.ref (V.2.2 0)] M x M2 :=
  g_metI hok cal_X9_undo.2.2.2 rfl (Nat.le_of_ble_eq_true rfl) (@fun p e R s m args below meth c Q ls C hR hp hl => b_X9_undo C hR h hp hl)
set_option maxRecDepth 100000 in
set_option maxHeartbeats 4000000 in
theorem b_X9_canSeat (C : g_CX mG V p R s m args meth c cX9_canSeat 3 (some .boolean) RX9 2 43) {res : Int} {M : g_M} (hR : g_RetI mG V p l e R s m args below meth c Q cX9_canSeat .boolean res M) {a1 : Int} {a2 : Int} {H : Heap} {locs : List Loc} {ls : Array Slot} (h : m_X9_canSeat a1 a2 M = some res) (hp : g_PT mG V M s H locs) (hl : lv_has ls 3 [(0, .ref (V.2.2 0)), (1, .int (gI a1)), (2, .int (gI a2))]) : W p l e R s m args below meth c H locs 0 0 Q (F0 m 0 ls []) := by
  unfold m_X9_canSeat at h
  refine r_jn (P := fun J => ∀  (H : Heap) (locs : List Loc) (ls : Array Slot), J  = some res → g_PT mG V M s H locs → lv_has ls 3 [] → W p l e R s m args below meth c H locs 0 0 Q (F0 m 32 ls [])) h ?_ (fun J11 hJ11 h => ?_)
  · intro  H locs ls h hp hl
    refine r_iconst C dX9_canSeat_32 ?_
    cases h
    exact hR _ _ _ _ dX9_canSeat_33 g_nz0 hp
  refine lv_aload_n C.1 C.2.1 dX9_canSeat_0 rfl (lv_at hl 0 rfl) ?_
  refine lv_iload_n C.1 C.2.1 dX9_canSeat_1 rfl (lv_at hl 1 rfl) ?_
  obtain ⟨x12, hr, h⟩ := bd_of h
  refine r_callVI (As := [.int (gI a1)]) (rest := []) C hl.1 hp (c_X9_isPerson l C.2.2.2.2.2.2.2.2.2.2.2 hr) gw_1587 gw_1589 gw_78 mk_0 ms_0 mc_0 cal_X9_isPerson rfl rfl (Nat.le_of_ble_eq_true rfl) ⟨Nat.le_of_ble_eq_true rfl, Nat.le_of_ble_eq_true rfl⟩ dX9_canSeat_2 (fun H locs hp => ?_)
  refine r_if_eq (tgt := 32) C h dX9_canSeat_5 (by decide) (fun h => ?_) (fun h => ?_)
  · exact hJ11  _ _ _ h hp (lv_sub hl [] rfl)
  · refine lv_iload_n C.1 C.2.1 dX9_canSeat_8 rfl (lv_at hl 2 rfl) ?_
    refine r_iconst C dX9_canSeat_9 ?_
    refine r_bipush C dX9_canSeat_10 (by decide +kernel) ?_
    obtain ⟨x13, hr, h⟩ := bd_of h
    refine r_callSI (As := [.int (gI a2), .int (gI 0), .int (gI 9)]) (rest := []) C hl.1 hp (c_X9_isIn l C.2.2.2.2.2.2.2.2.2.2.2 hr) gw_1378 gw_1379 cal_X9_isIn rfl rfl (Nat.le_of_ble_eq_true rfl) ⟨Nat.le_of_ble_eq_true rfl, Nat.le_of_ble_eq_true rfl⟩ dX9_canSeat_12 (fun H locs hp => ?_)
    refine r_if_eq (tgt := 32) C h dX9_canSeat_15 (by decide) (fun h => ?_) (fun h => ?_)
    · exact hJ11  _ _ _ h hp (lv_sub hl [] rfl)
    · refine lv_aload_n C.1 C.2.1 dX9_canSeat_18 rfl (lv_at hl 0 rfl) ?_
      refine lv_iload_n C.1 C.2.1 dX9_canSeat_19 rfl (lv_at hl 1 rfl) ?_
      refine r_iconst C dX9_canSeat_20 ?_
      obtain ⟨x14, hr, h⟩ := bd_of h
      refine r_callVI (As := [.int (gI a1), .int (gI 0)]) (rest := []) C hl.1 hp (c_X9_get l C.2.2.2.2.2.2.2.2.2.2.2 hr) gw_1374 gw_1376 gw_45 mk_0 ms_0 mc_0 cal_X9_get rfl rfl (Nat.le_of_ble_eq_true rfl) ⟨Nat.le_of_ble_eq_true rfl, Nat.le_of_ble_eq_true rfl⟩ dX9_canSeat_21 (fun H locs hp => ?_)
      refine lv_iload_n C.1 C.2.1 dX9_canSeat_24 rfl (lv_at hl 2 rfl) ?_
      refine r_icmp_eq (tgt := 32) C h dX9_canSeat_25 (by decide) (fun h => ?_) (fun h => ?_)
      · exact hJ11  _ _ _ h hp (lv_sub hl [] rfl)
      · refine r_iconst C dX9_canSeat_28 ?_
        refine r_goto (tgt := 33) C dX9_canSeat_29 (by decide) ?_
        cases h
        exact hR _ _ _ _ dX9_canSeat_33 g_nz1 hp
theorem c_X9_canSeat (l : Launch) {V : g_V} (hok : g_ok mG V) {a1 : Int} {a2 : Int} {M : g_M} {x : Int} (h : m_X9_canSeat a1 a2 M = some x) : MetI mG V l yX9_canSeat cX9_canSeat 3 (some .boolean) 2 43 [.ref (V.2.2 0), .int (gI a1), .int (gI a2)] M x M :=
  g_metI hok cal_X9_canSeat.2.2.2 rfl (Nat.le_of_ble_eq_true rfl) (@fun p e R s m args below meth c Q ls C hR hp hl => b_X9_canSeat C hR h hp hl)
set_option maxRecDepth 100000 in
set_option maxHeartbeats 4000000 in
theorem b_X9_seat (C : g_CX mG V p R s m args meth c cX9_seat 3 (some .boolean) RX9 3 65) {res : Int × g_M} (hR : g_RetI mG V p l e R s m args below meth c Q cX9_seat .boolean res.1 res.2) {a1 : Int} {a2 : Int} {M : g_M} {H : Heap} {locs : List Loc} {ls : Array Slot} (h : m_X9_seat a1 a2 M = some res) (hp : g_PT mG V M s H locs) (hl : lv_has ls 3 [(0, .ref (V.2.2 0)), (1, .int (gI a1)), (2, .int (gI a2))]) : W p l e R s m args below meth c H locs 0 0 Q (F0 m 0 ls []) := by
  unfold m_X9_seat at h
  refine lv_aload_n C.1 C.2.1 dX9_seat_0 rfl (lv_at hl 0 rfl) ?_
  refine lv_iload_n C.1 C.2.1 dX9_seat_1 rfl (lv_at hl 1 rfl) ?_
  refine lv_iload_n C.1 C.2.1 dX9_seat_2 rfl (lv_at hl 2 rfl) ?_
  obtain ⟨x11, hr, h⟩ := bd_of h
  refine r_callVI (As := [.int (gI a1), .int (gI a2)]) (rest := []) C hl.1 hp (c_X9_canSeat l C.2.2.2.2.2.2.2.2.2.2.2 hr) gw_1583 gw_1585 gw_77 mk_0 ms_0 mc_0 cal_X9_canSeat rfl rfl (Nat.le_of_ble_eq_true rfl) ⟨Nat.le_of_ble_eq_true rfl, Nat.le_of_ble_eq_true rfl⟩ dX9_seat_3 (fun H locs hp => ?_)
  refine r_if_ne (tgt := 11) C h dX9_seat_6 (by decide) (fun h => ?_) (fun h => ?_)
  · refine lv_aload_n C.1 C.2.1 dX9_seat_11 rfl (lv_at hl 0 rfl) ?_
    obtain ⟨M12, hr, h⟩ := bd_of h
    refine r_callVV (As := []) (rest := []) C hl.1 hp (c_X9_keep l C.2.2.2.2.2.2.2.2.2.2.2 hr) gw_1591 gw_1593 gw_79 mk_0 ms_0 mc_0 cal_X9_keep rfl rfl (Nat.le_of_ble_eq_true rfl) ⟨Nat.le_of_ble_eq_true rfl, Nat.le_of_ble_eq_true rfl⟩ dX9_seat_12 (fun H locs hp => ?_)
    refine lv_aload_n C.1 C.2.1 dX9_seat_15 rfl (lv_at hl 0 rfl) ?_
    refine lv_iload_n C.1 C.2.1 dX9_seat_16 rfl (lv_at hl 1 rfl) ?_
    refine r_iconst C dX9_seat_17 ?_
    refine lv_iload_n C.1 C.2.1 dX9_seat_18 rfl (lv_at hl 2 rfl) ?_
    obtain ⟨M13, hr, h⟩ := bd_of h
    refine r_callVV (As := [.int (gI a1), .int (gI 0), .int (gI a2)]) (rest := []) C hl.1 hp (c_X9_put l C.2.2.2.2.2.2.2.2.2.2.2 hr) gw_1399 gw_1401 gw_46 mk_0 ms_0 mc_0 cal_X9_put rfl rfl (Nat.le_of_ble_eq_true rfl) ⟨Nat.le_of_ble_eq_true rfl, Nat.le_of_ble_eq_true rfl⟩ dX9_seat_19 (fun H locs hp => ?_)
    refine r_iconst C dX9_seat_22 ?_
    cases h
    exact hR _ _ _ _ dX9_seat_23 g_nz1 hp
  · refine r_iconst C dX9_seat_9 ?_
    cases h
    exact hR _ _ _ _ dX9_seat_10 g_nz0 hp
theorem c_X9_seat (l : Launch) {V : g_V} (hok : g_ok mG V) {a1 : Int} {a2 : Int} {M : g_M} {x : Int} {M2 : g_M} (h : m_X9_seat a1 a2 M = some (x, M2)) : MetI mG V l yX9_seat cX9_seat 3 (some .boolean) 3 65 [.ref (V.2.2 0), .int (gI a1), .int (gI a2)] M x M2 :=
  g_metI hok cal_X9_seat.2.2.2 rfl (Nat.le_of_ble_eq_true rfl) (@fun p e R s m args below meth c Q ls C hR hp hl => b_X9_seat C hR h hp hl)
set_option maxRecDepth 100000 in
set_option maxHeartbeats 4000000 in
theorem b_X9_canCall (C : g_CX mG V p R s m args meth c cX9_canCall 3 (some .boolean) RX9 2 42) {res : Int} {M : g_M} (hR : g_RetI mG V p l e R s m args below meth c Q cX9_canCall .boolean res M) {a1 : Int} {a2 : Int} {H : Heap} {locs : List Loc} {ls : Array Slot} (h : m_X9_canCall a1 a2 M = some res) (hp : g_PT mG V M s H locs) (hl : lv_has ls 3 [(0, .ref (V.2.2 0)), (1, .int (gI a1)), (2, .int (gI a2))]) : W p l e R s m args below meth c H locs 0 0 Q (F0 m 0 ls []) := by
  unfold m_X9_canCall at h
  refine r_jn (P := fun J => ∀  (H : Heap) (locs : List Loc) (ls : Array Slot), J  = some res → g_PT mG V M s H locs → lv_has ls 3 [] → W p l e R s m args below meth c H locs 0 0 Q (F0 m 38 ls [])) h ?_ (fun J11 hJ11 h => ?_)
  · intro  H locs ls h hp hl
    refine r_iconst C dX9_canCall_38 ?_
    cases h
    exact hR _ _ _ _ dX9_canCall_39 g_nz0 hp
  refine lv_iload_n C.1 C.2.1 dX9_canCall_0 rfl (lv_at hl 1 rfl) ?_
  obtain ⟨x12, hr, h⟩ := bd_of h
  refine r_callSI (As := [.int (gI a1)]) (rest := []) C hl.1 hp (c_X9_isScene l C.2.2.2.2.2.2.2.2.2.2.2 hr) gw_1385 gw_1386 cal_X9_isScene rfl rfl (Nat.le_of_ble_eq_true rfl) ⟨Nat.le_of_ble_eq_true rfl, Nat.le_of_ble_eq_true rfl⟩ dX9_canCall_1 (fun H locs hp => ?_)
  refine r_if_eq (tgt := 38) C h dX9_canCall_4 (by decide) (fun h => ?_) (fun h => ?_)
  · exact hJ11  _ _ _ h hp (lv_sub hl [] rfl)
  · refine lv_iload_n C.1 C.2.1 dX9_canCall_7 rfl (lv_at hl 2 rfl) ?_
    refine r_iconst C dX9_canCall_8 ?_
    refine r_iconst C dX9_canCall_9 ?_
    obtain ⟨x13, hr, h⟩ := bd_of h
    refine r_callSI (As := [.int (gI a2), .int (gI 1), .int (gI 3)]) (rest := []) C hl.1 hp (c_X9_isIn l C.2.2.2.2.2.2.2.2.2.2.2 hr) gw_1378 gw_1379 cal_X9_isIn rfl rfl (Nat.le_of_ble_eq_true rfl) ⟨Nat.le_of_ble_eq_true rfl, Nat.le_of_ble_eq_true rfl⟩ dX9_canCall_10 (fun H locs hp => ?_)
    refine r_if_eq (tgt := 38) C h dX9_canCall_13 (by decide) (fun h => ?_) (fun h => ?_)
    · exact hJ11  _ _ _ h hp (lv_sub hl [] rfl)
    · refine lv_aload_n C.1 C.2.1 dX9_canCall_16 rfl (lv_at hl 0 rfl) ?_
      refine lv_iload_n C.1 C.2.1 dX9_canCall_17 rfl (lv_at hl 1 rfl) ?_
      refine lv_iload_n C.1 C.2.1 dX9_canCall_18 rfl (lv_at hl 2 rfl) ?_
      obtain ⟨x14, hr, h⟩ := bd_of h
      refine r_callVI (As := [.int (gI a1), .int (gI a2)]) (rest := []) C hl.1 hp (c_X9_nextOf l C.2.2.2.2.2.2.2.2.2.2.2 hr) gw_1603 gw_1605 gw_81 mk_0 ms_0 mc_0 cal_X9_nextOf rfl rfl (Nat.le_of_ble_eq_true rfl) ⟨Nat.le_of_ble_eq_true rfl, Nat.le_of_ble_eq_true rfl⟩ dX9_canCall_19 (fun H locs hp => ?_)
      refine lv_aload_n C.1 C.2.1 dX9_canCall_22 rfl (lv_at hl 0 rfl) ?_
      refine r_getr (t := 1) C hp mk_0 ms_0 mc_0 min_0 (j := 0) (by decide) rfl gw_1256 rfl dX9_canCall_23 ?_
      refine r_bipush C dX9_canCall_26 (by decide +kernel) ?_
      refine lv_iload_n C.1 C.2.1 dX9_canCall_28 rfl (lv_at hl 1 rfl) ?_
      refine r_iadd C dX9_canCall_29 ?_
      refine r_iald C hp h mk_1 ms_1 dX9_canCall_30 (fun h => ?_)
      refine r_icmp_eq (tgt := 38) C h dX9_canCall_31 (by decide) (fun h => ?_) (fun h => ?_)
      · exact hJ11  _ _ _ h hp (lv_sub hl [] rfl)
      · refine r_iconst C dX9_canCall_34 ?_
        refine r_goto (tgt := 39) C dX9_canCall_35 (by decide) ?_
        cases h
        exact hR _ _ _ _ dX9_canCall_39 g_nz1 hp
theorem c_X9_canCall (l : Launch) {V : g_V} (hok : g_ok mG V) {a1 : Int} {a2 : Int} {M : g_M} {x : Int} (h : m_X9_canCall a1 a2 M = some x) : MetI mG V l yX9_canCall cX9_canCall 3 (some .boolean) 2 42 [.ref (V.2.2 0), .int (gI a1), .int (gI a2)] M x M :=
  g_metI hok cal_X9_canCall.2.2.2 rfl (Nat.le_of_ble_eq_true rfl) (@fun p e R s m args below meth c Q ls C hR hp hl => b_X9_canCall C hR h hp hl)
set_option maxRecDepth 100000 in
set_option maxHeartbeats 4000000 in
theorem b_X9_call (C : g_CX mG V p R s m args meth c cX9_call 3 (some .boolean) RX9 3 64) {res : Int × g_M} (hR : g_RetI mG V p l e R s m args below meth c Q cX9_call .boolean res.1 res.2) {a1 : Int} {a2 : Int} {M : g_M} {H : Heap} {locs : List Loc} {ls : Array Slot} (h : m_X9_call a1 a2 M = some res) (hp : g_PT mG V M s H locs) (hl : lv_has ls 3 [(0, .ref (V.2.2 0)), (1, .int (gI a1)), (2, .int (gI a2))]) : W p l e R s m args below meth c H locs 0 0 Q (F0 m 0 ls []) := by
  unfold m_X9_call at h
  refine lv_aload_n C.1 C.2.1 dX9_call_0 rfl (lv_at hl 0 rfl) ?_
  refine lv_iload_n C.1 C.2.1 dX9_call_1 rfl (lv_at hl 1 rfl) ?_
  refine lv_iload_n C.1 C.2.1 dX9_call_2 rfl (lv_at hl 2 rfl) ?_
  obtain ⟨x11, hr, h⟩ := bd_of h
  refine r_callVI (As := [.int (gI a1), .int (gI a2)]) (rest := []) C hl.1 hp (c_X9_canCall l C.2.2.2.2.2.2.2.2.2.2.2 hr) gw_1599 gw_1601 gw_80 mk_0 ms_0 mc_0 cal_X9_canCall rfl rfl (Nat.le_of_ble_eq_true rfl) ⟨Nat.le_of_ble_eq_true rfl, Nat.le_of_ble_eq_true rfl⟩ dX9_call_3 (fun H locs hp => ?_)
  refine r_if_ne (tgt := 11) C h dX9_call_6 (by decide) (fun h => ?_) (fun h => ?_)
  · refine lv_aload_n C.1 C.2.1 dX9_call_11 rfl (lv_at hl 0 rfl) ?_
    obtain ⟨M12, hr, h⟩ := bd_of h
    refine r_callVV (As := []) (rest := []) C hl.1 hp (c_X9_keep l C.2.2.2.2.2.2.2.2.2.2.2 hr) gw_1591 gw_1593 gw_79 mk_0 ms_0 mc_0 cal_X9_keep rfl rfl (Nat.le_of_ble_eq_true rfl) ⟨Nat.le_of_ble_eq_true rfl, Nat.le_of_ble_eq_true rfl⟩ dX9_call_12 (fun H locs hp => ?_)
    refine lv_aload_n C.1 C.2.1 dX9_call_15 rfl (lv_at hl 0 rfl) ?_
    refine r_getr (t := 1) C hp mk_0 ms_0 mc_0 min_0 (j := 0) (by decide) rfl gw_1256 rfl dX9_call_16 ?_
    refine r_bipush C dX9_call_19 (by decide +kernel) ?_
    refine lv_iload_n C.1 C.2.1 dX9_call_21 rfl (lv_at hl 1 rfl) ?_
    refine r_iadd C dX9_call_22 ?_
    refine lv_aload_n C.1 C.2.1 dX9_call_23 rfl (lv_at hl 0 rfl) ?_
    refine lv_iload_n C.1 C.2.1 dX9_call_24 rfl (lv_at hl 1 rfl) ?_
    refine lv_iload_n C.1 C.2.1 dX9_call_25 rfl (lv_at hl 2 rfl) ?_
    obtain ⟨x13, hr, h⟩ := bd_of h
    refine r_callVI (As := [.int (gI a1), .int (gI a2)]) (rest := [.int (gI (22 + a1)), .ref (V.2.2 1)]) C hl.1 hp (c_X9_nextOf l C.2.2.2.2.2.2.2.2.2.2.2 hr) gw_1603 gw_1605 gw_81 mk_0 ms_0 mc_0 cal_X9_nextOf rfl rfl (Nat.le_of_ble_eq_true rfl) ⟨Nat.le_of_ble_eq_true rfl, Nat.le_of_ble_eq_true rfl⟩ dX9_call_26 (fun H locs hp => ?_)
    refine r_iast C hp h mk_1 ms_1 dX9_call_29 (fun M14 H locs h hp => ?_)
    refine r_iconst C dX9_call_30 ?_
    cases h
    exact hR _ _ _ _ dX9_call_31 g_nz1 hp
  · refine r_iconst C dX9_call_9 ?_
    cases h
    exact hR _ _ _ _ dX9_call_10 g_nz0 hp
theorem c_X9_call (l : Launch) {V : g_V} (hok : g_ok mG V) {a1 : Int} {a2 : Int} {M : g_M} {x : Int} {M2 : g_M} (h : m_X9_call a1 a2 M = some (x, M2)) : MetI mG V l yX9_call cX9_call 3 (some .boolean) 3 64 [.ref (V.2.2 0), .int (gI a1), .int (gI a2)] M x M2 :=
  g_metI hok cal_X9_call.2.2.2 rfl (Nat.le_of_ble_eq_true rfl) (@fun p e R s m args below meth c Q ls C hR hp hl => b_X9_call C hR h hp hl)
set_option maxRecDepth 100000 in
set_option maxHeartbeats 4000000 in
theorem b_X9_canMend (C : g_CX mG V p R s m args meth c cX9_canMend 2 (some .boolean) RX9 2 42) {res : Int} {M : g_M} (hR : g_RetI mG V p l e R s m args below meth c Q cX9_canMend .boolean res M) {a1 : Int} {H : Heap} {locs : List Loc} {ls : Array Slot} (h : m_X9_canMend a1 M = some res) (hp : g_PT mG V M s H locs) (hl : lv_has ls 2 [(0, .ref (V.2.2 0)), (1, .int (gI a1))]) : W p l e R s m args below meth c H locs 0 0 Q (F0 m 0 ls []) := by
  unfold m_X9_canMend at h
  refine r_jn (P := fun J => ∀  (H : Heap) (locs : List Loc) (ls : Array Slot), J  = some res → g_PT mG V M s H locs → lv_has ls 2 [] → W p l e R s m args below meth c H locs 0 0 Q (F0 m 34 ls [])) h ?_ (fun J11 hJ11 h => ?_)
  · intro  H locs ls h hp hl
    refine r_iconst C dX9_canMend_34 ?_
    cases h
    exact hR _ _ _ _ dX9_canMend_35 g_nz0 hp
  refine lv_iload_n C.1 C.2.1 dX9_canMend_0 rfl (lv_at hl 1 rfl) ?_
  obtain ⟨x12, hr, h⟩ := bd_of h
  refine r_callSI (As := [.int (gI a1)]) (rest := []) C hl.1 hp (c_X9_isScene l C.2.2.2.2.2.2.2.2.2.2.2 hr) gw_1385 gw_1386 cal_X9_isScene rfl rfl (Nat.le_of_ble_eq_true rfl) ⟨Nat.le_of_ble_eq_true rfl, Nat.le_of_ble_eq_true rfl⟩ dX9_canMend_1 (fun H locs hp => ?_)
  refine r_if_eq (tgt := 34) C h dX9_canMend_4 (by decide) (fun h => ?_) (fun h => ?_)
  · exact hJ11  _ _ _ h hp (lv_sub hl [] rfl)
  · refine lv_aload_n C.1 C.2.1 dX9_canMend_7 rfl (lv_at hl 0 rfl) ?_
    refine r_getr (t := 1) C hp mk_0 ms_0 mc_0 min_0 (j := 0) (by decide) rfl gw_1256 rfl dX9_canMend_8 ?_
    refine r_bipush C dX9_canMend_11 (by decide +kernel) ?_
    refine lv_iload_n C.1 C.2.1 dX9_canMend_13 rfl (lv_at hl 1 rfl) ?_
    refine r_iadd C dX9_canMend_14 ?_
    refine r_iald C hp h mk_1 ms_1 dX9_canMend_15 (fun h => ?_)
    refine lv_aload_n C.1 C.2.1 dX9_canMend_16 rfl (lv_at hl 0 rfl) ?_
    refine r_getr (t := 1) C hp mk_0 ms_0 mc_0 min_0 (j := 0) (by decide) rfl gw_1256 rfl dX9_canMend_17 ?_
    refine r_bipush C dX9_canMend_20 (by decide +kernel) ?_
    refine r_iconst C dX9_canMend_22 ?_
    refine lv_iload_n C.1 C.2.1 dX9_canMend_23 rfl (lv_at hl 1 rfl) ?_
    refine r_imul C dX9_canMend_24 ?_
    refine r_iadd C dX9_canMend_25 ?_
    refine r_iald C hp h mk_1 ms_1 dX9_canMend_26 (fun h => ?_)
    refine r_icmp_eq (tgt := 34) C h dX9_canMend_27 (by decide) (fun h => ?_) (fun h => ?_)
    · exact hJ11  _ _ _ h hp (lv_sub hl [] rfl)
    · refine r_iconst C dX9_canMend_30 ?_
      refine r_goto (tgt := 35) C dX9_canMend_31 (by decide) ?_
      cases h
      exact hR _ _ _ _ dX9_canMend_35 g_nz1 hp
theorem c_X9_canMend (l : Launch) {V : g_V} (hok : g_ok mG V) {a1 : Int} {M : g_M} {x : Int} (h : m_X9_canMend a1 M = some x) : MetI mG V l yX9_canMend cX9_canMend 2 (some .boolean) 2 42 [.ref (V.2.2 0), .int (gI a1)] M x M :=
  g_metI hok cal_X9_canMend.2.2.2 rfl (Nat.le_of_ble_eq_true rfl) (@fun p e R s m args below meth c Q ls C hR hp hl => b_X9_canMend C hR h hp hl)
set_option maxRecDepth 100000 in
set_option maxHeartbeats 4000000 in
theorem b_X9_mend (C : g_CX mG V p R s m args meth c cX9_mend 2 (some .boolean) RX9 3 63) {res : Int × g_M} (hR : g_RetI mG V p l e R s m args below meth c Q cX9_mend .boolean res.1 res.2) {a1 : Int} {M : g_M} {H : Heap} {locs : List Loc} {ls : Array Slot} (h : m_X9_mend a1 M = some res) (hp : g_PT mG V M s H locs) (hl : lv_has ls 2 [(0, .ref (V.2.2 0)), (1, .int (gI a1))]) : W p l e R s m args below meth c H locs 0 0 Q (F0 m 0 ls []) := by
  unfold m_X9_mend at h
  refine lv_aload_n C.1 C.2.1 dX9_mend_0 rfl (lv_at hl 0 rfl) ?_
  refine lv_iload_n C.1 C.2.1 dX9_mend_1 rfl (lv_at hl 1 rfl) ?_
  obtain ⟨x11, hr, h⟩ := bd_of h
  refine r_callVI (As := [.int (gI a1)]) (rest := []) C hl.1 hp (c_X9_canMend l C.2.2.2.2.2.2.2.2.2.2.2 hr) gw_1611 gw_1613 gw_82 mk_0 ms_0 mc_0 cal_X9_canMend rfl rfl (Nat.le_of_ble_eq_true rfl) ⟨Nat.le_of_ble_eq_true rfl, Nat.le_of_ble_eq_true rfl⟩ dX9_mend_2 (fun H locs hp => ?_)
  refine r_if_ne (tgt := 10) C h dX9_mend_5 (by decide) (fun h => ?_) (fun h => ?_)
  · refine lv_aload_n C.1 C.2.1 dX9_mend_10 rfl (lv_at hl 0 rfl) ?_
    obtain ⟨M12, hr, h⟩ := bd_of h
    refine r_callVV (As := []) (rest := []) C hl.1 hp (c_X9_keep l C.2.2.2.2.2.2.2.2.2.2.2 hr) gw_1591 gw_1593 gw_79 mk_0 ms_0 mc_0 cal_X9_keep rfl rfl (Nat.le_of_ble_eq_true rfl) ⟨Nat.le_of_ble_eq_true rfl, Nat.le_of_ble_eq_true rfl⟩ dX9_mend_11 (fun H locs hp => ?_)
    refine lv_aload_n C.1 C.2.1 dX9_mend_14 rfl (lv_at hl 0 rfl) ?_
    refine r_getr (t := 1) C hp mk_0 ms_0 mc_0 min_0 (j := 0) (by decide) rfl gw_1256 rfl dX9_mend_15 ?_
    refine r_bipush C dX9_mend_18 (by decide +kernel) ?_
    refine lv_iload_n C.1 C.2.1 dX9_mend_20 rfl (lv_at hl 1 rfl) ?_
    refine r_iadd C dX9_mend_21 ?_
    refine lv_aload_n C.1 C.2.1 dX9_mend_22 rfl (lv_at hl 0 rfl) ?_
    refine r_getr (t := 1) C hp mk_0 ms_0 mc_0 min_0 (j := 0) (by decide) rfl gw_1256 rfl dX9_mend_23 ?_
    refine r_bipush C dX9_mend_26 (by decide +kernel) ?_
    refine r_iconst C dX9_mend_28 ?_
    refine lv_iload_n C.1 C.2.1 dX9_mend_29 rfl (lv_at hl 1 rfl) ?_
    refine r_imul C dX9_mend_30 ?_
    refine r_iadd C dX9_mend_31 ?_
    refine r_iald C hp h mk_1 ms_1 dX9_mend_32 (fun h => ?_)
    refine r_iast C hp h mk_1 ms_1 dX9_mend_33 (fun M13 H locs h hp => ?_)
    refine r_iconst C dX9_mend_34 ?_
    cases h
    exact hR _ _ _ _ dX9_mend_35 g_nz1 hp
  · refine r_iconst C dX9_mend_8 ?_
    cases h
    exact hR _ _ _ _ dX9_mend_9 g_nz0 hp
theorem c_X9_mend (l : Launch) {V : g_V} (hok : g_ok mG V) {a1 : Int} {M : g_M} {x : Int} {M2 : g_M} (h : m_X9_mend a1 M = some (x, M2)) : MetI mG V l yX9_mend cX9_mend 2 (some .boolean) 3 63 [.ref (V.2.2 0), .int (gI a1)] M x M2 :=
  g_metI hok cal_X9_mend.2.2.2 rfl (Nat.le_of_ble_eq_true rfl) (@fun p e R s m args below meth c Q ls C hR hp hl => b_X9_mend C hR h hp hl)
set_option maxRecDepth 100000 in
set_option maxHeartbeats 4000000 in
theorem w_X9_arePassed_L7 (C : g_CX mG V p R s m args meth c cX9_arePassed 3 (some .boolean) RX9 7 168) {res : Int × g_M} (hR : g_RetI mG V p l e R s m args below meth c Q cX9_arePassed .boolean res.1 res.2) (x13 : Int)   : ∀ (f : Nat) (x14 : Int) (M15 : g_M) (H : Heap) (locs : List Loc) (ls : Array Slot), m_X9_arePassed_L7 x13  f x14 M15 = some res → g_PT mG V M15 s H locs → lv_has ls 3 [(0, .ref (V.2.2 0)), (1, .int (gI x13)), (2, .int (gI x14))] → W p l e R s m args below meth c H locs 0 0 Q (F0 m 7 ls []) := by
  intro f
  induction f with
  | zero => intro x14 M15 H locs ls h hp hl; cases h
  | succ f ih =>
    intro x14 M15 H locs ls h hp hl
    rw [m_X9_arePassed_L7] at h
    refine lv_iload_n C.1 C.2.1 dX9_arePassed_7 rfl (lv_at hl 2 rfl) ?_
    refine lv_iload_n C.1 C.2.1 dX9_arePassed_8 rfl (lv_at hl 1 rfl) ?_
    refine r_icmp_ge (tgt := 41) C h dX9_arePassed_9 (by decide) (fun h => ?_) (fun h => ?_)
    · refine r_iconst C dX9_arePassed_41 ?_
      cases h
      exact hR _ _ _ _ dX9_arePassed_42 g_nz1 hp
    · refine lv_aload_n C.1 C.2.1 dX9_arePassed_12 rfl (lv_at hl 0 rfl) ?_
      refine r_getr (t := 1) C hp mk_0 ms_0 mc_0 min_0 (j := 0) (by decide) rfl gw_1256 rfl dX9_arePassed_13 ?_
      refine r_bipush C dX9_arePassed_16 (by decide +kernel) ?_
      refine r_iald C hp h mk_1 ms_1 dX9_arePassed_18 (fun h => ?_)
      refine r_sipush C dX9_arePassed_19 (by decide +kernel) ?_
      refine r_icmp_ne (tgt := 27) C h dX9_arePassed_22 (by decide) (fun h => ?_) (fun h => ?_)
      · refine lv_aload_n C.1 C.2.1 dX9_arePassed_27 rfl (lv_at hl 0 rfl) ?_
        obtain ⟨M16, hr, h⟩ := bd_of h
        refine r_callVV (As := []) (rest := []) C hl.1 hp (c_X9_keep l C.2.2.2.2.2.2.2.2.2.2.2 hr) gw_1591 gw_1593 gw_79 mk_0 ms_0 mc_0 cal_X9_keep rfl rfl (Nat.le_of_ble_eq_true rfl) ⟨Nat.le_of_ble_eq_true rfl, Nat.le_of_ble_eq_true rfl⟩ dX9_arePassed_28 (fun H locs hp => ?_)
        refine lv_aload_n C.1 C.2.1 dX9_arePassed_31 rfl (lv_at hl 0 rfl) ?_
        obtain ⟨M17, hr, h⟩ := bd_of h
        refine r_callVV (As := []) (rest := []) C hl.1 hp (c_X9_pass l C.2.2.2.2.2.2.2.2.2.2.2 hr) gw_1623 gw_1625 gw_84 mk_0 ms_0 mc_0 cal_X9_pass rfl rfl (Nat.le_of_ble_eq_true rfl) ⟨Nat.le_of_ble_eq_true rfl, Nat.le_of_ble_eq_true rfl⟩ dX9_arePassed_32 (fun H locs hp => ?_)
        refine r_iinc (lv' := fun x18 => [(2, .int (gI x18)), (0, .ref (V.2.2 0)), (1, .int (gI x13))]) C h dX9_arePassed_35 hl (j := 2) rfl (by decide) (fun _ => rfl) (fun x18 ls h hl => ?_)
        refine r_goto (tgt := 7) C dX9_arePassed_38 (by decide) ?_
        exact ih _ _ _ _ _ h hp (lv_sub hl [1, 2, 0] rfl)
      · refine r_iconst C dX9_arePassed_25 ?_
        cases h
        exact hR _ _ _ _ dX9_arePassed_26 g_nz0 hp
set_option maxRecDepth 100000 in
set_option maxHeartbeats 4000000 in
theorem b_X9_arePassed (C : g_CX mG V p R s m args meth c cX9_arePassed 3 (some .boolean) RX9 7 168) {res : Int × g_M} (hR : g_RetI mG V p l e R s m args below meth c Q cX9_arePassed .boolean res.1 res.2) {a1 : Int} {M : g_M} {H : Heap} {locs : List Loc} {ls : Array Slot} (h : m_X9_arePassed a1 M = some res) (hp : g_PT mG V M s H locs) (hl : lv_has ls 3 [(0, .ref (V.2.2 0)), (1, .int (gI a1))]) : W p l e R s m args below meth c H locs 0 0 Q (F0 m 0 ls []) := by
  unfold m_X9_arePassed at h
  refine lv_aload_n C.1 C.2.1 dX9_arePassed_0 rfl (lv_at hl 0 rfl) ?_
  refine r_iconst C dX9_arePassed_1 ?_
  refine r_puti C hp h mk_0 ms_0 mc_0 min_0 tyX9 tyX9_ok nmX9 (j := 24) (by decide) rfl gw_1280 rfl rfl rfl dX9_arePassed_2 (fun M11 H locs h hp => ?_)
  refine r_iconst C dX9_arePassed_5 ?_
  refine r_istore_n (lv' := fun x12 => [(2, .int (gI x12)), (0, .ref (V.2.2 0)), (1, .int (gI a1))]) C h dX9_arePassed_6 rfl hl (by decide) (fun _ => rfl) (fun x12 ls h hl => ?_)
  refine w_X9_arePassed_L7 C hR _ _ _ _ H locs ls h hp (lv_sub hl [1, 2, 0] rfl)
theorem c_X9_arePassed (l : Launch) {V : g_V} (hok : g_ok mG V) {a1 : Int} {M : g_M} {x : Int} {M2 : g_M} (h : m_X9_arePassed a1 M = some (x, M2)) : MetI mG V l yX9_arePassed cX9_arePassed 3 (some .boolean) 7 168 [.ref (V.2.2 0), .int (gI a1)] M x M2 :=
  g_metI hok cal_X9_arePassed.2.2.2 rfl (Nat.le_of_ble_eq_true rfl) (@fun p e R s m args below meth c Q ls C hR hp hl => b_X9_arePassed C hR h hp hl)
set_option maxRecDepth 100000 in
set_option maxHeartbeats 4000000 in
theorem b_X9_evening (C : g_CX mG V p R s m args meth c cX9_evening 2 (some .int) RX9 8 190) {res : Int × g_M} (hR : g_RetI mG V p l e R s m args below meth c Q cX9_evening .int res.1 res.2) {a1 : Int} {M : g_M} {H : Heap} {locs : List Loc} {ls : Array Slot} (h : m_X9_evening a1 M = some res) (hp : g_PT mG V M s H locs) (hl : lv_has ls 2 [(0, .ref (V.2.2 0)), (1, .int (gI a1))]) : W p l e R s m args below meth c H locs 0 0 Q (F0 m 0 ls []) := by
  unfold m_X9_evening at h
  refine r_jn (P := fun J => ∀ (M15 : g_M) (H : Heap) (locs : List Loc) (ls : Array Slot), J M15 = some res → g_PT mG V M15 s H locs → lv_has ls 2 [] → W p l e R s m args below meth c H locs 0 0 Q (F0 m 40 ls [])) h ?_ (fun J11 hJ11 h => ?_)
  · intro M15 H locs ls h hp hl
    refine r_iconst C dX9_evening_40 ?_
    cases h
    exact hR _ _ _ _ dX9_evening_41 rfl hp
  refine lv_iload_n C.1 C.2.1 dX9_evening_0 rfl (lv_at hl 1 rfl) ?_
  refine r_iconst C dX9_evening_1 ?_
  refine r_bipush C dX9_evening_2 (by decide +kernel) ?_
  obtain ⟨x12, hr, h⟩ := bd_of h
  refine r_callSI (As := [.int (gI a1), .int (gI 1), .int (gI 40)]) (rest := []) C hl.1 hp (c_X9_isIn l C.2.2.2.2.2.2.2.2.2.2.2 hr) gw_1378 gw_1379 cal_X9_isIn rfl rfl (Nat.le_of_ble_eq_true rfl) ⟨Nat.le_of_ble_eq_true rfl, Nat.le_of_ble_eq_true rfl⟩ dX9_evening_4 (fun H locs hp => ?_)
  refine r_if_eq (tgt := 40) C h dX9_evening_7 (by decide) (fun h => ?_) (fun h => ?_)
  · exact hJ11 _ _ _ _ h hp (lv_sub hl [] rfl)
  · refine lv_aload_n C.1 C.2.1 dX9_evening_10 rfl (lv_at hl 0 rfl) ?_
    refine r_getr (t := 1) C hp mk_0 ms_0 mc_0 min_0 (j := 0) (by decide) rfl gw_1256 rfl dX9_evening_11 ?_
    refine r_bipush C dX9_evening_14 (by decide +kernel) ?_
    refine r_iald C hp h mk_1 ms_1 dX9_evening_16 (fun h => ?_)
    refine lv_iload_n C.1 C.2.1 dX9_evening_17 rfl (lv_at hl 1 rfl) ?_
    refine r_iadd C dX9_evening_18 ?_
    refine r_sipush C dX9_evening_19 (by decide +kernel) ?_
    refine r_icmp_gt (tgt := 40) C h dX9_evening_22 (by decide) (fun h => ?_) (fun h => ?_)
    · exact hJ11 _ _ _ _ h hp (lv_sub hl [] rfl)
    · refine lv_aload_n C.1 C.2.1 dX9_evening_25 rfl (lv_at hl 0 rfl) ?_
      refine lv_iload_n C.1 C.2.1 dX9_evening_26 rfl (lv_at hl 1 rfl) ?_
      obtain ⟨x13, M14, hr, h⟩ := bW_of h
      refine r_callVI (As := [.int (gI a1)]) (rest := []) C hl.1 hp (c_X9_arePassed l C.2.2.2.2.2.2.2.2.2.2.2 hr) gw_1619 gw_1621 gw_83 mk_0 ms_0 mc_0 cal_X9_arePassed rfl rfl (Nat.le_of_ble_eq_true rfl) ⟨Nat.le_of_ble_eq_true rfl, Nat.le_of_ble_eq_true rfl⟩ dX9_evening_27 (fun H locs hp => ?_)
      refine r_if_eq (tgt := 40) C h dX9_evening_30 (by decide) (fun h => ?_) (fun h => ?_)
      · exact hJ11 _ _ _ _ h hp (lv_sub hl [] rfl)
      · refine lv_aload_n C.1 C.2.1 dX9_evening_33 rfl (lv_at hl 0 rfl) ?_
        refine r_geti (t := 0) C hp mk_0 ms_0 mc_0 min_0 (j := 24) (by decide) rfl gw_1280 rfl dX9_evening_34 ?_
        refine r_goto (tgt := 41) C dX9_evening_37 (by decide) ?_
        cases h
        exact hR _ _ _ _ dX9_evening_41 rfl hp
theorem c_X9_evening (l : Launch) {V : g_V} (hok : g_ok mG V) {a1 : Int} {M : g_M} {x : Int} {M2 : g_M} (h : m_X9_evening a1 M = some (x, M2)) : MetI mG V l yX9_evening cX9_evening 2 (some .int) 8 190 [.ref (V.2.2 0), .int (gI a1)] M x M2 :=
  g_metI hok cal_X9_evening.2.2.2 rfl (Nat.le_of_ble_eq_true rfl) (@fun p e R s m args below meth c Q ls C hR hp hl => b_X9_evening C hR h hp hl)
set_option maxRecDepth 100000 in
set_option maxHeartbeats 4000000 in
theorem b_X9_isPlayed (C : g_CX mG V p R s m args meth c cX9_isPlayed 4 (some .boolean) RX9 8 190) {res : Int × g_M} (hR : g_RetI mG V p l e R s m args below meth c Q cX9_isPlayed .boolean res.1 res.2) {a1 : Int} {M : g_M} {H : Heap} {locs : List Loc} {ls : Array Slot} (h : m_X9_isPlayed a1 M = some res) (hp : g_PT mG V M s H locs) (hl : lv_has ls 4 [(0, .ref (V.2.2 0)), (1, .int (gI a1))]) : W p l e R s m args below meth c H locs 0 0 Q (F0 m 0 ls []) := by
  unfold m_X9_isPlayed at h
  refine lv_aload_n C.1 C.2.1 dX9_isPlayed_0 rfl (lv_at hl 0 rfl) ?_
  refine r_getr (t := 3) C hp mk_0 ms_0 mc_0 min_0 (j := 2) (by decide) rfl gw_1258 rfl dX9_isPlayed_1 ?_
  refine lv_iload_n C.1 C.2.1 dX9_isPlayed_4 rfl (lv_at hl 1 rfl) ?_
  refine r_iconst C dX9_isPlayed_5 ?_
  refine r_iadd C dX9_isPlayed_6 ?_
  refine r_iald C hp h mk_3 ms_3 dX9_isPlayed_7 (fun h => ?_)
  refine r_istore_n (lv' := fun x11 => [(2, .int (gI x11)), (0, .ref (V.2.2 0)), (1, .int (gI a1))]) C h dX9_isPlayed_8 rfl hl (by decide) (fun _ => rfl) (fun x11 ls h hl => ?_)
  refine lv_aload_n C.1 C.2.1 dX9_isPlayed_9 rfl (lv_at hl 1 rfl) ?_
  refine r_getr (t := 3) C hp mk_0 ms_0 mc_0 min_0 (j := 2) (by decide) rfl gw_1258 rfl dX9_isPlayed_10 ?_
  refine lv_iload_n C.1 C.2.1 dX9_isPlayed_13 rfl (lv_at hl 2 rfl) ?_
  refine r_iconst C dX9_isPlayed_14 ?_
  refine r_iadd C dX9_isPlayed_15 ?_
  refine r_iald C hp h mk_3 ms_3 dX9_isPlayed_16 (fun h => ?_)
  refine r_istore_n (lv' := fun x12 => [(3, .int (gI x12)), (2, .int (gI x11)), (0, .ref (V.2.2 0)), (1, .int (gI a1))]) C h dX9_isPlayed_17 rfl hl (by decide) (fun _ => rfl) (fun x12 ls h hl => ?_)
  refine lv_aload_n C.1 C.2.1 dX9_isPlayed_18 rfl (lv_at hl 2 rfl) ?_
  refine r_getr (t := 3) C hp mk_0 ms_0 mc_0 min_0 (j := 2) (by decide) rfl gw_1258 rfl dX9_isPlayed_19 ?_
  refine lv_iload_n C.1 C.2.1 dX9_isPlayed_22 rfl (lv_at hl 3 rfl) ?_
  refine r_iald C hp h mk_3 ms_3 dX9_isPlayed_23 (fun h => ?_)
  refine r_ite h (fun hv h => ?_) (fun hv3 h => ?_)
  · refine r_tswIn (tgt := 68) (v := 3) C hv dX9_isPlayed_24 (by decide) rfl (by decide) ?_
    refine lv_aload_n C.1 C.2.1 dX9_isPlayed_68 rfl (lv_at hl 2 rfl) ?_
    refine lv_iload_n C.1 C.2.1 dX9_isPlayed_69 rfl (lv_at hl 1 rfl) ?_
    refine lv_iload_n C.1 C.2.1 dX9_isPlayed_70 rfl (lv_at hl 0 rfl) ?_
    refine lv_aload_n C.1 C.2.1 dX9_isPlayed_71 rfl (lv_at hl 2 rfl) ?_
    refine r_getr (t := 3) C hp mk_0 ms_0 mc_0 min_0 (j := 2) (by decide) rfl gw_1258 rfl dX9_isPlayed_72 ?_
    refine lv_iload_n C.1 C.2.1 dX9_isPlayed_75 rfl (lv_at hl 3 rfl) ?_
    refine r_iconst C dX9_isPlayed_76 ?_
    refine r_iadd C dX9_isPlayed_77 ?_
    refine r_iald C hp h mk_3 ms_3 dX9_isPlayed_78 (fun h => ?_)
    obtain ⟨x13, M14, hr, h⟩ := bW_of h
    refine r_callVI (As := [.int (gI x11), .int (gI x12), .int (gI (M 3 (gs (a1 + 3)).toNat))]) (rest := []) C hl.1 hp (c_X9_scene l C.2.2.2.2.2.2.2.2.2.2.2 hr) gw_1711 gw_1382 gw_1383 mk_0 ms_0 mc_0 cal_X9_scene rfl rfl (Nat.le_of_ble_eq_true rfl) ⟨Nat.le_of_ble_eq_true rfl, Nat.le_of_ble_eq_true rfl⟩ dX9_isPlayed_79 (fun H locs hp => ?_)
    obtain ⟨hg, h⟩ := gd_of h
    cases h
    exact hR _ _ _ _ dX9_isPlayed_82 (g_nzg hg) hp
  refine r_ite h (fun hv h => ?_) (fun hv4 h => ?_)
  · refine r_tswIn (tgt := 83) (v := 4) C hv dX9_isPlayed_24 (by decide) rfl (by decide) ?_
    refine lv_aload_n C.1 C.2.1 dX9_isPlayed_83 rfl (lv_at hl 2 rfl) ?_
    refine lv_iload_n C.1 C.2.1 dX9_isPlayed_84 rfl (lv_at hl 0 rfl) ?_
    refine lv_iload_n C.1 C.2.1 dX9_isPlayed_85 rfl (lv_at hl 1 rfl) ?_
    obtain ⟨x15, M16, hr, h⟩ := bW_of h
    refine r_callVI (As := [.int (gI x12), .int (gI x11)]) (rest := []) C hl.1 hp (c_X9_kind l C.2.2.2.2.2.2.2.2.2.2.2 hr) gw_1712 gw_1392 gw_1393 mk_0 ms_0 mc_0 cal_X9_kind rfl rfl (Nat.le_of_ble_eq_true rfl) ⟨Nat.le_of_ble_eq_true rfl, Nat.le_of_ble_eq_true rfl⟩ dX9_isPlayed_86 (fun H locs hp => ?_)
    obtain ⟨hg, h⟩ := gd_of h
    cases h
    exact hR _ _ _ _ dX9_isPlayed_89 (g_nzg hg) hp
  refine r_ite h (fun hv h => ?_) (fun hv5 h => ?_)
  · refine r_tswIn (tgt := 90) (v := 5) C hv dX9_isPlayed_24 (by decide) rfl (by decide) ?_
    refine lv_aload_n C.1 C.2.1 dX9_isPlayed_90 rfl (lv_at hl 2 rfl) ?_
    refine lv_iload_n C.1 C.2.1 dX9_isPlayed_91 rfl (lv_at hl 1 rfl) ?_
    refine lv_iload_n C.1 C.2.1 dX9_isPlayed_92 rfl (lv_at hl 0 rfl) ?_
    obtain ⟨x17, M18, hr, h⟩ := bW_of h
    refine r_callVI (As := [.int (gI x11), .int (gI x12)]) (rest := []) C hl.1 hp (c_X9_person l C.2.2.2.2.2.2.2.2.2.2.2 hr) gw_1713 gw_1396 gw_1397 mk_0 ms_0 mc_0 cal_X9_person rfl rfl (Nat.le_of_ble_eq_true rfl) ⟨Nat.le_of_ble_eq_true rfl, Nat.le_of_ble_eq_true rfl⟩ dX9_isPlayed_93 (fun H locs hp => ?_)
    refine r_if_lt (tgt := 103) C h dX9_isPlayed_96 (by decide) (fun h => ?_) (fun h => ?_)
    · refine r_iconst C dX9_isPlayed_103 ?_
      cases h
      exact hR _ _ _ _ dX9_isPlayed_104 g_nz0 hp
    · refine r_iconst C dX9_isPlayed_99 ?_
      refine r_goto (tgt := 104) C dX9_isPlayed_100 (by decide) ?_
      cases h
      exact hR _ _ _ _ dX9_isPlayed_104 g_nz1 hp
  refine r_ite h (fun hv h => ?_) (fun hv6 h => ?_)
  · refine r_tswIn (tgt := 105) (v := 6) C hv dX9_isPlayed_24 (by decide) rfl (by decide) ?_
    refine lv_aload_n C.1 C.2.1 dX9_isPlayed_105 rfl (lv_at hl 2 rfl) ?_
    refine lv_iload_n C.1 C.2.1 dX9_isPlayed_106 rfl (lv_at hl 1 rfl) ?_
    refine lv_iload_n C.1 C.2.1 dX9_isPlayed_107 rfl (lv_at hl 0 rfl) ?_
    obtain ⟨x19, M20, hr, h⟩ := bW_of h
    refine r_callVI (As := [.int (gI x11), .int (gI x12)]) (rest := []) C hl.1 hp (c_X9_seat l C.2.2.2.2.2.2.2.2.2.2.2 hr) gw_1714 gw_1580 gw_1581 mk_0 ms_0 mc_0 cal_X9_seat rfl rfl (Nat.le_of_ble_eq_true rfl) ⟨Nat.le_of_ble_eq_true rfl, Nat.le_of_ble_eq_true rfl⟩ dX9_isPlayed_108 (fun H locs hp => ?_)
    obtain ⟨hg, h⟩ := gd_of h
    cases h
    exact hR _ _ _ _ dX9_isPlayed_111 (g_nzg hg) hp
  refine r_ite h (fun hv h => ?_) (fun hv7 h => ?_)
  · refine r_tswIn (tgt := 112) (v := 7) C hv dX9_isPlayed_24 (by decide) rfl (by decide) ?_
    refine lv_aload_n C.1 C.2.1 dX9_isPlayed_112 rfl (lv_at hl 2 rfl) ?_
    refine lv_iload_n C.1 C.2.1 dX9_isPlayed_113 rfl (lv_at hl 1 rfl) ?_
    refine lv_iload_n C.1 C.2.1 dX9_isPlayed_114 rfl (lv_at hl 0 rfl) ?_
    obtain ⟨x21, M22, hr, h⟩ := bW_of h
    refine r_callVI (As := [.int (gI x11), .int (gI x12)]) (rest := []) C hl.1 hp (c_X9_call l C.2.2.2.2.2.2.2.2.2.2.2 hr) gw_1715 gw_1596 gw_1597 mk_0 ms_0 mc_0 cal_X9_call rfl rfl (Nat.le_of_ble_eq_true rfl) ⟨Nat.le_of_ble_eq_true rfl, Nat.le_of_ble_eq_true rfl⟩ dX9_isPlayed_115 (fun H locs hp => ?_)
    obtain ⟨hg, h⟩ := gd_of h
    cases h
    exact hR _ _ _ _ dX9_isPlayed_118 (g_nzg hg) hp
  refine r_ite h (fun hv h => ?_) (fun hv8 h => ?_)
  · refine r_tswIn (tgt := 119) (v := 8) C hv dX9_isPlayed_24 (by decide) rfl (by decide) ?_
    refine lv_aload_n C.1 C.2.1 dX9_isPlayed_119 rfl (lv_at hl 2 rfl) ?_
    refine lv_iload_n C.1 C.2.1 dX9_isPlayed_120 rfl (lv_at hl 1 rfl) ?_
    obtain ⟨x23, M24, hr, h⟩ := bW_of h
    refine r_callVI (As := [.int (gI x11)]) (rest := []) C hl.1 hp (c_X9_mend l C.2.2.2.2.2.2.2.2.2.2.2 hr) gw_1716 gw_1608 gw_1609 mk_0 ms_0 mc_0 cal_X9_mend rfl rfl (Nat.le_of_ble_eq_true rfl) ⟨Nat.le_of_ble_eq_true rfl, Nat.le_of_ble_eq_true rfl⟩ dX9_isPlayed_121 (fun H locs hp => ?_)
    obtain ⟨hg, h⟩ := gd_of h
    cases h
    exact hR _ _ _ _ dX9_isPlayed_124 (g_nzg hg) hp
  refine r_ite h (fun hv h => ?_) (fun hv9 h => ?_)
  · refine r_tswIn (tgt := 125) (v := 9) C hv dX9_isPlayed_24 (by decide) rfl (by decide) ?_
    refine lv_aload_n C.1 C.2.1 dX9_isPlayed_125 rfl (lv_at hl 2 rfl) ?_
    refine lv_iload_n C.1 C.2.1 dX9_isPlayed_126 rfl (lv_at hl 1 rfl) ?_
    obtain ⟨x25, M26, hr, h⟩ := bW_of h
    refine r_callVI (As := [.int (gI x11)]) (rest := []) C hl.1 hp (c_X9_arePassed l C.2.2.2.2.2.2.2.2.2.2.2 hr) gw_1619 gw_1621 gw_83 mk_0 ms_0 mc_0 cal_X9_arePassed rfl rfl (Nat.le_of_ble_eq_true rfl) ⟨Nat.le_of_ble_eq_true rfl, Nat.le_of_ble_eq_true rfl⟩ dX9_isPlayed_127 (fun H locs hp => ?_)
    obtain ⟨hg, h⟩ := gd_of h
    cases h
    exact hR _ _ _ _ dX9_isPlayed_130 (g_nzg hg) hp
  have hd : W p l e R s m args below meth c H locs 0 0 Q (F0 m 131 ls []) := by
    refine r_iconst C dX9_isPlayed_131 ?_
    cases h
    exact hR _ _ _ _ dX9_isPlayed_132 g_nz1 hp
  exact r_tswOut (tgt := 131) C dX9_isPlayed_24 (by omega) (by decide) hd
theorem c_X9_isPlayed (l : Launch) {V : g_V} (hok : g_ok mG V) {a1 : Int} {M : g_M} {x : Int} {M2 : g_M} (h : m_X9_isPlayed a1 M = some (x, M2)) : MetI mG V l yX9_isPlayed cX9_isPlayed 4 (some .boolean) 8 190 [.ref (V.2.2 0), .int (gI a1)] M x M2 :=
  g_metI hok cal_X9_isPlayed.2.2.2 rfl (Nat.le_of_ble_eq_true rfl) (@fun p e R s m args below meth c Q ls C hR hp hl => b_X9_isPlayed C hR h hp hl)
set_option maxRecDepth 100000 in
set_option maxHeartbeats 4000000 in
theorem w_X9_played_L21 (C : g_CX mG V p R s m args meth c cX9_played 3 (some .int) RX9 9 213) {res : Int × g_M} (hR : g_RetI mG V p l e R s m args below meth c Q cX9_played .int res.1 res.2) (x13 : Int)   : ∀ (f : Nat) (x14 : Int) (M15 : g_M) (H : Heap) (locs : List Loc) (ls : Array Slot), m_X9_played_L21 x13  f x14 M15 = some res → g_PT mG V M15 s H locs → lv_has ls 3 [(0, .ref (V.2.2 0)), (1, .int (gI x13)), (2, .int (gI x14))] → W p l e R s m args below meth c H locs 0 0 Q (F0 m 21 ls []) := by
  intro f
  induction f with
  | zero => intro x14 M15 H locs ls h hp hl; cases h
  | succ f ih =>
    intro x14 M15 H locs ls h hp hl
    rw [m_X9_played_L21] at h
    refine lv_iload_n C.1 C.2.1 dX9_played_21 rfl (lv_at hl 2 rfl) ?_
    refine lv_aload_n C.1 C.2.1 dX9_played_22 rfl (lv_at hl 0 rfl) ?_
    refine r_getr (t := 3) C hp mk_0 ms_0 mc_0 min_0 (j := 2) (by decide) rfl gw_1258 rfl dX9_played_23 ?_
    refine r_sipush C dX9_played_26 (by decide +kernel) ?_
    refine lv_iload_n C.1 C.2.1 dX9_played_29 rfl (lv_at hl 1 rfl) ?_
    refine r_imul C dX9_played_30 ?_
    refine r_iald C hp h mk_3 ms_3 dX9_played_31 (fun h => ?_)
    refine r_icmp_ge (tgt := 61) C h dX9_played_32 (by decide) (fun h => ?_) (fun h => ?_)
    · refine r_iconst C dX9_played_61 ?_
      cases h
      exact hR _ _ _ _ dX9_played_62 rfl hp
    · refine lv_aload_n C.1 C.2.1 dX9_played_35 rfl (lv_at hl 0 rfl) ?_
      refine r_sipush C dX9_played_36 (by decide +kernel) ?_
      refine lv_iload_n C.1 C.2.1 dX9_played_39 rfl (lv_at hl 1 rfl) ?_
      refine r_imul C dX9_played_40 ?_
      refine r_iconst C dX9_played_41 ?_
      refine r_iadd C dX9_played_42 ?_
      refine r_iconst C dX9_played_43 ?_
      refine lv_iload_n C.1 C.2.1 dX9_played_44 rfl (lv_at hl 2 rfl) ?_
      refine r_imul C dX9_played_45 ?_
      refine r_iadd C dX9_played_46 ?_
      obtain ⟨x16, M17, hr, h⟩ := bW_of h
      refine r_callVI (As := [.int (gI (((705 * x13) + 1) + (4 * x14)))]) (rest := []) C hl.1 hp (c_X9_isPlayed l C.2.2.2.2.2.2.2.2.2.2.2 hr) gw_1707 gw_1709 gw_97 mk_0 ms_0 mc_0 cal_X9_isPlayed rfl rfl (Nat.le_of_ble_eq_true rfl) ⟨Nat.le_of_ble_eq_true rfl, Nat.le_of_ble_eq_true rfl⟩ dX9_played_47 (fun H locs hp => ?_)
      refine r_if_ne (tgt := 55) C h dX9_played_50 (by decide) (fun h => ?_) (fun h => ?_)
      · refine r_iinc (lv' := fun x18 => [(2, .int (gI x18)), (0, .ref (V.2.2 0)), (1, .int (gI x13))]) C h dX9_played_55 hl (j := 2) rfl (by decide) (fun _ => rfl) (fun x18 ls h hl => ?_)
        refine r_goto (tgt := 21) C dX9_played_58 (by decide) ?_
        exact ih _ _ _ _ _ h hp (lv_sub hl [1, 2, 0] rfl)
      · refine lv_iload_n C.1 C.2.1 dX9_played_53 rfl (lv_at hl 2 rfl) ?_
        cases h
        exact hR _ _ _ _ dX9_played_54 rfl hp
set_option maxRecDepth 100000 in
set_option maxHeartbeats 4000000 in
theorem b_X9_played (C : g_CX mG V p R s m args meth c cX9_played 3 (some .int) RX9 9 213) {res : Int × g_M} (hR : g_RetI mG V p l e R s m args below meth c Q cX9_played .int res.1 res.2) {a1 : Int} {M : g_M} {H : Heap} {locs : List Loc} {ls : Array Slot} (h : m_X9_played a1 M = some res) (hp : g_PT mG V M s H locs) (hl : lv_has ls 3 [(0, .ref (V.2.2 0)), (1, .int (gI a1))]) : W p l e R s m args below meth c H locs 0 0 Q (F0 m 0 ls []) := by
  unfold m_X9_played at h
  refine lv_iload_n C.1 C.2.1 dX9_played_0 rfl (lv_at hl 1 rfl) ?_
  refine r_iconst C dX9_played_1 ?_
  refine lv_aload_n C.1 C.2.1 dX9_played_2 rfl (lv_at hl 0 rfl) ?_
  refine r_getr (t := 1) C hp mk_0 ms_0 mc_0 min_0 (j := 0) (by decide) rfl gw_1256 rfl dX9_played_3 ?_
  refine r_iconst C dX9_played_6 ?_
  refine r_iald C hp h mk_1 ms_1 dX9_played_7 (fun h => ?_)
  refine r_iconst C dX9_played_8 ?_
  refine r_isub C dX9_played_9 ?_
  obtain ⟨x11, hr, h⟩ := bd_of h
  refine r_callSI (As := [.int (gI a1), .int (gI 0), .int (gI ((M 1 (gs 1).toNat) - 1))]) (rest := []) C hl.1 hp (c_X9_isIn l C.2.2.2.2.2.2.2.2.2.2.2 hr) gw_1378 gw_1379 cal_X9_isIn rfl rfl (Nat.le_of_ble_eq_true rfl) ⟨Nat.le_of_ble_eq_true rfl, Nat.le_of_ble_eq_true rfl⟩ dX9_played_10 (fun H locs hp => ?_)
  refine r_if_ne (tgt := 19) C h dX9_played_13 (by decide) (fun h => ?_) (fun h => ?_)
  · refine r_iconst C dX9_played_19 ?_
    refine r_istore_n (lv' := fun x12 => [(2, .int (gI x12)), (0, .ref (V.2.2 0)), (1, .int (gI a1))]) C h dX9_played_20 rfl hl (by decide) (fun _ => rfl) (fun x12 ls h hl => ?_)
    refine w_X9_played_L21 C hR _ _ _ _ H locs ls h hp (lv_sub hl [1, 2, 0] rfl)
  · refine r_bipush C dX9_played_16 (by decide +kernel) ?_
    cases h
    exact hR _ _ _ _ dX9_played_18 rfl hp
theorem c_X9_played (l : Launch) {V : g_V} (hok : g_ok mG V) {a1 : Int} {M : g_M} {x : Int} {M2 : g_M} (h : m_X9_played a1 M = some (x, M2)) : MetI mG V l yX9_played cX9_played 3 (some .int) 9 213 [.ref (V.2.2 0), .int (gI a1)] M x M2 :=
  g_metI hok cal_X9_played.2.2.2 rfl (Nat.le_of_ble_eq_true rfl) (@fun p e R s m args below meth c Q ls C hR hp hl => b_X9_played C hR h hp hl)
end
