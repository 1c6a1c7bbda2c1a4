theorem dX0_survey_0 : decode cX0_survey 0 = .ok (.iconst 0, 1) := by decide +kernel
theorem dX0_survey_1 : decode cX0_survey 1 = .ok (.istore_n 1, 1) := by decide +kernel
theorem dX0_survey_2 : decode cX0_survey 2 = .ok (.iload_n 1, 1) := by decide +kernel
theorem dX0_survey_3 : decode cX0_survey 3 = .ok (.bipush 13, 2) := by decide +kernel
theorem dX0_survey_5 : decode cX0_survey 5 = .ok (.if_icmp .ge 41, 3) := by decide +kernel
theorem dX0_survey_8 : decode cX0_survey 8 = .ok (.iconst 0, 1) := by decide +kernel
theorem dX0_survey_9 : decode cX0_survey 9 = .ok (.istore_n 2, 1) := by decide +kernel
theorem dX0_survey_10 : decode cX0_survey 10 = .ok (.iload_n 2, 1) := by decide +kernel
theorem dX0_survey_11 : decode cX0_survey 11 = .ok (.iconst 4, 1) := by decide +kernel
theorem dX0_survey_12 : decode cX0_survey 12 = .ok (.if_icmp .ge 28, 3) := by decide +kernel
theorem dX0_survey_15 : decode cX0_survey 15 = .ok (.aload_n 0, 1) := by decide +kernel
theorem dX0_survey_16 : decode cX0_survey 16 = .ok (.getfield 9, 3) := by decide +kernel
theorem dX0_survey_19 : decode cX0_survey 19 = .ok (.iload_n 1, 1) := by decide +kernel
theorem dX0_survey_20 : decode cX0_survey 20 = .ok (.iconst 4, 1) := by decide +kernel
theorem dX0_survey_21 : decode cX0_survey 21 = .ok (.imul, 1) := by decide +kernel
theorem dX0_survey_22 : decode cX0_survey 22 = .ok (.iload_n 2, 1) := by decide +kernel
theorem dX0_survey_23 : decode cX0_survey 23 = .ok (.iadd, 1) := by decide +kernel
theorem dX0_survey_24 : decode cX0_survey 24 = .ok (.aload_n 0, 1) := by decide +kernel
theorem dX0_survey_25 : decode cX0_survey 25 = .ok (.getfield 37, 3) := by decide +kernel
theorem dX0_survey_28 : decode cX0_survey 28 = .ok (.iload_n 1, 1) := by decide +kernel
theorem dX0_survey_29 : decode cX0_survey 29 = .ok (.iload_n 2, 1) := by decide +kernel
theorem dX0_survey_30 : decode cX0_survey 30 = .ok (.invokevirtual 41, 3) := by decide +kernel
theorem dX0_survey_33 : decode cX0_survey 33 = .ok (.iastore, 1) := by decide +kernel
theorem dX0_survey_34 : decode cX0_survey 34 = .ok (.iinc 2 1, 3) := by decide +kernel
theorem dX0_survey_37 : decode cX0_survey 37 = .ok (.goto (-27), 3) := by decide +kernel
theorem dX0_survey_40 : decode cX0_survey 40 = .ok (.iinc 1 1, 3) := by decide +kernel
theorem dX0_survey_43 : decode cX0_survey 43 = .ok (.goto (-41), 3) := by decide +kernel
theorem dX0_survey_46 : decode cX0_survey 46 = .ok (.return_, 1) := by decide +kernel
theorem dX0_measureTo_0 : decode cX0_measureTo 0 = .ok (.aload_n 0, 1) := by decide +kernel
theorem dX0_measureTo_1 : decode cX0_measureTo 1 = .ok (.invokevirtual 47, 3) := by decide +kernel
theorem dX0_measureTo_4 : decode cX0_measureTo 4 = .ok (.iconst 0, 1) := by decide +kernel
theorem dX0_measureTo_5 : decode cX0_measureTo 5 = .ok (.istore_n 2, 1) := by decide +kernel
theorem dX0_measureTo_6 : decode cX0_measureTo 6 = .ok (.iload_n 2, 1) := by decide +kernel
theorem dX0_measureTo_7 : decode cX0_measureTo 7 = .ok (.bipush 13, 2) := by decide +kernel
theorem dX0_measureTo_9 : decode cX0_measureTo 9 = .ok (.if_icmp .ge 27, 3) := by decide +kernel
theorem dX0_measureTo_12 : decode cX0_measureTo 12 = .ok (.aload_n 0, 1) := by decide +kernel
theorem dX0_measureTo_13 : decode cX0_measureTo 13 = .ok (.getfield 15, 3) := by decide +kernel
theorem dX0_measureTo_16 : decode cX0_measureTo 16 = .ok (.iload_n 2, 1) := by decide +kernel
theorem dX0_measureTo_17 : decode cX0_measureTo 17 = .ok (.iload_n 2, 1) := by decide +kernel
theorem dX0_measureTo_18 : decode cX0_measureTo 18 = .ok (.iload_n 1, 1) := by decide +kernel
theorem dX0_measureTo_19 : decode cX0_measureTo 19 = .ok (.if_icmp .ne 7, 3) := by decide +kernel
theorem dX0_measureTo_22 : decode cX0_measureTo 22 = .ok (.iconst 0, 1) := by decide +kernel
theorem dX0_measureTo_23 : decode cX0_measureTo 23 = .ok (.goto 6, 3) := by decide +kernel
theorem dX0_measureTo_26 : decode cX0_measureTo 26 = .ok (.sipush 1000, 3) := by decide +kernel
theorem dX0_measureTo_29 : decode cX0_measureTo 29 = .ok (.iastore, 1) := by decide +kernel
theorem dX0_measureTo_30 : decode cX0_measureTo 30 = .ok (.iinc 2 1, 3) := by decide +kernel
theorem dX0_measureTo_33 : decode cX0_measureTo 33 = .ok (.goto (-27), 3) := by decide +kernel
theorem dX0_measureTo_36 : decode cX0_measureTo 36 = .ok (.iconst 1, 1) := by decide +kernel
theorem dX0_measureTo_37 : decode cX0_measureTo 37 = .ok (.istore_n 2, 1) := by decide +kernel
theorem dX0_measureTo_38 : decode cX0_measureTo 38 = .ok (.iconst 0, 1) := by decide +kernel
theorem dX0_measureTo_39 : decode cX0_measureTo 39 = .ok (.istore_n 3, 1) := by decide +kernel
theorem dX0_measureTo_40 : decode cX0_measureTo 40 = .ok (.iload_n 3, 1) := by decide +kernel
theorem dX0_measureTo_41 : decode cX0_measureTo 41 = .ok (.bipush 13, 2) := by decide +kernel
theorem dX0_measureTo_43 : decode cX0_measureTo 43 = .ok (.if_icmp .ge 74, 3) := by decide +kernel
theorem dX0_measureTo_46 : decode cX0_measureTo 46 = .ok (.iload_n 2, 1) := by decide +kernel
theorem dX0_measureTo_47 : decode cX0_measureTo 47 = .ok (.ifCond .eq 70, 3) := by decide +kernel
theorem dX0_measureTo_50 : decode cX0_measureTo 50 = .ok (.iconst 0, 1) := by decide +kernel
theorem dX0_measureTo_51 : decode cX0_measureTo 51 = .ok (.istore_n 2, 1) := by decide +kernel
theorem dX0_measureTo_52 : decode cX0_measureTo 52 = .ok (.iconst 0, 1) := by decide +kernel
theorem dX0_measureTo_53 : decode cX0_measureTo 53 = .ok (.istore 4, 2) := by decide +kernel
theorem dX0_measureTo_55 : decode cX0_measureTo 55 = .ok (.iload 4, 2) := by decide +kernel
theorem dX0_measureTo_57 : decode cX0_measureTo 57 = .ok (.bipush 52, 2) := by decide +kernel
theorem dX0_measureTo_59 : decode cX0_measureTo 59 = .ok (.if_icmp .ge 52, 3) := by decide +kernel
theorem dX0_measureTo_62 : decode cX0_measureTo 62 = .ok (.aload_n 0, 1) := by decide +kernel
theorem dX0_measureTo_63 : decode cX0_measureTo 63 = .ok (.getfield 15, 3) := by decide +kernel
theorem dX0_measureTo_66 : decode cX0_measureTo 66 = .ok (.aload_n 0, 1) := by decide +kernel
theorem dX0_measureTo_67 : decode cX0_measureTo 67 = .ok (.getfield 9, 3) := by decide +kernel
theorem dX0_measureTo_70 : decode cX0_measureTo 70 = .ok (.iload 4, 2) := by decide +kernel
theorem dX0_measureTo_72 : decode cX0_measureTo 72 = .ok (.iaload, 1) := by decide +kernel
theorem dX0_measureTo_73 : decode cX0_measureTo 73 = .ok (.iaload, 1) := by decide +kernel
theorem dX0_measureTo_74 : decode cX0_measureTo 74 = .ok (.iconst 1, 1) := by decide +kernel
theorem dX0_measureTo_75 : decode cX0_measureTo 75 = .ok (.iadd, 1) := by decide +kernel
theorem dX0_measureTo_76 : decode cX0_measureTo 76 = .ok (.istore 5, 2) := by decide +kernel
theorem dX0_measureTo_78 : decode cX0_measureTo 78 = .ok (.iload 5, 2) := by decide +kernel
theorem dX0_measureTo_80 : decode cX0_measureTo 80 = .ok (.aload_n 0, 1) := by decide +kernel
theorem dX0_measureTo_81 : decode cX0_measureTo 81 = .ok (.getfield 15, 3) := by decide +kernel
theorem dX0_measureTo_84 : decode cX0_measureTo 84 = .ok (.iload 4, 2) := by decide +kernel
theorem dX0_measureTo_86 : decode cX0_measureTo 86 = .ok (.iconst 4, 1) := by decide +kernel
theorem dX0_measureTo_87 : decode cX0_measureTo 87 = .ok (.idiv, 1) := by decide +kernel
theorem dX0_measureTo_88 : decode cX0_measureTo 88 = .ok (.iaload, 1) := by decide +kernel
theorem dX0_measureTo_89 : decode cX0_measureTo 89 = .ok (.if_icmp .ge 16, 3) := by decide +kernel
theorem dX0_measureTo_92 : decode cX0_measureTo 92 = .ok (.aload_n 0, 1) := by decide +kernel
theorem dX0_measureTo_93 : decode cX0_measureTo 93 = .ok (.getfield 15, 3) := by decide +kernel
theorem dX0_measureTo_96 : decode cX0_measureTo 96 = .ok (.iload 4, 2) := by decide +kernel
theorem dX0_measureTo_98 : decode cX0_measureTo 98 = .ok (.iconst 4, 1) := by decide +kernel
theorem dX0_measureTo_99 : decode cX0_measureTo 99 = .ok (.idiv, 1) := by decide +kernel
theorem dX0_measureTo_100 : decode cX0_measureTo 100 = .ok (.iload 5, 2) := by decide +kernel
theorem dX0_measureTo_102 : decode cX0_measureTo 102 = .ok (.iastore, 1) := by decide +kernel
theorem dX0_measureTo_103 : decode cX0_measureTo 103 = .ok (.iconst 1, 1) := by decide +kernel
theorem dX0_measureTo_104 : decode cX0_measureTo 104 = .ok (.istore_n 2, 1) := by decide +kernel
theorem dX0_measureTo_105 : decode cX0_measureTo 105 = .ok (.iinc 4 1, 3) := by decide +kernel
theorem dX0_measureTo_108 : decode cX0_measureTo 108 = .ok (.goto (-53), 3) := by decide +kernel
theorem dX0_measureTo_111 : decode cX0_measureTo 111 = .ok (.iinc 3 1, 3) := by decide +kernel
theorem dX0_measureTo_114 : decode cX0_measureTo 114 = .ok (.goto (-74), 3) := by decide +kernel
theorem dX0_measureTo_117 : decode cX0_measureTo 117 = .ok (.return_, 1) := by decide +kernel
theorem dX0_shortestWay_0 : decode cX0_shortestWay 0 = .ok (.aload_n 0, 1) := by decide +kernel
theorem dX0_shortestWay_1 : decode cX0_shortestWay 1 = .ok (.iload_n 2, 1) := by decide +kernel
theorem dX0_shortestWay_2 : decode cX0_shortestWay 2 = .ok (.invokevirtual 50, 3) := by decide +kernel
theorem dX0_shortestWay_5 : decode cX0_shortestWay 5 = .ok (.aload_n 0, 1) := by decide +kernel
theorem dX0_shortestWay_6 : decode cX0_shortestWay 6 = .ok (.getfield 15, 3) := by decide +kernel
theorem dX0_shortestWay_9 : decode cX0_shortestWay 9 = .ok (.iload_n 1, 1) := by decide +kernel
theorem dX0_shortestWay_10 : decode cX0_shortestWay 10 = .ok (.iaload, 1) := by decide +kernel
theorem dX0_shortestWay_11 : decode cX0_shortestWay 11 = .ok (.istore 4, 2) := by decide +kernel
theorem dX0_shortestWay_13 : decode cX0_shortestWay 13 = .ok (.iload 4, 2) := by decide +kernel
theorem dX0_shortestWay_15 : decode cX0_shortestWay 15 = .ok (.sipush 1000, 3) := by decide +kernel
theorem dX0_shortestWay_18 : decode cX0_shortestWay 18 = .ok (.if_icmp .ne 6, 3) := by decide +kernel
theorem dX0_shortestWay_21 : decode cX0_shortestWay 21 = .ok (.bipush (-2), 2) := by decide +kernel
theorem dX0_shortestWay_23 : decode cX0_shortestWay 23 = .ok (.ireturn, 1) := by decide +kernel
theorem dX0_shortestWay_24 : decode cX0_shortestWay 24 = .ok (.iload_n 3, 1) := by decide +kernel
theorem dX0_shortestWay_25 : decode cX0_shortestWay 25 = .ok (.iconst (-1), 1) := by decide +kernel
theorem dX0_shortestWay_26 : decode cX0_shortestWay 26 = .ok (.if_icmp .ne 6, 3) := by decide +kernel
theorem dX0_shortestWay_29 : decode cX0_shortestWay 29 = .ok (.iload 4, 2) := by decide +kernel
theorem dX0_shortestWay_31 : decode cX0_shortestWay 31 = .ok (.ireturn, 1) := by decide +kernel
theorem dX0_shortestWay_32 : decode cX0_shortestWay 32 = .ok (.iload_n 3, 1) := by decide +kernel
theorem dX0_shortestWay_33 : decode cX0_shortestWay 33 = .ok (.iconst 0, 1) := by decide +kernel
theorem dX0_shortestWay_34 : decode cX0_shortestWay 34 = .ok (.iload 4, 2) := by decide +kernel
theorem dX0_shortestWay_36 : decode cX0_shortestWay 36 = .ok (.iconst 1, 1) := by decide +kernel
theorem dX0_shortestWay_37 : decode cX0_shortestWay 37 = .ok (.isub, 1) := by decide +kernel
theorem dX0_shortestWay_38 : decode cX0_shortestWay 38 = .ok (.invokestatic 54, 3) := by decide +kernel
theorem dX0_shortestWay_41 : decode cX0_shortestWay 41 = .ok (.ifCond .ne 6, 3) := by decide +kernel
theorem dX0_shortestWay_44 : decode cX0_shortestWay 44 = .ok (.bipush (-2), 2) := by decide +kernel
theorem dX0_shortestWay_46 : decode cX0_shortestWay 46 = .ok (.ireturn, 1) := by decide +kernel
theorem dX0_shortestWay_47 : decode cX0_shortestWay 47 = .ok (.iload_n 1, 1) := by decide +kernel
theorem dX0_shortestWay_48 : decode cX0_shortestWay 48 = .ok (.istore 5, 2) := by decide +kernel
theorem dX0_shortestWay_50 : decode cX0_shortestWay 50 = .ok (.iconst 0, 1) := by decide +kernel
theorem dX0_shortestWay_51 : decode cX0_shortestWay 51 = .ok (.istore 6, 2) := by decide +kernel
theorem dX0_shortestWay_53 : decode cX0_shortestWay 53 = .ok (.iload 6, 2) := by decide +kernel
theorem dX0_shortestWay_55 : decode cX0_shortestWay 55 = .ok (.iload_n 3, 1) := by decide +kernel
theorem dX0_shortestWay_56 : decode cX0_shortestWay 56 = .ok (.if_icmp .ge 27, 3) := by decide +kernel
theorem dX0_shortestWay_59 : decode cX0_shortestWay 59 = .ok (.aload_n 0, 1) := by decide +kernel
theorem dX0_shortestWay_60 : decode cX0_shortestWay 60 = .ok (.getfield 9, 3) := by decide +kernel
theorem dX0_shortestWay_63 : decode cX0_shortestWay 63 = .ok (.iload 5, 2) := by decide +kernel
theorem dX0_shortestWay_65 : decode cX0_shortestWay 65 = .ok (.iconst 4, 1) := by decide +kernel
theorem dX0_shortestWay_66 : decode cX0_shortestWay 66 = .ok (.imul, 1) := by decide +kernel
theorem dX0_shortestWay_67 : decode cX0_shortestWay 67 = .ok (.aload_n 0, 1) := by decide +kernel
theorem dX0_shortestWay_68 : decode cX0_shortestWay 68 = .ok (.iload 5, 2) := by decide +kernel
theorem dX0_shortestWay_70 : decode cX0_shortestWay 70 = .ok (.invokevirtual 58, 3) := by decide +kernel
theorem dX0_shortestWay_73 : decode cX0_shortestWay 73 = .ok (.iadd, 1) := by decide +kernel
theorem dX0_shortestWay_74 : decode cX0_shortestWay 74 = .ok (.iaload, 1) := by decide +kernel
theorem dX0_shortestWay_75 : decode cX0_shortestWay 75 = .ok (.istore 5, 2) := by decide +kernel
theorem dX0_shortestWay_77 : decode cX0_shortestWay 77 = .ok (.iinc 6 1, 3) := by decide +kernel
theorem dX0_shortestWay_80 : decode cX0_shortestWay 80 = .ok (.goto (-27), 3) := by decide +kernel
theorem dX0_shortestWay_83 : decode cX0_shortestWay 83 = .ok (.aload_n 0, 1) := by decide +kernel
theorem dX0_shortestWay_84 : decode cX0_shortestWay 84 = .ok (.iload 5, 2) := by decide +kernel
theorem dX0_shortestWay_86 : decode cX0_shortestWay 86 = .ok (.invokevirtual 58, 3) := by decide +kernel
theorem dX0_shortestWay_89 : decode cX0_shortestWay 89 = .ok (.ireturn, 1) := by decide +kernel
theorem dX0_nearerCue_0 : decode cX0_nearerCue 0 = .ok (.iconst 0, 1) := by decide +kernel
theorem dX0_nearerCue_1 : decode cX0_nearerCue 1 = .ok (.istore_n 2, 1) := by decide +kernel
theorem dX0_nearerCue_2 : decode cX0_nearerCue 2 = .ok (.iload_n 2, 1) := by decide +kernel
theorem dX0_nearerCue_3 : decode cX0_nearerCue 3 = .ok (.iconst 4, 1) := by decide +kernel
theorem dX0_nearerCue_4 : decode cX0_nearerCue 4 = .ok (.if_icmp .ge 37, 3) := by decide +kernel
theorem dX0_nearerCue_7 : decode cX0_nearerCue 7 = .ok (.aload_n 0, 1) := by decide +kernel
theorem dX0_nearerCue_8 : decode cX0_nearerCue 8 = .ok (.getfield 15, 3) := by decide +kernel
theorem dX0_nearerCue_11 : decode cX0_nearerCue 11 = .ok (.aload_n 0, 1) := by decide +kernel
theorem dX0_nearerCue_12 : decode cX0_nearerCue 12 = .ok (.getfield 9, 3) := by decide +kernel
theorem dX0_nearerCue_15 : decode cX0_nearerCue 15 = .ok (.iload_n 1, 1) := by decide +kernel
theorem dX0_nearerCue_16 : decode cX0_nearerCue 16 = .ok (.iconst 4, 1) := by decide +kernel
theorem dX0_nearerCue_17 : decode cX0_nearerCue 17 = .ok (.imul, 1) := by decide +kernel
theorem dX0_nearerCue_18 : decode cX0_nearerCue 18 = .ok (.iload_n 2, 1) := by decide +kernel
theorem dX0_nearerCue_19 : decode cX0_nearerCue 19 = .ok (.iadd, 1) := by decide +kernel
theorem dX0_nearerCue_20 : decode cX0_nearerCue 20 = .ok (.iaload, 1) := by decide +kernel
theorem dX0_nearerCue_21 : decode cX0_nearerCue 21 = .ok (.iaload, 1) := by decide +kernel
theorem dX0_nearerCue_22 : decode cX0_nearerCue 22 = .ok (.aload_n 0, 1) := by decide +kernel
theorem dX0_nearerCue_23 : decode cX0_nearerCue 23 = .ok (.getfield 15, 3) := by decide +kernel
theorem dX0_nearerCue_26 : decode cX0_nearerCue 26 = .ok (.iload_n 1, 1) := by decide +kernel
theorem dX0_nearerCue_27 : decode cX0_nearerCue 27 = .ok (.iaload, 1) := by decide +kernel
theorem dX0_nearerCue_28 : decode cX0_nearerCue 28 = .ok (.iconst 1, 1) := by decide +kernel
theorem dX0_nearerCue_29 : decode cX0_nearerCue 29 = .ok (.isub, 1) := by decide +kernel
theorem dX0_nearerCue_30 : decode cX0_nearerCue 30 = .ok (.if_icmp .ne 5, 3) := by decide +kernel
theorem dX0_nearerCue_33 : decode cX0_nearerCue 33 = .ok (.iload_n 2, 1) := by decide +kernel
theorem dX0_nearerCue_34 : decode cX0_nearerCue 34 = .ok (.ireturn, 1) := by decide +kernel
theorem dX0_nearerCue_35 : decode cX0_nearerCue 35 = .ok (.iinc 2 1, 3) := by decide +kernel
theorem dX0_nearerCue_38 : decode cX0_nearerCue 38 = .ok (.goto (-36), 3) := by decide +kernel
theorem dX0_nearerCue_41 : decode cX0_nearerCue 41 = .ok (.iconst 0, 1) := by decide +kernel
theorem dX0_nearerCue_42 : decode cX0_nearerCue 42 = .ok (.ireturn, 1) := by decide +kernel
theorem dX0_comesAgain_0 : decode cX0_comesAgain 0 = .ok (.aload_n 0, 1) := by decide +kernel
theorem dX0_comesAgain_1 : decode cX0_comesAgain 1 = .ok (.iload_n 1, 1) := by decide +kernel
theorem dX0_comesAgain_2 : decode cX0_comesAgain 2 = .ok (.invokevirtual 50, 3) := by decide +kernel
theorem dX0_comesAgain_5 : decode cX0_comesAgain 5 = .ok (.iconst 0, 1) := by decide +kernel
theorem dX0_comesAgain_6 : decode cX0_comesAgain 6 = .ok (.istore_n 2, 1) := by decide +kernel
theorem dX0_comesAgain_7 : decode cX0_comesAgain 7 = .ok (.iload_n 2, 1) := by decide +kernel
theorem dX0_comesAgain_8 : decode cX0_comesAgain 8 = .ok (.iconst 4, 1) := by decide +kernel
theorem dX0_comesAgain_9 : decode cX0_comesAgain 9 = .ok (.if_icmp .ge 32, 3) := by decide +kernel
theorem dX0_comesAgain_12 : decode cX0_comesAgain 12 = .ok (.aload_n 0, 1) := by decide +kernel
theorem dX0_comesAgain_13 : decode cX0_comesAgain 13 = .ok (.getfield 15, 3) := by decide +kernel
theorem dX0_comesAgain_16 : decode cX0_comesAgain 16 = .ok (.aload_n 0, 1) := by decide +kernel
theorem dX0_comesAgain_17 : decode cX0_comesAgain 17 = .ok (.getfield 9, 3) := by decide +kernel
theorem dX0_comesAgain_20 : decode cX0_comesAgain 20 = .ok (.iload_n 1, 1) := by decide +kernel
theorem dX0_comesAgain_21 : decode cX0_comesAgain 21 = .ok (.iconst 4, 1) := by decide +kernel
theorem dX0_comesAgain_22 : decode cX0_comesAgain 22 = .ok (.imul, 1) := by decide +kernel
theorem dX0_comesAgain_23 : decode cX0_comesAgain 23 = .ok (.iload_n 2, 1) := by decide +kernel
theorem dX0_comesAgain_24 : decode cX0_comesAgain 24 = .ok (.iadd, 1) := by decide +kernel
theorem dX0_comesAgain_25 : decode cX0_comesAgain 25 = .ok (.iaload, 1) := by decide +kernel
theorem dX0_comesAgain_26 : decode cX0_comesAgain 26 = .ok (.iaload, 1) := by decide +kernel
theorem dX0_comesAgain_27 : decode cX0_comesAgain 27 = .ok (.sipush 1000, 3) := by decide +kernel
theorem dX0_comesAgain_30 : decode cX0_comesAgain 30 = .ok (.if_icmp .ge 5, 3) := by decide +kernel
theorem dX0_comesAgain_33 : decode cX0_comesAgain 33 = .ok (.iconst 1, 1) := by decide +kernel
theorem dX0_comesAgain_34 : decode cX0_comesAgain 34 = .ok (.ireturn, 1) := by decide +kernel
theorem dX0_comesAgain_35 : decode cX0_comesAgain 35 = .ok (.iinc 2 1, 3) := by decide +kernel
theorem dX0_comesAgain_38 : decode cX0_comesAgain 38 = .ok (.goto (-31), 3) := by decide +kernel
theorem dX0_comesAgain_41 : decode cX0_comesAgain 41 = .ok (.iconst 0, 1) := by decide +kernel
theorem dX0_comesAgain_42 : decode cX0_comesAgain 42 = .ok (.ireturn, 1) := by decide +kernel
theorem dX0_deadBits_0 : decode cX0_deadBits 0 = .ok (.aload_n 0, 1) := by decide +kernel
theorem dX0_deadBits_1 : decode cX0_deadBits 1 = .ok (.bipush 12, 2) := by decide +kernel
theorem dX0_deadBits_3 : decode cX0_deadBits 3 = .ok (.invokevirtual 50, 3) := by decide +kernel
theorem dX0_deadBits_6 : decode cX0_deadBits 6 = .ok (.iconst 0, 1) := by decide +kernel
theorem dX0_deadBits_7 : decode cX0_deadBits 7 = .ok (.istore_n 1, 1) := by decide +kernel
theorem dX0_deadBits_8 : decode cX0_deadBits 8 = .ok (.iconst 0, 1) := by decide +kernel
theorem dX0_deadBits_9 : decode cX0_deadBits 9 = .ok (.istore_n 2, 1) := by decide +kernel
theorem dX0_deadBits_10 : decode cX0_deadBits 10 = .ok (.iload_n 2, 1) := by decide +kernel
theorem dX0_deadBits_11 : decode cX0_deadBits 11 = .ok (.bipush 12, 2) := by decide +kernel
theorem dX0_deadBits_13 : decode cX0_deadBits 13 = .ok (.if_icmp .ge 27, 3) := by decide +kernel
theorem dX0_deadBits_16 : decode cX0_deadBits 16 = .ok (.aload_n 0, 1) := by decide +kernel
theorem dX0_deadBits_17 : decode cX0_deadBits 17 = .ok (.getfield 15, 3) := by decide +kernel
theorem dX0_deadBits_20 : decode cX0_deadBits 20 = .ok (.iload_n 2, 1) := by decide +kernel
theorem dX0_deadBits_21 : decode cX0_deadBits 21 = .ok (.iaload, 1) := by decide +kernel
theorem dX0_deadBits_22 : decode cX0_deadBits 22 = .ok (.sipush 1000, 3) := by decide +kernel
theorem dX0_deadBits_25 : decode cX0_deadBits 25 = .ok (.if_icmp .ne 9, 3) := by decide +kernel
theorem dX0_deadBits_28 : decode cX0_deadBits 28 = .ok (.iload_n 1, 1) := by decide +kernel
theorem dX0_deadBits_29 : decode cX0_deadBits 29 = .ok (.iconst 1, 1) := by decide +kernel
theorem dX0_deadBits_30 : decode cX0_deadBits 30 = .ok (.iload_n 2, 1) := by decide +kernel
theorem dX0_deadBits_31 : decode cX0_deadBits 31 = .ok (.ishl, 1) := by decide +kernel
theorem dX0_deadBits_32 : decode cX0_deadBits 32 = .ok (.ior, 1) := by decide +kernel
theorem dX0_deadBits_33 : decode cX0_deadBits 33 = .ok (.istore_n 1, 1) := by decide +kernel
theorem dX0_deadBits_34 : decode cX0_deadBits 34 = .ok (.iinc 2 1, 3) := by decide +kernel
theorem dX0_deadBits_37 : decode cX0_deadBits 37 = .ok (.goto (-27), 3) := by decide +kernel
theorem dX0_deadBits_40 : decode cX0_deadBits 40 = .ok (.iload_n 1, 1) := by decide +kernel
theorem dX0_deadBits_41 : decode cX0_deadBits 41 = .ok (.ireturn, 1) := by decide +kernel
theorem dX0_farthest_0 : decode cX0_farthest 0 = .ok (.aload_n 0, 1) := by decide +kernel
theorem dX0_farthest_1 : decode cX0_farthest 1 = .ok (.bipush 12, 2) := by decide +kernel
theorem dX0_farthest_3 : decode cX0_farthest 3 = .ok (.invokevirtual 50, 3) := by decide +kernel
theorem dX0_farthest_6 : decode cX0_farthest 6 = .ok (.iconst (-1), 1) := by decide +kernel
theorem dX0_farthest_7 : decode cX0_farthest 7 = .ok (.istore_n 1, 1) := by decide +kernel
theorem dX0_farthest_8 : decode cX0_farthest 8 = .ok (.iconst 0, 1) := by decide +kernel
theorem dX0_farthest_9 : decode cX0_farthest 9 = .ok (.istore_n 2, 1) := by decide +kernel
theorem dX0_farthest_10 : decode cX0_farthest 10 = .ok (.iload_n 2, 1) := by decide +kernel
theorem dX0_farthest_11 : decode cX0_farthest 11 = .ok (.bipush 12, 2) := by decide +kernel
theorem dX0_farthest_13 : decode cX0_farthest 13 = .ok (.if_icmp .ge 43, 3) := by decide +kernel
theorem dX0_farthest_16 : decode cX0_farthest 16 = .ok (.aload_n 0, 1) := by decide +kernel
theorem dX0_farthest_17 : decode cX0_farthest 17 = .ok (.getfield 15, 3) := by decide +kernel
theorem dX0_farthest_20 : decode cX0_farthest 20 = .ok (.iload_n 2, 1) := by decide +kernel
theorem dX0_farthest_21 : decode cX0_farthest 21 = .ok (.iaload, 1) := by decide +kernel
theorem dX0_farthest_22 : decode cX0_farthest 22 = .ok (.sipush 1000, 3) := by decide +kernel
theorem dX0_farthest_25 : decode cX0_farthest 25 = .ok (.if_icmp .ge 25, 3) := by decide +kernel
theorem dX0_farthest_28 : decode cX0_farthest 28 = .ok (.iload_n 1, 1) := by decide +kernel
theorem dX0_farthest_29 : decode cX0_farthest 29 = .ok (.iconst (-1), 1) := by decide +kernel
theorem dX0_farthest_30 : decode cX0_farthest 30 = .ok (.if_icmp .eq 18, 3) := by decide +kernel
theorem dX0_farthest_33 : decode cX0_farthest 33 = .ok (.aload_n 0, 1) := by decide +kernel
theorem dX0_farthest_34 : decode cX0_farthest 34 = .ok (.getfield 15, 3) := by decide +kernel
theorem dX0_farthest_37 : decode cX0_farthest 37 = .ok (.iload_n 2, 1) := by decide +kernel
theorem dX0_farthest_38 : decode cX0_farthest 38 = .ok (.iaload, 1) := by decide +kernel
theorem dX0_farthest_39 : decode cX0_farthest 39 = .ok (.aload_n 0, 1) := by decide +kernel
theorem dX0_farthest_40 : decode cX0_farthest 40 = .ok (.getfield 15, 3) := by decide +kernel
theorem dX0_farthest_43 : decode cX0_farthest 43 = .ok (.iload_n 1, 1) := by decide +kernel
theorem dX0_farthest_44 : decode cX0_farthest 44 = .ok (.iaload, 1) := by decide +kernel
theorem dX0_farthest_45 : decode cX0_farthest 45 = .ok (.if_icmp .le 5, 3) := by decide +kernel
theorem dX0_farthest_48 : decode cX0_farthest 48 = .ok (.iload_n 2, 1) := by decide +kernel
theorem dX0_farthest_49 : decode cX0_farthest 49 = .ok (.istore_n 1, 1) := by decide +kernel
theorem dX0_farthest_50 : decode cX0_farthest 50 = .ok (.iinc 2 1, 3) := by decide +kernel
theorem dX0_farthest_53 : decode cX0_farthest 53 = .ok (.goto (-43), 3) := by decide +kernel
theorem dX0_farthest_56 : decode cX0_farthest 56 = .ok (.iload_n 1, 1) := by decide +kernel
theorem dX0_farthest_57 : decode cX0_farthest 57 = .ok (.ireturn, 1) := by decide +kernel
theorem dX0_playOut_0 : decode cX0_playOut 0 = .ok (.aload_n 0, 1) := by decide +kernel
theorem dX0_playOut_1 : decode cX0_playOut 1 = .ok (.invokevirtual 47, 3) := by decide +kernel
theorem dX0_playOut_4 : decode cX0_playOut 4 = .ok (.iconst 0, 1) := by decide +kernel
theorem dX0_playOut_5 : decode cX0_playOut 5 = .ok (.istore_n 1, 1) := by decide +kernel
theorem dX0_playOut_6 : decode cX0_playOut 6 = .ok (.iload_n 1, 1) := by decide +kernel
theorem dX0_playOut_7 : decode cX0_playOut 7 = .ok (.bipush 13, 2) := by decide +kernel
theorem dX0_playOut_9 : decode cX0_playOut 9 = .ok (.if_icmp .ge 40, 3) := by decide +kernel
theorem dX0_playOut_12 : decode cX0_playOut 12 = .ok (.aload_n 0, 1) := by decide +kernel
theorem dX0_playOut_13 : decode cX0_playOut 13 = .ok (.getfield 18, 3) := by decide +kernel
theorem dX0_playOut_16 : decode cX0_playOut 16 = .ok (.iload_n 1, 1) := by decide +kernel
theorem dX0_playOut_17 : decode cX0_playOut 17 = .ok (.iload_n 1, 1) := by decide +kernel
theorem dX0_playOut_18 : decode cX0_playOut 18 = .ok (.bipush 12, 2) := by decide +kernel
theorem dX0_playOut_20 : decode cX0_playOut 20 = .ok (.if_icmp .ne 7, 3) := by decide +kernel
theorem dX0_playOut_23 : decode cX0_playOut 23 = .ok (.iconst 0, 1) := by decide +kernel
theorem dX0_playOut_24 : decode cX0_playOut 24 = .ok (.goto 6, 3) := by decide +kernel
theorem dX0_playOut_27 : decode cX0_playOut 27 = .ok (.sipush 1000, 3) := by decide +kernel
theorem dX0_playOut_30 : decode cX0_playOut 30 = .ok (.iastore, 1) := by decide +kernel
theorem dX0_playOut_31 : decode cX0_playOut 31 = .ok (.aload_n 0, 1) := by decide +kernel
theorem dX0_playOut_32 : decode cX0_playOut 32 = .ok (.getfield 21, 3) := by decide +kernel
theorem dX0_playOut_35 : decode cX0_playOut 35 = .ok (.iload_n 1, 1) := by decide +kernel
theorem dX0_playOut_36 : decode cX0_playOut 36 = .ok (.aload_n 0, 1) := by decide +kernel
theorem dX0_playOut_37 : decode cX0_playOut 37 = .ok (.getfield 18, 3) := by decide +kernel
theorem dX0_playOut_40 : decode cX0_playOut 40 = .ok (.iload_n 1, 1) := by decide +kernel
theorem dX0_playOut_41 : decode cX0_playOut 41 = .ok (.iaload, 1) := by decide +kernel
theorem dX0_playOut_42 : decode cX0_playOut 42 = .ok (.iastore, 1) := by decide +kernel
theorem dX0_playOut_43 : decode cX0_playOut 43 = .ok (.iinc 1 1, 3) := by decide +kernel
theorem dX0_playOut_46 : decode cX0_playOut 46 = .ok (.goto (-40), 3) := by decide +kernel
theorem dX0_playOut_49 : decode cX0_playOut 49 = .ok (.iconst 1, 1) := by decide +kernel
theorem dX0_playOut_50 : decode cX0_playOut 50 = .ok (.istore_n 1, 1) := by decide +kernel
theorem dX0_playOut_51 : decode cX0_playOut 51 = .ok (.iconst 0, 1) := by decide +kernel
theorem dX0_playOut_52 : decode cX0_playOut 52 = .ok (.istore_n 2, 1) := by decide +kernel
theorem dX0_playOut_53 : decode cX0_playOut 53 = .ok (.iload_n 2, 1) := by decide +kernel
theorem dX0_playOut_54 : decode cX0_playOut 54 = .ok (.bipush 26, 2) := by decide +kernel
theorem dX0_playOut_56 : decode cX0_playOut 56 = .ok (.if_icmp .ge 137, 3) := by decide +kernel
theorem dX0_playOut_59 : decode cX0_playOut 59 = .ok (.iload_n 1, 1) := by decide +kernel
theorem dX0_playOut_60 : decode cX0_playOut 60 = .ok (.ifCond .eq 133, 3) := by decide +kernel
theorem dX0_playOut_63 : decode cX0_playOut 63 = .ok (.iconst 0, 1) := by decide +kernel
theorem dX0_playOut_64 : decode cX0_playOut 64 = .ok (.istore_n 1, 1) := by decide +kernel
theorem dX0_playOut_65 : decode cX0_playOut 65 = .ok (.iconst 0, 1) := by decide +kernel
theorem dX0_playOut_66 : decode cX0_playOut 66 = .ok (.istore_n 3, 1) := by decide +kernel
theorem dX0_playOut_67 : decode cX0_playOut 67 = .ok (.iload_n 3, 1) := by decide +kernel
theorem dX0_playOut_68 : decode cX0_playOut 68 = .ok (.bipush 12, 2) := by decide +kernel
theorem dX0_playOut_70 : decode cX0_playOut 70 = .ok (.if_icmp .ge 117, 3) := by decide +kernel
theorem dX0_playOut_73 : decode cX0_playOut 73 = .ok (.sipush 1000, 3) := by decide +kernel
theorem dX0_playOut_76 : decode cX0_playOut 76 = .ok (.iconst 1, 1) := by decide +kernel
theorem dX0_playOut_77 : decode cX0_playOut 77 = .ok (.aload_n 0, 1) := by decide +kernel
theorem dX0_playOut_78 : decode cX0_playOut 78 = .ok (.getfield 21, 3) := by decide +kernel
theorem dX0_playOut_81 : decode cX0_playOut 81 = .ok (.aload_n 0, 1) := by decide +kernel
theorem dX0_playOut_82 : decode cX0_playOut 82 = .ok (.getfield 9, 3) := by decide +kernel
theorem dX0_playOut_85 : decode cX0_playOut 85 = .ok (.iload_n 3, 1) := by decide +kernel
theorem dX0_playOut_86 : decode cX0_playOut 86 = .ok (.iconst 4, 1) := by decide +kernel
theorem dX0_playOut_87 : decode cX0_playOut 87 = .ok (.imul, 1) := by decide +kernel
theorem dX0_playOut_88 : decode cX0_playOut 88 = .ok (.aload_n 0, 1) := by decide +kernel
theorem dX0_playOut_89 : decode cX0_playOut 89 = .ok (.iload_n 3, 1) := by decide +kernel
theorem dX0_playOut_90 : decode cX0_playOut 90 = .ok (.iconst 1, 1) := by decide +kernel
theorem dX0_playOut_91 : decode cX0_playOut 91 = .ok (.invokevirtual 62, 3) := by decide +kernel
theorem dX0_playOut_94 : decode cX0_playOut 94 = .ok (.iadd, 1) := by decide +kernel
theorem dX0_playOut_95 : decode cX0_playOut 95 = .ok (.iaload, 1) := by decide +kernel
theorem dX0_playOut_96 : decode cX0_playOut 96 = .ok (.iaload, 1) := by decide +kernel
theorem dX0_playOut_97 : decode cX0_playOut 97 = .ok (.iadd, 1) := by decide +kernel
theorem dX0_playOut_98 : decode cX0_playOut 98 = .ok (.invokestatic 66, 3) := by decide +kernel
theorem dX0_playOut_101 : decode cX0_playOut 101 = .ok (.istore 4, 2) := by decide +kernel
theorem dX0_playOut_103 : decode cX0_playOut 103 = .ok (.sipush 1000, 3) := by decide +kernel
theorem dX0_playOut_106 : decode cX0_playOut 106 = .ok (.iconst 1, 1) := by decide +kernel
theorem dX0_playOut_107 : decode cX0_playOut 107 = .ok (.aload_n 0, 1) := by decide +kernel
theorem dX0_playOut_108 : decode cX0_playOut 108 = .ok (.getfield 18, 3) := by decide +kernel
theorem dX0_playOut_111 : decode cX0_playOut 111 = .ok (.aload_n 0, 1) := by decide +kernel
theorem dX0_playOut_112 : decode cX0_playOut 112 = .ok (.getfield 9, 3) := by decide +kernel
theorem dX0_playOut_115 : decode cX0_playOut 115 = .ok (.iload_n 3, 1) := by decide +kernel
theorem dX0_playOut_116 : decode cX0_playOut 116 = .ok (.iconst 4, 1) := by decide +kernel
theorem dX0_playOut_117 : decode cX0_playOut 117 = .ok (.imul, 1) := by decide +kernel
theorem dX0_playOut_118 : decode cX0_playOut 118 = .ok (.aload_n 0, 1) := by decide +kernel
theorem dX0_playOut_119 : decode cX0_playOut 119 = .ok (.iload_n 3, 1) := by decide +kernel
theorem dX0_playOut_120 : decode cX0_playOut 120 = .ok (.iconst 0, 1) := by decide +kernel
theorem dX0_playOut_121 : decode cX0_playOut 121 = .ok (.invokevirtual 62, 3) := by decide +kernel
theorem dX0_playOut_124 : decode cX0_playOut 124 = .ok (.iadd, 1) := by decide +kernel
theorem dX0_playOut_125 : decode cX0_playOut 125 = .ok (.iaload, 1) := by decide +kernel
theorem dX0_playOut_126 : decode cX0_playOut 126 = .ok (.iaload, 1) := by decide +kernel
theorem dX0_playOut_127 : decode cX0_playOut 127 = .ok (.iadd, 1) := by decide +kernel
theorem dX0_playOut_128 : decode cX0_playOut 128 = .ok (.invokestatic 66, 3) := by decide +kernel
theorem dX0_playOut_131 : decode cX0_playOut 131 = .ok (.istore 5, 2) := by decide +kernel
theorem dX0_playOut_133 : decode cX0_playOut 133 = .ok (.iload_n 1, 1) := by decide +kernel
theorem dX0_playOut_134 : decode cX0_playOut 134 = .ok (.ifCond .ne 25, 3) := by decide +kernel
theorem dX0_playOut_137 : decode cX0_playOut 137 = .ok (.iload 4, 2) := by decide +kernel
theorem dX0_playOut_139 : decode cX0_playOut 139 = .ok (.aload_n 0, 1) := by decide +kernel
theorem dX0_playOut_140 : decode cX0_playOut 140 = .ok (.getfield 18, 3) := by decide +kernel
theorem dX0_playOut_143 : decode cX0_playOut 143 = .ok (.iload_n 3, 1) := by decide +kernel
theorem dX0_playOut_144 : decode cX0_playOut 144 = .ok (.iaload, 1) := by decide +kernel
theorem dX0_playOut_145 : decode cX0_playOut 145 = .ok (.if_icmp .lt 14, 3) := by decide +kernel
theorem dX0_playOut_148 : decode cX0_playOut 148 = .ok (.iload 5, 2) := by decide +kernel
theorem dX0_playOut_150 : decode cX0_playOut 150 = .ok (.aload_n 0, 1) := by decide +kernel
theorem dX0_playOut_151 : decode cX0_playOut 151 = .ok (.getfield 21, 3) := by decide +kernel
theorem dX0_playOut_154 : decode cX0_playOut 154 = .ok (.iload_n 3, 1) := by decide +kernel
theorem dX0_playOut_155 : decode cX0_playOut 155 = .ok (.iaload, 1) := by decide +kernel
theorem dX0_playOut_156 : decode cX0_playOut 156 = .ok (.if_icmp .ge 7, 3) := by decide +kernel
theorem dX0_playOut_159 : decode cX0_playOut 159 = .ok (.iconst 1, 1) := by decide +kernel
theorem dX0_playOut_160 : decode cX0_playOut 160 = .ok (.goto 4, 3) := by decide +kernel
theorem dX0_playOut_163 : decode cX0_playOut 163 = .ok (.iconst 0, 1) := by decide +kernel
theorem dX0_playOut_164 : decode cX0_playOut 164 = .ok (.istore_n 1, 1) := by decide +kernel
theorem dX0_playOut_165 : decode cX0_playOut 165 = .ok (.aload_n 0, 1) := by decide +kernel
theorem dX0_playOut_166 : decode cX0_playOut 166 = .ok (.getfield 18, 3) := by decide +kernel
theorem dX0_playOut_169 : decode cX0_playOut 169 = .ok (.iload_n 3, 1) := by decide +kernel
theorem dX0_playOut_170 : decode cX0_playOut 170 = .ok (.iload 4, 2) := by decide +kernel
theorem dX0_playOut_172 : decode cX0_playOut 172 = .ok (.iastore, 1) := by decide +kernel
theorem dX0_playOut_173 : decode cX0_playOut 173 = .ok (.aload_n 0, 1) := by decide +kernel
theorem dX0_playOut_174 : decode cX0_playOut 174 = .ok (.getfield 21, 3) := by decide +kernel
theorem dX0_playOut_177 : decode cX0_playOut 177 = .ok (.iload_n 3, 1) := by decide +kernel
theorem dX0_playOut_178 : decode cX0_playOut 178 = .ok (.iload 5, 2) := by decide +kernel
theorem dX0_playOut_180 : decode cX0_playOut 180 = .ok (.iastore, 1) := by decide +kernel
theorem dX0_playOut_181 : decode cX0_playOut 181 = .ok (.iinc 3 1, 3) := by decide +kernel
theorem dX0_playOut_184 : decode cX0_playOut 184 = .ok (.goto (-117), 3) := by decide +kernel
theorem dX0_playOut_187 : decode cX0_playOut 187 = .ok (.iinc 2 1, 3) := by decide +kernel
theorem dX0_playOut_190 : decode cX0_playOut 190 = .ok (.goto (-137), 3) := by decide +kernel
theorem dX0_playOut_193 : decode cX0_playOut 193 = .ok (.return_, 1) := by decide +kernel
theorem dX0_replyOf_0 : decode cX0_replyOf 0 = .ok (.iload_n 2, 1) := by decide +kernel
theorem dX0_replyOf_1 : decode cX0_replyOf 1 = .ok (.ifCond .eq 10, 3) := by decide +kernel
theorem dX0_replyOf_4 : decode cX0_replyOf 4 = .ok (.aload_n 0, 1) := by decide +kernel
theorem dX0_replyOf_5 : decode cX0_replyOf 5 = .ok (.getfield 21, 3) := by decide +kernel
theorem dX0_replyOf_8 : decode cX0_replyOf 8 = .ok (.goto 7, 3) := by decide +kernel
theorem dX0_replyOf_11 : decode cX0_replyOf 11 = .ok (.aload_n 0, 1) := by decide +kernel
theorem dX0_replyOf_12 : decode cX0_replyOf 12 = .ok (.getfield 18, 3) := by decide +kernel
theorem dX0_replyOf_15 : decode cX0_replyOf 15 = .ok (.astore_n 3, 1) := by decide +kernel
theorem dX0_replyOf_16 : decode cX0_replyOf 16 = .ok (.iconst 0, 1) := by decide +kernel
theorem dX0_replyOf_17 : decode cX0_replyOf 17 = .ok (.istore 4, 2) := by decide +kernel
theorem dX0_replyOf_19 : decode cX0_replyOf 19 = .ok (.iconst 1, 1) := by decide +kernel
theorem dX0_replyOf_20 : decode cX0_replyOf 20 = .ok (.istore 5, 2) := by decide +kernel
theorem dX0_replyOf_22 : decode cX0_replyOf 22 = .ok (.iload 5, 2) := by decide +kernel
theorem dX0_replyOf_24 : decode cX0_replyOf 24 = .ok (.iconst 4, 1) := by decide +kernel
theorem dX0_replyOf_25 : decode cX0_replyOf 25 = .ok (.if_icmp .ge 64, 3) := by decide +kernel
theorem dX0_replyOf_28 : decode cX0_replyOf 28 = .ok (.aload_n 3, 1) := by decide +kernel
theorem dX0_replyOf_29 : decode cX0_replyOf 29 = .ok (.aload_n 0, 1) := by decide +kernel
theorem dX0_replyOf_30 : decode cX0_replyOf 30 = .ok (.getfield 9, 3) := by decide +kernel
theorem dX0_replyOf_33 : decode cX0_replyOf 33 = .ok (.iload_n 1, 1) := by decide +kernel
theorem dX0_replyOf_34 : decode cX0_replyOf 34 = .ok (.iconst 4, 1) := by decide +kernel
theorem dX0_replyOf_35 : decode cX0_replyOf 35 = .ok (.imul, 1) := by decide +kernel
theorem dX0_replyOf_36 : decode cX0_replyOf 36 = .ok (.iload 4, 2) := by decide +kernel
theorem dX0_replyOf_38 : decode cX0_replyOf 38 = .ok (.iadd, 1) := by decide +kernel
theorem dX0_replyOf_39 : decode cX0_replyOf 39 = .ok (.iaload, 1) := by decide +kernel
theorem dX0_replyOf_40 : decode cX0_replyOf 40 = .ok (.iaload, 1) := by decide +kernel
theorem dX0_replyOf_41 : decode cX0_replyOf 41 = .ok (.istore 6, 2) := by decide +kernel
theorem dX0_replyOf_43 : decode cX0_replyOf 43 = .ok (.aload_n 3, 1) := by decide +kernel
theorem dX0_replyOf_44 : decode cX0_replyOf 44 = .ok (.aload_n 0, 1) := by decide +kernel
theorem dX0_replyOf_45 : decode cX0_replyOf 45 = .ok (.getfield 9, 3) := by decide +kernel
theorem dX0_replyOf_48 : decode cX0_replyOf 48 = .ok (.iload_n 1, 1) := by decide +kernel
theorem dX0_replyOf_49 : decode cX0_replyOf 49 = .ok (.iconst 4, 1) := by decide +kernel
theorem dX0_replyOf_50 : decode cX0_replyOf 50 = .ok (.imul, 1) := by decide +kernel
theorem dX0_replyOf_51 : decode cX0_replyOf 51 = .ok (.iload 5, 2) := by decide +kernel
theorem dX0_replyOf_53 : decode cX0_replyOf 53 = .ok (.iadd, 1) := by decide +kernel
theorem dX0_replyOf_54 : decode cX0_replyOf 54 = .ok (.iaload, 1) := by decide +kernel
theorem dX0_replyOf_55 : decode cX0_replyOf 55 = .ok (.iaload, 1) := by decide +kernel
theorem dX0_replyOf_56 : decode cX0_replyOf 56 = .ok (.istore 7, 2) := by decide +kernel
theorem dX0_replyOf_58 : decode cX0_replyOf 58 = .ok (.iload_n 2, 1) := by decide +kernel
theorem dX0_replyOf_59 : decode cX0_replyOf 59 = .ok (.ifCond .eq 13, 3) := by decide +kernel
theorem dX0_replyOf_62 : decode cX0_replyOf 62 = .ok (.iload 7, 2) := by decide +kernel
theorem dX0_replyOf_64 : decode cX0_replyOf 64 = .ok (.iload 6, 2) := by decide +kernel
theorem dX0_replyOf_66 : decode cX0_replyOf 66 = .ok (.if_icmp .ge 17, 3) := by decide +kernel
theorem dX0_replyOf_69 : decode cX0_replyOf 69 = .ok (.goto 10, 3) := by decide +kernel
theorem dX0_replyOf_72 : decode cX0_replyOf 72 = .ok (.iload 7, 2) := by decide +kernel
theorem dX0_replyOf_74 : decode cX0_replyOf 74 = .ok (.iload 6, 2) := by decide +kernel
theorem dX0_replyOf_76 : decode cX0_replyOf 76 = .ok (.if_icmp .le 7, 3) := by decide +kernel
theorem dX0_replyOf_79 : decode cX0_replyOf 79 = .ok (.iload 5, 2) := by decide +kernel
theorem dX0_replyOf_81 : decode cX0_replyOf 81 = .ok (.istore 4, 2) := by decide +kernel
theorem dX0_replyOf_83 : decode cX0_replyOf 83 = .ok (.iinc 5 1, 3) := by decide +kernel
theorem dX0_replyOf_86 : decode cX0_replyOf 86 = .ok (.goto (-64), 3) := by decide +kernel
theorem dX0_replyOf_89 : decode cX0_replyOf 89 = .ok (.iload 4, 2) := by decide +kernel
theorem dX0_replyOf_91 : decode cX0_replyOf 91 = .ok (.ireturn, 1) := by decide +kernel
theorem dX0_playLength_0 : decode cX0_playLength 0 = .ok (.aload_n 0, 1) := by decide +kernel
theorem dX0_playLength_1 : decode cX0_playLength 1 = .ok (.invokevirtual 71, 3) := by decide +kernel
theorem dX0_playLength_4 : decode cX0_playLength 4 = .ok (.iload_n 2, 1) := by decide +kernel
theorem dX0_playLength_5 : decode cX0_playLength 5 = .ok (.ifCond .eq 12, 3) := by decide +kernel
theorem dX0_playLength_8 : decode cX0_playLength 8 = .ok (.aload_n 0, 1) := by decide +kernel
theorem dX0_playLength_9 : decode cX0_playLength 9 = .ok (.getfield 18, 3) := by decide +kernel
theorem dX0_playLength_12 : decode cX0_playLength 12 = .ok (.iload_n 1, 1) := by decide +kernel
theorem dX0_playLength_13 : decode cX0_playLength 13 = .ok (.iaload, 1) := by decide +kernel
theorem dX0_playLength_14 : decode cX0_playLength 14 = .ok (.goto 9, 3) := by decide +kernel
theorem dX0_playLength_17 : decode cX0_playLength 17 = .ok (.aload_n 0, 1) := by decide +kernel
theorem dX0_playLength_18 : decode cX0_playLength 18 = .ok (.getfield 21, 3) := by decide +kernel
theorem dX0_playLength_21 : decode cX0_playLength 21 = .ok (.iload_n 1, 1) := by decide +kernel
theorem dX0_playLength_22 : decode cX0_playLength 22 = .ok (.iaload, 1) := by decide +kernel
theorem dX0_playLength_23 : decode cX0_playLength 23 = .ok (.istore_n 3, 1) := by decide +kernel
theorem dX0_playLength_24 : decode cX0_playLength 24 = .ok (.iload_n 3, 1) := by decide +kernel
theorem dX0_playLength_25 : decode cX0_playLength 25 = .ok (.sipush 1000, 3) := by decide +kernel
theorem dX0_playLength_28 : decode cX0_playLength 28 = .ok (.if_icmp .ne 7, 3) := by decide +kernel
theorem dX0_playLength_31 : decode cX0_playLength 31 = .ok (.iconst (-1), 1) := by decide +kernel
theorem dX0_playLength_32 : decode cX0_playLength 32 = .ok (.goto 4, 3) := by decide +kernel
theorem dX0_playLength_35 : decode cX0_playLength 35 = .ok (.iload_n 3, 1) := by decide +kernel
theorem dX0_playLength_36 : decode cX0_playLength 36 = .ok (.ireturn, 1) := by decide +kernel
theorem dX0_playCue_0 : decode cX0_playCue 0 = .ok (.aload_n 0, 1) := by decide +kernel
theorem dX0_playCue_1 : decode cX0_playCue 1 = .ok (.invokevirtual 71, 3) := by decide +kernel
theorem dX0_playCue_4 : decode cX0_playCue 4 = .ok (.iload_n 1, 1) := by decide +kernel
theorem dX0_playCue_5 : decode cX0_playCue 5 = .ok (.bipush 12, 2) := by decide +kernel
theorem dX0_playCue_7 : decode cX0_playCue 7 = .ok (.if_icmp .eq 19, 3) := by decide +kernel
theorem dX0_playCue_10 : decode cX0_playCue 10 = .ok (.iload_n 2, 1) := by decide +kernel
theorem dX0_playCue_11 : decode cX0_playCue 11 = .ok (.ifCond .eq 17, 3) := by decide +kernel
theorem dX0_playCue_14 : decode cX0_playCue 14 = .ok (.aload_n 0, 1) := by decide +kernel
theorem dX0_playCue_15 : decode cX0_playCue 15 = .ok (.getfield 18, 3) := by decide +kernel
theorem dX0_playCue_18 : decode cX0_playCue 18 = .ok (.iload_n 1, 1) := by decide +kernel
theorem dX0_playCue_19 : decode cX0_playCue 19 = .ok (.iaload, 1) := by decide +kernel
theorem dX0_playCue_20 : decode cX0_playCue 20 = .ok (.sipush 1000, 3) := by decide +kernel
theorem dX0_playCue_23 : decode cX0_playCue 23 = .ok (.if_icmp .ne 5, 3) := by decide +kernel
theorem dX0_playCue_26 : decode cX0_playCue 26 = .ok (.iconst (-1), 1) := by decide +kernel
theorem dX0_playCue_27 : decode cX0_playCue 27 = .ok (.ireturn, 1) := by decide +kernel
theorem dX0_playCue_28 : decode cX0_playCue 28 = .ok (.aload_n 0, 1) := by decide +kernel
theorem dX0_playCue_29 : decode cX0_playCue 29 = .ok (.iload_n 1, 1) := by decide +kernel
theorem dX0_playCue_30 : decode cX0_playCue 30 = .ok (.iload_n 2, 1) := by decide +kernel
theorem dX0_playCue_31 : decode cX0_playCue 31 = .ok (.invokevirtual 62, 3) := by decide +kernel
theorem dX0_playCue_34 : decode cX0_playCue 34 = .ok (.ireturn, 1) := by decide +kernel
theorem dX0_countFromEnd_0 : decode cX0_countFromEnd 0 = .ok (.aload_n 0, 1) := by decide +kernel
theorem dX0_countFromEnd_1 : decode cX0_countFromEnd 1 = .ok (.invokevirtual 47, 3) := by decide +kernel
theorem dX0_countFromEnd_4 : decode cX0_countFromEnd 4 = .ok (.iconst 0, 1) := by decide +kernel
theorem dX0_countFromEnd_5 : decode cX0_countFromEnd 5 = .ok (.istore_n 1, 1) := by decide +kernel
theorem dX0_countFromEnd_6 : decode cX0_countFromEnd 6 = .ok (.iload_n 1, 1) := by decide +kernel
theorem dX0_countFromEnd_7 : decode cX0_countFromEnd 7 = .ok (.bipush 13, 2) := by decide +kernel
theorem dX0_countFromEnd_9 : decode cX0_countFromEnd 9 = .ok (.if_icmp .ge 26, 3) := by decide +kernel
theorem dX0_countFromEnd_12 : decode cX0_countFromEnd 12 = .ok (.aload_n 0, 1) := by decide +kernel
theorem dX0_countFromEnd_13 : decode cX0_countFromEnd 13 = .ok (.getfield 24, 3) := by decide +kernel
theorem dX0_countFromEnd_16 : decode cX0_countFromEnd 16 = .ok (.iload_n 1, 1) := by decide +kernel
theorem dX0_countFromEnd_17 : decode cX0_countFromEnd 17 = .ok (.iload_n 1, 1) := by decide +kernel
theorem dX0_countFromEnd_18 : decode cX0_countFromEnd 18 = .ok (.bipush 12, 2) := by decide +kernel
theorem dX0_countFromEnd_20 : decode cX0_countFromEnd 20 = .ok (.if_icmp .ne 7, 3) := by decide +kernel
theorem dX0_countFromEnd_23 : decode cX0_countFromEnd 23 = .ok (.lconst 1, 1) := by decide +kernel
theorem dX0_countFromEnd_24 : decode cX0_countFromEnd 24 = .ok (.goto 4, 3) := by decide +kernel
theorem dX0_countFromEnd_27 : decode cX0_countFromEnd 27 = .ok (.lconst 0, 1) := by decide +kernel
theorem dX0_countFromEnd_28 : decode cX0_countFromEnd 28 = .ok (.lastore, 1) := by decide +kernel
theorem dX0_countFromEnd_29 : decode cX0_countFromEnd 29 = .ok (.iinc 1 1, 3) := by decide +kernel
theorem dX0_countFromEnd_32 : decode cX0_countFromEnd 32 = .ok (.goto (-26), 3) := by decide +kernel
theorem dX0_countFromEnd_35 : decode cX0_countFromEnd 35 = .ok (.return_, 1) := by decide +kernel
theorem dX0_oddsWithin_0 : decode cX0_oddsWithin 0 = .ok (.aload_n 0, 1) := by decide +kernel
theorem dX0_oddsWithin_1 : decode cX0_oddsWithin 1 = .ok (.invokevirtual 74, 3) := by decide +kernel
theorem dX0_oddsWithin_4 : decode cX0_oddsWithin 4 = .ok (.lconst 1, 1) := by decide +kernel
theorem dX0_oddsWithin_5 : decode cX0_oddsWithin 5 = .ok (.lstore 4, 2) := by decide +kernel
theorem dX0_oddsWithin_7 : decode cX0_oddsWithin 7 = .ok (.iconst 0, 1) := by decide +kernel
theorem dX0_oddsWithin_8 : decode cX0_oddsWithin 8 = .ok (.istore 6, 2) := by decide +kernel
theorem dX0_oddsWithin_10 : decode cX0_oddsWithin 10 = .ok (.iload 6, 2) := by decide +kernel
theorem dX0_oddsWithin_12 : decode cX0_oddsWithin 12 = .ok (.iload_n 2, 1) := by decide +kernel
theorem dX0_oddsWithin_13 : decode cX0_oddsWithin 13 = .ok (.if_icmp .ge 118, 3) := by decide +kernel
theorem dX0_oddsWithin_16 : decode cX0_oddsWithin 16 = .ok (.lload 4, 2) := by decide +kernel
theorem dX0_oddsWithin_18 : decode cX0_oddsWithin 18 = .ok (.ldc2_w 77, 3) := by decide +kernel
theorem dX0_oddsWithin_21 : decode cX0_oddsWithin 21 = .ok (.lmul, 1) := by decide +kernel
theorem dX0_oddsWithin_22 : decode cX0_oddsWithin 22 = .ok (.lstore 4, 2) := by decide +kernel
theorem dX0_oddsWithin_24 : decode cX0_oddsWithin 24 = .ok (.iconst 0, 1) := by decide +kernel
theorem dX0_oddsWithin_25 : decode cX0_oddsWithin 25 = .ok (.istore 7, 2) := by decide +kernel
theorem dX0_oddsWithin_27 : decode cX0_oddsWithin 27 = .ok (.iload 7, 2) := by decide +kernel
theorem dX0_oddsWithin_29 : decode cX0_oddsWithin 29 = .ok (.bipush 12, 2) := by decide +kernel
theorem dX0_oddsWithin_31 : decode cX0_oddsWithin 31 = .ok (.if_icmp .ge 70, 3) := by decide +kernel
theorem dX0_oddsWithin_34 : decode cX0_oddsWithin 34 = .ok (.lconst 0, 1) := by decide +kernel
theorem dX0_oddsWithin_35 : decode cX0_oddsWithin 35 = .ok (.lstore 8, 2) := by decide +kernel
theorem dX0_oddsWithin_37 : decode cX0_oddsWithin 37 = .ok (.iconst 0, 1) := by decide +kernel
theorem dX0_oddsWithin_38 : decode cX0_oddsWithin 38 = .ok (.istore 10, 2) := by decide +kernel
theorem dX0_oddsWithin_40 : decode cX0_oddsWithin 40 = .ok (.iload 10, 2) := by decide +kernel
theorem dX0_oddsWithin_42 : decode cX0_oddsWithin 42 = .ok (.iconst 4, 1) := by decide +kernel
theorem dX0_oddsWithin_43 : decode cX0_oddsWithin 43 = .ok (.if_icmp .ge 43, 3) := by decide +kernel
theorem dX0_oddsWithin_46 : decode cX0_oddsWithin 46 = .ok (.lload 8, 2) := by decide +kernel
theorem dX0_oddsWithin_48 : decode cX0_oddsWithin 48 = .ok (.aload_n 0, 1) := by decide +kernel
theorem dX0_oddsWithin_49 : decode cX0_oddsWithin 49 = .ok (.getfield 37, 3) := by decide +kernel
theorem dX0_oddsWithin_52 : decode cX0_oddsWithin 52 = .ok (.getfield 79, 3) := by decide +kernel
theorem dX0_oddsWithin_55 : decode cX0_oddsWithin 55 = .ok (.iload 10, 2) := by decide +kernel
theorem dX0_oddsWithin_57 : decode cX0_oddsWithin 57 = .ok (.iaload, 1) := by decide +kernel
theorem dX0_oddsWithin_58 : decode cX0_oddsWithin 58 = .ok (.i2l, 1) := by decide +kernel
theorem dX0_oddsWithin_59 : decode cX0_oddsWithin 59 = .ok (.aload_n 0, 1) := by decide +kernel
theorem dX0_oddsWithin_60 : decode cX0_oddsWithin 60 = .ok (.getfield 24, 3) := by decide +kernel
theorem dX0_oddsWithin_63 : decode cX0_oddsWithin 63 = .ok (.aload_n 0, 1) := by decide +kernel
theorem dX0_oddsWithin_64 : decode cX0_oddsWithin 64 = .ok (.getfield 9, 3) := by decide +kernel
theorem dX0_oddsWithin_67 : decode cX0_oddsWithin 67 = .ok (.iload 7, 2) := by decide +kernel
theorem dX0_oddsWithin_69 : decode cX0_oddsWithin 69 = .ok (.iconst 4, 1) := by decide +kernel
theorem dX0_oddsWithin_70 : decode cX0_oddsWithin 70 = .ok (.imul, 1) := by decide +kernel
theorem dX0_oddsWithin_71 : decode cX0_oddsWithin 71 = .ok (.iload 10, 2) := by decide +kernel
theorem dX0_oddsWithin_73 : decode cX0_oddsWithin 73 = .ok (.iadd, 1) := by decide +kernel
theorem dX0_oddsWithin_74 : decode cX0_oddsWithin 74 = .ok (.iaload, 1) := by decide +kernel
theorem dX0_oddsWithin_75 : decode cX0_oddsWithin 75 = .ok (.laload, 1) := by decide +kernel
theorem dX0_oddsWithin_76 : decode cX0_oddsWithin 76 = .ok (.lmul, 1) := by decide +kernel
theorem dX0_oddsWithin_77 : decode cX0_oddsWithin 77 = .ok (.ladd, 1) := by decide +kernel
theorem dX0_oddsWithin_78 : decode cX0_oddsWithin 78 = .ok (.lstore 8, 2) := by decide +kernel
theorem dX0_oddsWithin_80 : decode cX0_oddsWithin 80 = .ok (.iinc 10 1, 3) := by decide +kernel
theorem dX0_oddsWithin_83 : decode cX0_oddsWithin 83 = .ok (.goto (-43), 3) := by decide +kernel
theorem dX0_oddsWithin_86 : decode cX0_oddsWithin 86 = .ok (.aload_n 0, 1) := by decide +kernel
theorem dX0_oddsWithin_87 : decode cX0_oddsWithin 87 = .ok (.getfield 28, 3) := by decide +kernel
theorem dX0_oddsWithin_90 : decode cX0_oddsWithin 90 = .ok (.iload 7, 2) := by decide +kernel
theorem dX0_oddsWithin_92 : decode cX0_oddsWithin 92 = .ok (.lload 8, 2) := by decide +kernel
theorem dX0_oddsWithin_94 : decode cX0_oddsWithin 94 = .ok (.lastore, 1) := by decide +kernel
theorem dX0_oddsWithin_95 : decode cX0_oddsWithin 95 = .ok (.iinc 7 1, 3) := by decide +kernel
theorem dX0_oddsWithin_98 : decode cX0_oddsWithin 98 = .ok (.goto (-71), 3) := by decide +kernel
theorem dX0_oddsWithin_101 : decode cX0_oddsWithin 101 = .ok (.aload_n 0, 1) := by decide +kernel
theorem dX0_oddsWithin_102 : decode cX0_oddsWithin 102 = .ok (.getfield 28, 3) := by decide +kernel
theorem dX0_oddsWithin_105 : decode cX0_oddsWithin 105 = .ok (.bipush 12, 2) := by decide +kernel
theorem dX0_oddsWithin_107 : decode cX0_oddsWithin 107 = .ok (.lload 4, 2) := by decide +kernel
theorem dX0_oddsWithin_109 : decode cX0_oddsWithin 109 = .ok (.lastore, 1) := by decide +kernel
theorem dX0_oddsWithin_110 : decode cX0_oddsWithin 110 = .ok (.aload_n 0, 1) := by decide +kernel
theorem dX0_oddsWithin_111 : decode cX0_oddsWithin 111 = .ok (.getfield 28, 3) := by decide +kernel
theorem dX0_oddsWithin_114 : decode cX0_oddsWithin 114 = .ok (.iconst 0, 1) := by decide +kernel
theorem dX0_oddsWithin_115 : decode cX0_oddsWithin 115 = .ok (.aload_n 0, 1) := by decide +kernel
theorem dX0_oddsWithin_116 : decode cX0_oddsWithin 116 = .ok (.getfield 24, 3) := by decide +kernel
theorem dX0_oddsWithin_119 : decode cX0_oddsWithin 119 = .ok (.iconst 0, 1) := by decide +kernel
theorem dX0_oddsWithin_120 : decode cX0_oddsWithin 120 = .ok (.bipush 13, 2) := by decide +kernel
theorem dX0_oddsWithin_122 : decode cX0_oddsWithin 122 = .ok (.invokestatic 82, 3) := by decide +kernel
theorem dX0_oddsWithin_125 : decode cX0_oddsWithin 125 = .ok (.iinc 6 1, 3) := by decide +kernel
theorem dX0_oddsWithin_128 : decode cX0_oddsWithin 128 = .ok (.goto (-118), 3) := by decide +kernel
theorem dX0_oddsWithin_131 : decode cX0_oddsWithin 131 = .ok (.aload_n 0, 1) := by decide +kernel
theorem dX0_oddsWithin_132 : decode cX0_oddsWithin 132 = .ok (.getfield 24, 3) := by decide +kernel
theorem dX0_oddsWithin_135 : decode cX0_oddsWithin 135 = .ok (.iload_n 1, 1) := by decide +kernel
theorem dX0_oddsWithin_136 : decode cX0_oddsWithin 136 = .ok (.laload, 1) := by decide +kernel
theorem dX0_oddsWithin_137 : decode cX0_oddsWithin 137 = .ok (.lload 4, 2) := by decide +kernel
theorem dX0_oddsWithin_139 : decode cX0_oddsWithin 139 = .ok (.invokestatic 88, 3) := by decide +kernel
theorem dX0_oddsWithin_142 : decode cX0_oddsWithin 142 = .ok (.lstore 6, 2) := by decide +kernel
theorem dX0_oddsWithin_144 : decode cX0_oddsWithin 144 = .ok (.lload 6, 2) := by decide +kernel
theorem dX0_oddsWithin_146 : decode cX0_oddsWithin 146 = .ok (.lconst 0, 1) := by decide +kernel
theorem dX0_oddsWithin_147 : decode cX0_oddsWithin 147 = .ok (.lcmp, 1) := by decide +kernel
theorem dX0_oddsWithin_148 : decode cX0_oddsWithin 148 = .ok (.ifCond .ne 7, 3) := by decide +kernel
theorem dX0_oddsWithin_151 : decode cX0_oddsWithin 151 = .ok (.ldc2_w 92, 3) := by decide +kernel
theorem dX0_oddsWithin_154 : decode cX0_oddsWithin 154 = .ok (.lreturn, 1) := by decide +kernel
theorem dX0_oddsWithin_155 : decode cX0_oddsWithin 155 = .ok (.iload_n 3, 1) := by decide +kernel
theorem dX0_oddsWithin_156 : decode cX0_oddsWithin 156 = .ok (.ifCond .eq 8, 3) := by decide +kernel
theorem dX0_oddsWithin_159 : decode cX0_oddsWithin 159 = .ok (.lload 4, 2) := by decide +kernel
theorem dX0_oddsWithin_161 : decode cX0_oddsWithin 161 = .ok (.goto 9, 3) := by decide +kernel
theorem dX0_oddsWithin_164 : decode cX0_oddsWithin 164 = .ok (.aload_n 0, 1) := by decide +kernel
theorem dX0_oddsWithin_165 : decode cX0_oddsWithin 165 = .ok (.getfield 24, 3) := by decide +kernel
theorem dX0_oddsWithin_168 : decode cX0_oddsWithin 168 = .ok (.iload_n 1, 1) := by decide +kernel
theorem dX0_oddsWithin_169 : decode cX0_oddsWithin 169 = .ok (.laload, 1) := by decide +kernel
theorem dX0_oddsWithin_170 : decode cX0_oddsWithin 170 = .ok (.lload 6, 2) := by decide +kernel
theorem dX0_oddsWithin_172 : decode cX0_oddsWithin 172 = .ok (.ldiv, 1) := by decide +kernel
theorem dX0_oddsWithin_173 : decode cX0_oddsWithin 173 = .ok (.lreturn, 1) := by decide +kernel
theorem dX0_commonDivisor_0 : decode cX0_commonDivisor 0 = .ok (.iconst 0, 1) := by decide +kernel
theorem dX0_commonDivisor_1 : decode cX0_commonDivisor 1 = .ok (.istore 4, 2) := by decide +kernel
theorem dX0_commonDivisor_3 : decode cX0_commonDivisor 3 = .ok (.iload 4, 2) := by decide +kernel
theorem dX0_commonDivisor_5 : decode cX0_commonDivisor 5 = .ok (.bipush 100, 2) := by decide +kernel
theorem dX0_commonDivisor_7 : decode cX0_commonDivisor 7 = .ok (.if_icmp .ge 25, 3) := by decide +kernel
theorem dX0_commonDivisor_10 : decode cX0_commonDivisor 10 = .ok (.lload_n 2, 1) := by decide +kernel
theorem dX0_commonDivisor_11 : decode cX0_commonDivisor 11 = .ok (.lconst 0, 1) := by decide +kernel
theorem dX0_commonDivisor_12 : decode cX0_commonDivisor 12 = .ok (.lcmp, 1) := by decide +kernel
theorem dX0_commonDivisor_13 : decode cX0_commonDivisor 13 = .ok (.ifCond .eq 19, 3) := by decide +kernel
theorem dX0_commonDivisor_16 : decode cX0_commonDivisor 16 = .ok (.lload_n 0, 1) := by decide +kernel
theorem dX0_commonDivisor_17 : decode cX0_commonDivisor 17 = .ok (.lload_n 2, 1) := by decide +kernel
theorem dX0_commonDivisor_18 : decode cX0_commonDivisor 18 = .ok (.lrem, 1) := by decide +kernel
theorem dX0_commonDivisor_19 : decode cX0_commonDivisor 19 = .ok (.lstore 5, 2) := by decide +kernel
theorem dX0_commonDivisor_21 : decode cX0_commonDivisor 21 = .ok (.lload_n 2, 1) := by decide +kernel
theorem dX0_commonDivisor_22 : decode cX0_commonDivisor 22 = .ok (.lstore_n 0, 1) := by decide +kernel
theorem dX0_commonDivisor_23 : decode cX0_commonDivisor 23 = .ok (.lload 5, 2) := by decide +kernel
theorem dX0_commonDivisor_25 : decode cX0_commonDivisor 25 = .ok (.lstore_n 2, 1) := by decide +kernel
theorem dX0_commonDivisor_26 : decode cX0_commonDivisor 26 = .ok (.iinc 4 1, 3) := by decide +kernel
theorem dX0_commonDivisor_29 : decode cX0_commonDivisor 29 = .ok (.goto (-26), 3) := by decide +kernel
theorem dX0_commonDivisor_32 : decode cX0_commonDivisor 32 = .ok (.lload_n 0, 1) := by decide +kernel
theorem dX0_commonDivisor_33 : decode cX0_commonDivisor 33 = .ok (.lreturn, 1) := by decide +kernel
theorem dX0_waysJust_0 : decode cX0_waysJust 0 = .ok (.aload_n 0, 1) := by decide +kernel
theorem dX0_waysJust_1 : decode cX0_waysJust 1 = .ok (.invokevirtual 74, 3) := by decide +kernel
theorem dX0_waysJust_4 : decode cX0_waysJust 4 = .ok (.iconst 0, 1) := by decide +kernel
theorem dX0_waysJust_5 : decode cX0_waysJust 5 = .ok (.istore_n 3, 1) := by decide +kernel
theorem dX0_waysJust_6 : decode cX0_waysJust 6 = .ok (.iload_n 3, 1) := by decide +kernel
theorem dX0_waysJust_7 : decode cX0_waysJust 7 = .ok (.iload_n 2, 1) := by decide +kernel
theorem dX0_waysJust_8 : decode cX0_waysJust 8 = .ok (.if_icmp .ge 97, 3) := by decide +kernel
theorem dX0_waysJust_11 : decode cX0_waysJust 11 = .ok (.iconst 0, 1) := by decide +kernel
theorem dX0_waysJust_12 : decode cX0_waysJust 12 = .ok (.istore 4, 2) := by decide +kernel
theorem dX0_waysJust_14 : decode cX0_waysJust 14 = .ok (.iload 4, 2) := by decide +kernel
theorem dX0_waysJust_16 : decode cX0_waysJust 16 = .ok (.bipush 12, 2) := by decide +kernel
theorem dX0_waysJust_18 : decode cX0_waysJust 18 = .ok (.if_icmp .ge 58, 3) := by decide +kernel
theorem dX0_waysJust_21 : decode cX0_waysJust 21 = .ok (.lconst 0, 1) := by decide +kernel
theorem dX0_waysJust_22 : decode cX0_waysJust 22 = .ok (.lstore 5, 2) := by decide +kernel
theorem dX0_waysJust_24 : decode cX0_waysJust 24 = .ok (.iconst 0, 1) := by decide +kernel
theorem dX0_waysJust_25 : decode cX0_waysJust 25 = .ok (.istore 7, 2) := by decide +kernel
theorem dX0_waysJust_27 : decode cX0_waysJust 27 = .ok (.iload 7, 2) := by decide +kernel
theorem dX0_waysJust_29 : decode cX0_waysJust 29 = .ok (.iconst 4, 1) := by decide +kernel
theorem dX0_waysJust_30 : decode cX0_waysJust 30 = .ok (.if_icmp .ge 31, 3) := by decide +kernel
theorem dX0_waysJust_33 : decode cX0_waysJust 33 = .ok (.lload 5, 2) := by decide +kernel
theorem dX0_waysJust_35 : decode cX0_waysJust 35 = .ok (.aload_n 0, 1) := by decide +kernel
theorem dX0_waysJust_36 : decode cX0_waysJust 36 = .ok (.getfield 24, 3) := by decide +kernel
theorem dX0_waysJust_39 : decode cX0_waysJust 39 = .ok (.aload_n 0, 1) := by decide +kernel
theorem dX0_waysJust_40 : decode cX0_waysJust 40 = .ok (.getfield 9, 3) := by decide +kernel
theorem dX0_waysJust_43 : decode cX0_waysJust 43 = .ok (.iload 4, 2) := by decide +kernel
theorem dX0_waysJust_45 : decode cX0_waysJust 45 = .ok (.iconst 4, 1) := by decide +kernel
theorem dX0_waysJust_46 : decode cX0_waysJust 46 = .ok (.imul, 1) := by decide +kernel
theorem dX0_waysJust_47 : decode cX0_waysJust 47 = .ok (.iload 7, 2) := by decide +kernel
theorem dX0_waysJust_49 : decode cX0_waysJust 49 = .ok (.iadd, 1) := by decide +kernel
theorem dX0_waysJust_50 : decode cX0_waysJust 50 = .ok (.iaload, 1) := by decide +kernel
theorem dX0_waysJust_51 : decode cX0_waysJust 51 = .ok (.laload, 1) := by decide +kernel
theorem dX0_waysJust_52 : decode cX0_waysJust 52 = .ok (.ladd, 1) := by decide +kernel
theorem dX0_waysJust_53 : decode cX0_waysJust 53 = .ok (.lstore 5, 2) := by decide +kernel
theorem dX0_waysJust_55 : decode cX0_waysJust 55 = .ok (.iinc 7 1, 3) := by decide +kernel
theorem dX0_waysJust_58 : decode cX0_waysJust 58 = .ok (.goto (-31), 3) := by decide +kernel
theorem dX0_waysJust_61 : decode cX0_waysJust 61 = .ok (.aload_n 0, 1) := by decide +kernel
theorem dX0_waysJust_62 : decode cX0_waysJust 62 = .ok (.getfield 28, 3) := by decide +kernel
theorem dX0_waysJust_65 : decode cX0_waysJust 65 = .ok (.iload 4, 2) := by decide +kernel
theorem dX0_waysJust_67 : decode cX0_waysJust 67 = .ok (.lload 5, 2) := by decide +kernel
theorem dX0_waysJust_69 : decode cX0_waysJust 69 = .ok (.lastore, 1) := by decide +kernel
theorem dX0_waysJust_70 : decode cX0_waysJust 70 = .ok (.iinc 4 1, 3) := by decide +kernel
theorem dX0_waysJust_73 : decode cX0_waysJust 73 = .ok (.goto (-59), 3) := by decide +kernel
theorem dX0_waysJust_76 : decode cX0_waysJust 76 = .ok (.aload_n 0, 1) := by decide +kernel
theorem dX0_waysJust_77 : decode cX0_waysJust 77 = .ok (.getfield 28, 3) := by decide +kernel
theorem dX0_waysJust_80 : decode cX0_waysJust 80 = .ok (.bipush 12, 2) := by decide +kernel
theorem dX0_waysJust_82 : decode cX0_waysJust 82 = .ok (.lconst 0, 1) := by decide +kernel
theorem dX0_waysJust_83 : decode cX0_waysJust 83 = .ok (.lastore, 1) := by decide +kernel
theorem dX0_waysJust_84 : decode cX0_waysJust 84 = .ok (.aload_n 0, 1) := by decide +kernel
theorem dX0_waysJust_85 : decode cX0_waysJust 85 = .ok (.getfield 28, 3) := by decide +kernel
theorem dX0_waysJust_88 : decode cX0_waysJust 88 = .ok (.iconst 0, 1) := by decide +kernel
theorem dX0_waysJust_89 : decode cX0_waysJust 89 = .ok (.aload_n 0, 1) := by decide +kernel
theorem dX0_waysJust_90 : decode cX0_waysJust 90 = .ok (.getfield 24, 3) := by decide +kernel
theorem dX0_waysJust_93 : decode cX0_waysJust 93 = .ok (.iconst 0, 1) := by decide +kernel
theorem dX0_waysJust_94 : decode cX0_waysJust 94 = .ok (.bipush 13, 2) := by decide +kernel
theorem dX0_waysJust_96 : decode cX0_waysJust 96 = .ok (.invokestatic 82, 3) := by decide +kernel
theorem dX0_waysJust_99 : decode cX0_waysJust 99 = .ok (.iinc 3 1, 3) := by decide +kernel
theorem dX0_waysJust_102 : decode cX0_waysJust 102 = .ok (.goto (-96), 3) := by decide +kernel
theorem dX0_waysJust_105 : decode cX0_waysJust 105 = .ok (.aload_n 0, 1) := by decide +kernel
theorem dX0_waysJust_106 : decode cX0_waysJust 106 = .ok (.getfield 24, 3) := by decide +kernel
theorem dX0_waysJust_109 : decode cX0_waysJust 109 = .ok (.iload_n 1, 1) := by decide +kernel
theorem dX0_waysJust_110 : decode cX0_waysJust 110 = .ok (.laload, 1) := by decide +kernel
theorem dX0_waysJust_111 : decode cX0_waysJust 111 = .ok (.lreturn, 1) := by decide +kernel
theorem dX0_sortByKind_0 : decode cX0_sortByKind 0 = .ok (.aload_n 0, 1) := by decide +kernel
theorem dX0_sortByKind_1 : decode cX0_sortByKind 1 = .ok (.invokevirtual 47, 3) := by decide +kernel
theorem dX0_sortByKind_4 : decode cX0_sortByKind 4 = .ok (.iconst 0, 1) := by decide +kernel
theorem dX0_sortByKind_5 : decode cX0_sortByKind 5 = .ok (.istore_n 1, 1) := by decide +kernel
theorem dX0_sortByKind_6 : decode cX0_sortByKind 6 = .ok (.iload_n 1, 1) := by decide +kernel
theorem dX0_sortByKind_7 : decode cX0_sortByKind 7 = .ok (.bipush 12, 2) := by decide +kernel
theorem dX0_sortByKind_9 : decode cX0_sortByKind 9 = .ok (.if_icmp .ge 24, 3) := by decide +kernel
theorem dX0_sortByKind_12 : decode cX0_sortByKind 12 = .ok (.aload_n 0, 1) := by decide +kernel
theorem dX0_sortByKind_13 : decode cX0_sortByKind 13 = .ok (.getfield 31, 3) := by decide +kernel
theorem dX0_sortByKind_16 : decode cX0_sortByKind 16 = .ok (.iload_n 1, 1) := by decide +kernel
theorem dX0_sortByKind_17 : decode cX0_sortByKind 17 = .ok (.aload_n 0, 1) := by decide +kernel
theorem dX0_sortByKind_18 : decode cX0_sortByKind 18 = .ok (.getfield 37, 3) := by decide +kernel
theorem dX0_sortByKind_21 : decode cX0_sortByKind 21 = .ok (.getfield 94, 3) := by decide +kernel
theorem dX0_sortByKind_24 : decode cX0_sortByKind 24 = .ok (.iload_n 1, 1) := by decide +kernel
theorem dX0_sortByKind_25 : decode cX0_sortByKind 25 = .ok (.iaload, 1) := by decide +kernel
theorem dX0_sortByKind_26 : decode cX0_sortByKind 26 = .ok (.iastore, 1) := by decide +kernel
theorem dX0_sortByKind_27 : decode cX0_sortByKind 27 = .ok (.iinc 1 1, 3) := by decide +kernel
theorem dX0_sortByKind_30 : decode cX0_sortByKind 30 = .ok (.goto (-24), 3) := by decide +kernel
theorem dX0_sortByKind_33 : decode cX0_sortByKind 33 = .ok (.aload_n 0, 1) := by decide +kernel
theorem dX0_sortByKind_34 : decode cX0_sortByKind 34 = .ok (.getfield 31, 3) := by decide +kernel
theorem dX0_sortByKind_37 : decode cX0_sortByKind 37 = .ok (.bipush 12, 2) := by decide +kernel
theorem dX0_sortByKind_39 : decode cX0_sortByKind 39 = .ok (.iconst 4, 1) := by decide +kernel
theorem dX0_sortByKind_40 : decode cX0_sortByKind 40 = .ok (.iastore, 1) := by decide +kernel
theorem dX0_sortByKind_41 : decode cX0_sortByKind 41 = .ok (.return_, 1) := by decide +kernel
theorem dX0_partFiner_0 : decode cX0_partFiner 0 = .ok (.iconst 0, 1) := by decide +kernel
theorem dX0_partFiner_1 : decode cX0_partFiner 1 = .ok (.istore_n 1, 1) := by decide +kernel
theorem dX0_partFiner_2 : decode cX0_partFiner 2 = .ok (.iconst 0, 1) := by decide +kernel
theorem dX0_partFiner_3 : decode cX0_partFiner 3 = .ok (.istore_n 2, 1) := by decide +kernel
theorem dX0_partFiner_4 : decode cX0_partFiner 4 = .ok (.iload_n 2, 1) := by decide +kernel
theorem dX0_partFiner_5 : decode cX0_partFiner 5 = .ok (.bipush 13, 2) := by decide +kernel
theorem dX0_partFiner_7 : decode cX0_partFiner 7 = .ok (.if_icmp .ge 61, 3) := by decide +kernel
theorem dX0_partFiner_10 : decode cX0_partFiner 10 = .ok (.iconst 0, 1) := by decide +kernel
theorem dX0_partFiner_11 : decode cX0_partFiner 11 = .ok (.istore_n 3, 1) := by decide +kernel
theorem dX0_partFiner_12 : decode cX0_partFiner 12 = .ok (.iload_n 3, 1) := by decide +kernel
theorem dX0_partFiner_13 : decode cX0_partFiner 13 = .ok (.iload_n 2, 1) := by decide +kernel
theorem dX0_partFiner_14 : decode cX0_partFiner 14 = .ok (.if_icmp .ge 18, 3) := by decide +kernel
theorem dX0_partFiner_17 : decode cX0_partFiner 17 = .ok (.aload_n 0, 1) := by decide +kernel
theorem dX0_partFiner_18 : decode cX0_partFiner 18 = .ok (.iload_n 2, 1) := by decide +kernel
theorem dX0_partFiner_19 : decode cX0_partFiner 19 = .ok (.iload_n 3, 1) := by decide +kernel
theorem dX0_partFiner_20 : decode cX0_partFiner 20 = .ok (.invokevirtual 97, 3) := by decide +kernel
theorem dX0_partFiner_23 : decode cX0_partFiner 23 = .ok (.ifCond .ne 9, 3) := by decide +kernel
theorem dX0_partFiner_26 : decode cX0_partFiner 26 = .ok (.iinc 3 1, 3) := by decide +kernel
theorem dX0_partFiner_29 : decode cX0_partFiner 29 = .ok (.goto (-17), 3) := by decide +kernel
theorem dX0_partFiner_32 : decode cX0_partFiner 32 = .ok (.iload_n 3, 1) := by decide +kernel
theorem dX0_partFiner_33 : decode cX0_partFiner 33 = .ok (.iload_n 2, 1) := by decide +kernel
theorem dX0_partFiner_34 : decode cX0_partFiner 34 = .ok (.if_icmp .ge 18, 3) := by decide +kernel
theorem dX0_partFiner_37 : decode cX0_partFiner 37 = .ok (.aload_n 0, 1) := by decide +kernel
theorem dX0_partFiner_38 : decode cX0_partFiner 38 = .ok (.getfield 34, 3) := by decide +kernel
theorem dX0_partFiner_41 : decode cX0_partFiner 41 = .ok (.iload_n 2, 1) := by decide +kernel
theorem dX0_partFiner_42 : decode cX0_partFiner 42 = .ok (.aload_n 0, 1) := by decide +kernel
theorem dX0_partFiner_43 : decode cX0_partFiner 43 = .ok (.getfield 34, 3) := by decide +kernel
theorem dX0_partFiner_46 : decode cX0_partFiner 46 = .ok (.iload_n 3, 1) := by decide +kernel
theorem dX0_partFiner_47 : decode cX0_partFiner 47 = .ok (.iaload, 1) := by decide +kernel
theorem dX0_partFiner_48 : decode cX0_partFiner 48 = .ok (.iastore, 1) := by decide +kernel
theorem dX0_partFiner_49 : decode cX0_partFiner 49 = .ok (.goto 13, 3) := by decide +kernel
theorem dX0_partFiner_52 : decode cX0_partFiner 52 = .ok (.aload_n 0, 1) := by decide +kernel
theorem dX0_partFiner_53 : decode cX0_partFiner 53 = .ok (.getfield 34, 3) := by decide +kernel
theorem dX0_partFiner_56 : decode cX0_partFiner 56 = .ok (.iload_n 2, 1) := by decide +kernel
theorem dX0_partFiner_57 : decode cX0_partFiner 57 = .ok (.iload_n 1, 1) := by decide +kernel
theorem dX0_partFiner_58 : decode cX0_partFiner 58 = .ok (.iastore, 1) := by decide +kernel
theorem dX0_partFiner_59 : decode cX0_partFiner 59 = .ok (.iinc 1 1, 3) := by decide +kernel
theorem dX0_partFiner_62 : decode cX0_partFiner 62 = .ok (.iinc 2 1, 3) := by decide +kernel
theorem dX0_partFiner_65 : decode cX0_partFiner 65 = .ok (.goto (-61), 3) := by decide +kernel
theorem dX0_partFiner_68 : decode cX0_partFiner 68 = .ok (.aload_n 0, 1) := by decide +kernel
theorem dX0_partFiner_69 : decode cX0_partFiner 69 = .ok (.getfield 34, 3) := by decide +kernel
theorem dX0_partFiner_72 : decode cX0_partFiner 72 = .ok (.iconst 0, 1) := by decide +kernel
theorem dX0_partFiner_73 : decode cX0_partFiner 73 = .ok (.aload_n 0, 1) := by decide +kernel
theorem dX0_partFiner_74 : decode cX0_partFiner 74 = .ok (.getfield 31, 3) := by decide +kernel
theorem dX0_partFiner_77 : decode cX0_partFiner 77 = .ok (.iconst 0, 1) := by decide +kernel
theorem dX0_partFiner_78 : decode cX0_partFiner 78 = .ok (.bipush 13, 2) := by decide +kernel
theorem dX0_partFiner_80 : decode cX0_partFiner 80 = .ok (.invokestatic 82, 3) := by decide +kernel
theorem dX0_partFiner_83 : decode cX0_partFiner 83 = .ok (.iload_n 1, 1) := by decide +kernel
theorem dX0_partFiner_84 : decode cX0_partFiner 84 = .ok (.ireturn, 1) := by decide +kernel
theorem dX0_isAlike_0 : decode cX0_isAlike 0 = .ok (.aload_n 0, 1) := by decide +kernel
theorem dX0_isAlike_1 : decode cX0_isAlike 1 = .ok (.getfield 31, 3) := by decide +kernel
theorem dX0_isAlike_4 : decode cX0_isAlike 4 = .ok (.iload_n 1, 1) := by decide +kernel
theorem dX0_isAlike_5 : decode cX0_isAlike 5 = .ok (.iaload, 1) := by decide +kernel
theorem dX0_isAlike_6 : decode cX0_isAlike 6 = .ok (.aload_n 0, 1) := by decide +kernel
theorem dX0_isAlike_7 : decode cX0_isAlike 7 = .ok (.getfield 31, 3) := by decide +kernel
theorem dX0_isAlike_10 : decode cX0_isAlike 10 = .ok (.iload_n 2, 1) := by decide +kernel
theorem dX0_isAlike_11 : decode cX0_isAlike 11 = .ok (.iaload, 1) := by decide +kernel
theorem dX0_isAlike_12 : decode cX0_isAlike 12 = .ok (.if_icmp .ne 7, 3) := by decide +kernel
theorem dX0_isAlike_15 : decode cX0_isAlike 15 = .ok (.iconst 1, 1) := by decide +kernel
theorem dX0_isAlike_16 : decode cX0_isAlike 16 = .ok (.goto 4, 3) := by decide +kernel
theorem dX0_isAlike_19 : decode cX0_isAlike 19 = .ok (.iconst 0, 1) := by decide +kernel
theorem dX0_isAlike_20 : decode cX0_isAlike 20 = .ok (.istore_n 3, 1) := by decide +kernel
theorem dX0_isAlike_21 : decode cX0_isAlike 21 = .ok (.iconst 0, 1) := by decide +kernel
theorem dX0_isAlike_22 : decode cX0_isAlike 22 = .ok (.istore 4, 2) := by decide +kernel
theorem dX0_isAlike_24 : decode cX0_isAlike 24 = .ok (.iload 4, 2) := by decide +kernel
theorem dX0_isAlike_26 : decode cX0_isAlike 26 = .ok (.iconst 4, 1) := by decide +kernel
theorem dX0_isAlike_27 : decode cX0_isAlike 27 = .ok (.if_icmp .ge 54, 3) := by decide +kernel
theorem dX0_isAlike_30 : decode cX0_isAlike 30 = .ok (.iload_n 3, 1) := by decide +kernel
theorem dX0_isAlike_31 : decode cX0_isAlike 31 = .ok (.ifCond .eq 50, 3) := by decide +kernel
theorem dX0_isAlike_34 : decode cX0_isAlike 34 = .ok (.aload_n 0, 1) := by decide +kernel
theorem dX0_isAlike_35 : decode cX0_isAlike 35 = .ok (.getfield 31, 3) := by decide +kernel
theorem dX0_isAlike_38 : decode cX0_isAlike 38 = .ok (.aload_n 0, 1) := by decide +kernel
theorem dX0_isAlike_39 : decode cX0_isAlike 39 = .ok (.getfield 9, 3) := by decide +kernel
theorem dX0_isAlike_42 : decode cX0_isAlike 42 = .ok (.iload_n 1, 1) := by decide +kernel
theorem dX0_isAlike_43 : decode cX0_isAlike 43 = .ok (.iconst 4, 1) := by decide +kernel
theorem dX0_isAlike_44 : decode cX0_isAlike 44 = .ok (.imul, 1) := by decide +kernel
theorem dX0_isAlike_45 : decode cX0_isAlike 45 = .ok (.iload 4, 2) := by decide +kernel
theorem dX0_isAlike_47 : decode cX0_isAlike 47 = .ok (.iadd, 1) := by decide +kernel
theorem dX0_isAlike_48 : decode cX0_isAlike 48 = .ok (.iaload, 1) := by decide +kernel
theorem dX0_isAlike_49 : decode cX0_isAlike 49 = .ok (.iaload, 1) := by decide +kernel
theorem dX0_isAlike_50 : decode cX0_isAlike 50 = .ok (.aload_n 0, 1) := by decide +kernel
theorem dX0_isAlike_51 : decode cX0_isAlike 51 = .ok (.getfield 31, 3) := by decide +kernel
theorem dX0_isAlike_54 : decode cX0_isAlike 54 = .ok (.aload_n 0, 1) := by decide +kernel
theorem dX0_isAlike_55 : decode cX0_isAlike 55 = .ok (.getfield 9, 3) := by decide +kernel
theorem dX0_isAlike_58 : decode cX0_isAlike 58 = .ok (.iload_n 2, 1) := by decide +kernel
theorem dX0_isAlike_59 : decode cX0_isAlike 59 = .ok (.iconst 4, 1) := by decide +kernel
theorem dX0_isAlike_60 : decode cX0_isAlike 60 = .ok (.imul, 1) := by decide +kernel
theorem dX0_isAlike_61 : decode cX0_isAlike 61 = .ok (.iload 4, 2) := by decide +kernel
theorem dX0_isAlike_63 : decode cX0_isAlike 63 = .ok (.iadd, 1) := by decide +kernel
theorem dX0_isAlike_64 : decode cX0_isAlike 64 = .ok (.iaload, 1) := by decide +kernel
theorem dX0_isAlike_65 : decode cX0_isAlike 65 = .ok (.iaload, 1) := by decide +kernel
theorem dX0_isAlike_66 : decode cX0_isAlike 66 = .ok (.if_icmp .ne 7, 3) := by decide +kernel
theorem dX0_isAlike_69 : decode cX0_isAlike 69 = .ok (.iconst 1, 1) := by decide +kernel
theorem dX0_isAlike_70 : decode cX0_isAlike 70 = .ok (.goto 4, 3) := by decide +kernel
theorem dX0_isAlike_73 : decode cX0_isAlike 73 = .ok (.iconst 0, 1) := by decide +kernel
theorem dX0_isAlike_74 : decode cX0_isAlike 74 = .ok (.istore_n 3, 1) := by decide +kernel
theorem dX0_isAlike_75 : decode cX0_isAlike 75 = .ok (.iinc 4 1, 3) := by decide +kernel
theorem dX0_isAlike_78 : decode cX0_isAlike 78 = .ok (.goto (-54), 3) := by decide +kernel
theorem dX0_isAlike_81 : decode cX0_isAlike 81 = .ok (.iload_n 3, 1) := by decide +kernel
theorem dX0_isAlike_82 : decode cX0_isAlike 82 = .ok (.ireturn, 1) := by decide +kernel
theorem dX0_sortAll_0 : decode cX0_sortAll 0 = .ok (.aload_n 0, 1) := by decide +kernel
theorem dX0_sortAll_1 : decode cX0_sortAll 1 = .ok (.invokevirtual 101, 3) := by decide +kernel
theorem dX0_sortAll_4 : decode cX0_sortAll 4 = .ok (.iconst 0, 1) := by decide +kernel
theorem dX0_sortAll_5 : decode cX0_sortAll 5 = .ok (.istore_n 1, 1) := by decide +kernel
theorem dX0_sortAll_6 : decode cX0_sortAll 6 = .ok (.aload_n 0, 1) := by decide +kernel
theorem dX0_sortAll_7 : decode cX0_sortAll 7 = .ok (.invokevirtual 104, 3) := by decide +kernel
theorem dX0_sortAll_10 : decode cX0_sortAll 10 = .ok (.istore_n 2, 1) := by decide +kernel
theorem dX0_sortAll_11 : decode cX0_sortAll 11 = .ok (.iconst 0, 1) := by decide +kernel
theorem dX0_sortAll_12 : decode cX0_sortAll 12 = .ok (.istore_n 3, 1) := by decide +kernel
theorem dX0_sortAll_13 : decode cX0_sortAll 13 = .ok (.iload_n 3, 1) := by decide +kernel
theorem dX0_sortAll_14 : decode cX0_sortAll 14 = .ok (.bipush 13, 2) := by decide +kernel
theorem dX0_sortAll_16 : decode cX0_sortAll 16 = .ok (.if_icmp .ge 21, 3) := by decide +kernel
theorem dX0_sortAll_19 : decode cX0_sortAll 19 = .ok (.iload_n 2, 1) := by decide +kernel
theorem dX0_sortAll_20 : decode cX0_sortAll 20 = .ok (.iload_n 1, 1) := by decide +kernel
theorem dX0_sortAll_21 : decode cX0_sortAll 21 = .ok (.if_icmp .le 16, 3) := by decide +kernel
theorem dX0_sortAll_24 : decode cX0_sortAll 24 = .ok (.iload_n 2, 1) := by decide +kernel
theorem dX0_sortAll_25 : decode cX0_sortAll 25 = .ok (.istore_n 1, 1) := by decide +kernel
theorem dX0_sortAll_26 : decode cX0_sortAll 26 = .ok (.aload_n 0, 1) := by decide +kernel
theorem dX0_sortAll_27 : decode cX0_sortAll 27 = .ok (.invokevirtual 104, 3) := by decide +kernel
theorem dX0_sortAll_30 : decode cX0_sortAll 30 = .ok (.istore_n 2, 1) := by decide +kernel
theorem dX0_sortAll_31 : decode cX0_sortAll 31 = .ok (.iinc 3 1, 3) := by decide +kernel
theorem dX0_sortAll_34 : decode cX0_sortAll 34 = .ok (.goto (-21), 3) := by decide +kernel
theorem dX0_sortAll_37 : decode cX0_sortAll 37 = .ok (.iload_n 2, 1) := by decide +kernel
theorem dX0_sortAll_38 : decode cX0_sortAll 38 = .ok (.ireturn, 1) := by decide +kernel
theorem dX0_parted_0 : decode cX0_parted 0 = .ok (.aload_n 0, 1) := by decide +kernel
theorem dX0_parted_1 : decode cX0_parted 1 = .ok (.invokevirtual 101, 3) := by decide +kernel
theorem dX0_parted_4 : decode cX0_parted 4 = .ok (.iconst 0, 1) := by decide +kernel
theorem dX0_parted_5 : decode cX0_parted 5 = .ok (.istore_n 3, 1) := by decide +kernel
theorem dX0_parted_6 : decode cX0_parted 6 = .ok (.iload_n 3, 1) := by decide +kernel
theorem dX0_parted_7 : decode cX0_parted 7 = .ok (.bipush 13, 2) := by decide +kernel
theorem dX0_parted_9 : decode cX0_parted 9 = .ok (.if_icmp .ge 31, 3) := by decide +kernel
theorem dX0_parted_12 : decode cX0_parted 12 = .ok (.aload_n 0, 1) := by decide +kernel
theorem dX0_parted_13 : decode cX0_parted 13 = .ok (.getfield 31, 3) := by decide +kernel
theorem dX0_parted_16 : decode cX0_parted 16 = .ok (.iload_n 1, 1) := by decide +kernel
theorem dX0_parted_17 : decode cX0_parted 17 = .ok (.iaload, 1) := by decide +kernel
theorem dX0_parted_18 : decode cX0_parted 18 = .ok (.aload_n 0, 1) := by decide +kernel
theorem dX0_parted_19 : decode cX0_parted 19 = .ok (.getfield 31, 3) := by decide +kernel
theorem dX0_parted_22 : decode cX0_parted 22 = .ok (.iload_n 2, 1) := by decide +kernel
theorem dX0_parted_23 : decode cX0_parted 23 = .ok (.iaload, 1) := by decide +kernel
theorem dX0_parted_24 : decode cX0_parted 24 = .ok (.if_icmp .eq 5, 3) := by decide +kernel
theorem dX0_parted_27 : decode cX0_parted 27 = .ok (.iload_n 3, 1) := by decide +kernel
theorem dX0_parted_28 : decode cX0_parted 28 = .ok (.ireturn, 1) := by decide +kernel
theorem dX0_parted_29 : decode cX0_parted 29 = .ok (.aload_n 0, 1) := by decide +kernel
theorem dX0_parted_30 : decode cX0_parted 30 = .ok (.invokevirtual 104, 3) := by decide +kernel
theorem dX0_parted_33 : decode cX0_parted 33 = .ok (.pop, 1) := by decide +kernel
theorem dX0_parted_34 : decode cX0_parted 34 = .ok (.iinc 3 1, 3) := by decide +kernel
theorem dX0_parted_37 : decode cX0_parted 37 = .ok (.goto (-31), 3) := by decide +kernel
theorem dX0_parted_40 : decode cX0_parted 40 = .ok (.iconst (-1), 1) := by decide +kernel
theorem dX0_parted_41 : decode cX0_parted 41 = .ok (.ireturn, 1) := by decide +kernel
section
variable {p : Program} {l : Launch} {e : Env} {R : Room} {s : State} {m : MethodId} {args : Array Value} {below : List Frame} {meth : Method} {c : Code} {Q : State → Prop} {V : g_V} {nf nl : Nat}
set_option maxRecDepth 100000 in
set_option maxHeartbeats 4000000 in
theorem w_X0_survey_L10 (C : g_CX xG V p R s m args meth c cX0_survey 3 none RX0 3 64) {res : g_M} (hR : g_RetV xG V p l e R s m args below meth c Q cX0_survey res) (x15 : Int) (k18 : g_M → Option (g_M)) (hk18 : ∀ (M22 : g_M) (H : Heap) (locs : List Loc) (ls : Array Slot), k18 M22 = some res → g_PT xG V M22 s H locs → lv_has ls 3 [(0, .ref (V.2.2 67)), (1, .int (gI x15))] → W p l e R s m args below meth c H locs 0 0 Q (F0 m 40 ls [])) : ∀ (f : Nat) (x16 : Int) (M17 : g_M) (H : Heap) (locs : List Loc) (ls : Array Slot), m_X0_survey_L10 x15 k18 f x16 M17 = some res → g_PT xG V M17 s H locs → lv_has ls 3 [(0, .ref (V.2.2 67)), (1, .int (gI x15)), (2, .int (gI x16))] → W p l e R s m args below meth c H locs 0 0 Q (F0 m 10 ls []) := by
  intro f
  induction f with
  | zero => intro x16 M17 H locs ls h hp hl; cases h
  | succ f ih =>
    intro x16 M17 H locs ls h hp hl
    rw [m_X0_survey_L10] at h
    refine lv_iload_n C.1 C.2.1 dX0_survey_10 rfl (lv_at hl 2 rfl) ?_
    refine r_iconst C dX0_survey_11 ?_
    refine r_icmp_ge (tgt := 40) C h dX0_survey_12 (by decide) (fun h => ?_) (fun h => ?_)
    · exact hk18 _ _ _ _ h hp (lv_sub hl [0, 1] rfl)
    · refine lv_aload_n C.1 C.2.1 dX0_survey_15 rfl (lv_at hl 0 rfl) ?_
      refine r_getr (t := 68) C hp xk_67 xs_67 xc_0 xin_0 (j := 1) (by decide) rfl gw_369 rfl dX0_survey_16 ?_
      refine lv_iload_n C.1 C.2.1 dX0_survey_19 rfl (lv_at hl 1 rfl) ?_
      refine r_iconst C dX0_survey_20 ?_
      refine r_imul C dX0_survey_21 ?_
      refine lv_iload_n C.1 C.2.1 dX0_survey_22 rfl (lv_at hl 2 rfl) ?_
      refine r_iadd C dX0_survey_23 ?_
      refine lv_aload_n C.1 C.2.1 dX0_survey_24 rfl (lv_at hl 0 rfl) ?_
      refine r_getr (t := 1) C hp xk_67 xs_67 xc_0 xin_0 (j := 0) (by decide) rfl gw_368 rfl dX0_survey_25 ?_
      refine lv_iload_n C.1 C.2.1 dX0_survey_28 rfl (lv_at hl 1 rfl) ?_
      refine lv_iload_n C.1 C.2.1 dX0_survey_29 rfl (lv_at hl 2 rfl) ?_
      obtain ⟨x19, hr, h⟩ := bd_of h
      refine r_callVI (As := [.int (gI x15), .int (gI x16)]) (rest := [.int (gI ((x15 * 4) + x16)), .ref (V.2.2 68)]) C hl.1 hp (c_X1_after l C.2.2.2.2.2.2.2.2.2.2.2 hr) gw_1008 gw_790 gw_791 xk_1 xs_1 xc_1 cal_X1_after rfl rfl (Nat.le_of_ble_eq_true rfl) ⟨Nat.le_of_ble_eq_true rfl, Nat.le_of_ble_eq_true rfl⟩ dX0_survey_30 (fun H locs hp => ?_)
      refine r_iast C hp h xk_68 xs_68 dX0_survey_33 (fun M20 H locs h hp => ?_)
      refine r_iinc (lv' := fun x21 => [(2, .int (gI x21)), (0, .ref (V.2.2 67)), (1, .int (gI x15))]) C h dX0_survey_34 hl (j := 2) rfl (by decide) (fun _ => rfl) (fun x21 ls h hl => ?_)
      refine r_goto (tgt := 10) C dX0_survey_37 (by decide) ?_
      exact ih _ _ _ _ _ h hp (lv_sub hl [1, 2, 0] rfl)
set_option maxRecDepth 100000 in
set_option maxHeartbeats 4000000 in
theorem w_X0_survey_L2 (C : g_CX xG V p R s m args meth c cX0_survey 3 none RX0 3 64) {res : g_M} (hR : g_RetV xG V p l e R s m args below meth c Q cX0_survey res)    : ∀ (f : Nat) (x12 : Int) (M13 : g_M) (H : Heap) (locs : List Loc) (ls : Array Slot), m_X0_survey_L2  f x12 M13 = some res → g_PT xG V M13 s H locs → lv_has ls 3 [(0, .ref (V.2.2 67)), (1, .int (gI x12))] → W p l e R s m args below meth c H locs 0 0 Q (F0 m 2 ls []) := by
  intro f
  induction f with
  | zero => intro x12 M13 H locs ls h hp hl; cases h
  | succ f ih =>
    intro x12 M13 H locs ls h hp hl
    rw [m_X0_survey_L2] at h
    refine lv_iload_n C.1 C.2.1 dX0_survey_2 rfl (lv_at hl 1 rfl) ?_
    refine r_bipush C dX0_survey_3 (by decide +kernel) ?_
    refine r_icmp_ge (tgt := 46) C h dX0_survey_5 (by decide) (fun h => ?_) (fun h => ?_)
    · cases h
      exact hR _ _ _ _ dX0_survey_46 hp
    · refine r_iconst C dX0_survey_8 ?_
      refine r_istore_n (lv' := fun x14 => [(2, .int (gI x14)), (0, .ref (V.2.2 67)), (1, .int (gI x12))]) C h dX0_survey_9 rfl hl (by decide) (fun _ => rfl) (fun x14 ls h hl => ?_)
      refine w_X0_survey_L10 C hR _ _ ?_ _ _ _ H locs ls h hp (lv_sub hl [1, 2, 0] rfl)
      · intro M23 H locs ls h hp hl
        refine r_iinc (lv' := fun x24 => [(1, .int (gI x24)), (0, .ref (V.2.2 67))]) C h dX0_survey_40 hl (j := 1) rfl (by decide) (fun _ => rfl) (fun x24 ls h hl => ?_)
        refine r_goto (tgt := 2) C dX0_survey_43 (by decide) ?_
        exact ih _ _ _ _ _ h hp (lv_sub hl [1, 0] rfl)
set_option maxRecDepth 100000 in
set_option maxHeartbeats 4000000 in
theorem b_X0_survey (C : g_CX xG V p R s m args meth c cX0_survey 3 none RX0 3 64) {res : g_M} (hR : g_RetV xG V p l e R s m args below meth c Q cX0_survey res)  {M : g_M} {H : Heap} {locs : List Loc} {ls : Array Slot} (h : m_X0_survey M = some res) (hp : g_PT xG V M s H locs) (hl : lv_has ls 3 [(0, .ref (V.2.2 67))]) : W p l e R s m args below meth c H locs 0 0 Q (F0 m 0 ls []) := by
  unfold m_X0_survey at h
  refine r_iconst C dX0_survey_0 ?_
  refine r_istore_n (lv' := fun x11 => [(1, .int (gI x11)), (0, .ref (V.2.2 67))]) C h dX0_survey_1 rfl hl (by decide) (fun _ => rfl) (fun x11 ls h hl => ?_)
  refine w_X0_survey_L2 C hR _ _ _ H locs ls h hp (lv_sub hl [1, 0] rfl)
theorem c_X0_survey (l : Launch) {V : g_V} (hok : g_ok xG V)  {M : g_M} {res : g_M} (h : m_X0_survey M = some res) : MetV xG V l yX0_survey cX0_survey 3 none 3 64 [.ref (V.2.2 67)] M res :=
  g_metV hok cal_X0_survey.2.2.2 rfl (Nat.le_of_ble_eq_true rfl) (@fun p e R s m args below meth c Q ls C hR hp hl => b_X0_survey C hR h hp hl)
set_option maxRecDepth 100000 in
set_option maxHeartbeats 4000000 in
theorem w_X0_measureTo_L6 (C : g_CX xG V p R s m args meth c cX0_measureTo 6 none RX0 4 86) {res : g_M} (hR : g_RetV xG V p l e R s m args below meth c Q cX0_measureTo res) (x13 : Int) (k16 : g_M → Option (g_M)) (hk16 : ∀ (M22 : g_M) (H : Heap) (locs : List Loc) (ls : Array Slot), k16 M22 = some res → g_PT xG V M22 s H locs → lv_has ls 6 [(0, .ref (V.2.2 67))] → W p l e R s m args below meth c H locs 0 0 Q (F0 m 36 ls [])) : ∀ (f : Nat) (x14 : Int) (M15 : g_M) (H : Heap) (locs : List Loc) (ls : Array Slot), m_X0_measureTo_L6 x13 k16 f x14 M15 = some res → g_PT xG V M15 s H locs → lv_has ls 6 [(0, .ref (V.2.2 67)), (1, .int (gI x13)), (2, .int (gI x14))] → W p l e R s m args below meth c H locs 0 0 Q (F0 m 6 ls []) := by
  intro f
  induction f with
  | zero => intro x14 M15 H locs ls h hp hl; cases h
  | succ f ih =>
    intro x14 M15 H locs ls h hp hl
    rw [m_X0_measureTo_L6] at h
    refine lv_iload_n C.1 C.2.1 dX0_measureTo_6 rfl (lv_at hl 2 rfl) ?_
    refine r_bipush C dX0_measureTo_7 (by decide +kernel) ?_
    refine r_icmp_ge (tgt := 36) C h dX0_measureTo_9 (by decide) (fun h => ?_) (fun h => ?_)
    · exact hk16 _ _ _ _ h hp (lv_sub hl [0] rfl)
    · refine r_jn (P := fun J => ∀ (x18 : Int) (x19 : Int) (H : Heap) (locs : List Loc) (ls : Array Slot), J x18 x19 = some res → g_PT xG V M15 s H locs → lv_has ls 6 [(0, .ref (V.2.2 67)), (1, .int (gI x13)), (2, .int (gI x14))] → W p l e R s m args below meth c H locs 0 0 Q (F0 m 29 ls [.int (gI x18), .int (gI x19), .ref (V.2.2 69)])) h ?_ (fun J17 hJ17 h => ?_)
      · intro x18 x19 H locs ls h hp hl
        refine r_iast C hp h xk_69 xs_69 dX0_measureTo_29 (fun M20 H locs h hp => ?_)
        refine r_iinc (lv' := fun x21 => [(2, .int (gI x21)), (0, .ref (V.2.2 67)), (1, .int (gI x13))]) C h dX0_measureTo_30 hl (j := 2) rfl (by decide) (fun _ => rfl) (fun x21 ls h hl => ?_)
        refine r_goto (tgt := 6) C dX0_measureTo_33 (by decide) ?_
        exact ih _ _ _ _ _ h hp (lv_sub hl [1, 2, 0] rfl)
      refine lv_aload_n C.1 C.2.1 dX0_measureTo_12 rfl (lv_at hl 0 rfl) ?_
      refine r_getr (t := 69) C hp xk_67 xs_67 xc_0 xin_0 (j := 2) (by decide) rfl gw_370 rfl dX0_measureTo_13 ?_
      refine lv_iload_n C.1 C.2.1 dX0_measureTo_16 rfl (lv_at hl 2 rfl) ?_
      refine lv_iload_n C.1 C.2.1 dX0_measureTo_17 rfl (lv_at hl 2 rfl) ?_
      refine lv_iload_n C.1 C.2.1 dX0_measureTo_18 rfl (lv_at hl 1 rfl) ?_
      refine r_icmp_ne (tgt := 26) C h dX0_measureTo_19 (by decide) (fun h => ?_) (fun h => ?_)
      · refine r_sipush C dX0_measureTo_26 (by decide +kernel) ?_
        exact hJ17 _ _ _ _ _ h hp hl
      · refine r_iconst C dX0_measureTo_22 ?_
        refine r_goto (tgt := 29) C dX0_measureTo_23 (by decide) ?_
        exact hJ17 _ _ _ _ _ h hp hl
set_option maxRecDepth 100000 in
set_option maxHeartbeats 4000000 in
theorem w_X0_measureTo_L55 (C : g_CX xG V p R s m args meth c cX0_measureTo 6 none RX0 4 86) {res : g_M} (hR : g_RetV xG V p l e R s m args below meth c Q cX0_measureTo res) (x32 : Int) (k35 : Int → g_M → Option (g_M)) (hk35 : ∀ (x43 : Int) (M44 : g_M) (H : Heap) (locs : List Loc) (ls : Array Slot), k35 x43 M44 = some res → g_PT xG V M44 s H locs → lv_has ls 6 [(0, .ref (V.2.2 67)), (2, .int (gI x43)), (3, .int (gI x32))] → W p l e R s m args below meth c H locs 0 0 Q (F0 m 111 ls [])) : ∀ (f : Nat) (x31 : Int) (x33 : Int) (M34 : g_M) (H : Heap) (locs : List Loc) (ls : Array Slot), m_X0_measureTo_L55 x32 k35 f x31 x33 M34 = some res → g_PT xG V M34 s H locs → lv_has ls 6 [(0, .ref (V.2.2 67)), (2, .int (gI x31)), (3, .int (gI x32)), (4, .int (gI x33))] → W p l e R s m args below meth c H locs 0 0 Q (F0 m 55 ls []) := by
  intro f
  induction f with
  | zero => intro x31 x33 M34 H locs ls h hp hl; cases h
  | succ f ih =>
    intro x31 x33 M34 H locs ls h hp hl
    rw [m_X0_measureTo_L55] at h
    refine lv_iload C.1 C.2.1 dX0_measureTo_55 (lv_at hl 3 rfl) ?_
    refine r_bipush C dX0_measureTo_57 (by decide +kernel) ?_
    refine r_icmp_ge (tgt := 111) C h dX0_measureTo_59 (by decide) (fun h => ?_) (fun h => ?_)
    · exact hk35 _ _ _ _ _ h hp (lv_sub hl [0, 1, 2] rfl)
    · refine r_jn (P := fun J => ∀ (x40 : Int) (M41 : g_M) (H : Heap) (locs : List Loc) (ls : Array Slot), J x40 M41 = some res → g_PT xG V M41 s H locs → lv_has ls 6 [(0, .ref (V.2.2 67)), (2, .int (gI x40)), (3, .int (gI x32)), (4, .int (gI x33))] → W p l e R s m args below meth c H locs 0 0 Q (F0 m 105 ls [])) h ?_ (fun J36 hJ36 h => ?_)
      · intro x40 M41 H locs ls h hp hl
        refine r_iinc (lv' := fun x42 => [(4, .int (gI x42)), (0, .ref (V.2.2 67)), (2, .int (gI x40)), (3, .int (gI x32))]) C h dX0_measureTo_105 hl (j := 3) rfl (by decide) (fun _ => rfl) (fun x42 ls h hl => ?_)
        refine r_goto (tgt := 55) C dX0_measureTo_108 (by decide) ?_
        exact ih _ _ _ _ _ _ h hp (lv_sub hl [1, 2, 3, 0] rfl)
      refine lv_aload_n C.1 C.2.1 dX0_measureTo_62 rfl (lv_at hl 0 rfl) ?_
      refine r_getr (t := 69) C hp xk_67 xs_67 xc_0 xin_0 (j := 2) (by decide) rfl gw_370 rfl dX0_measureTo_63 ?_
      refine lv_aload_n C.1 C.2.1 dX0_measureTo_66 rfl (lv_at hl 0 rfl) ?_
      refine r_getr (t := 68) C hp xk_67 xs_67 xc_0 xin_0 (j := 1) (by decide) rfl gw_369 rfl dX0_measureTo_67 ?_
      refine lv_iload C.1 C.2.1 dX0_measureTo_70 (lv_at hl 3 rfl) ?_
      refine r_iald C hp h xk_68 xs_68 dX0_measureTo_72 (fun h => ?_)
      refine r_iald C hp h xk_69 xs_69 dX0_measureTo_73 (fun h => ?_)
      refine r_iconst C dX0_measureTo_74 ?_
      refine r_iadd C dX0_measureTo_75 ?_
      refine r_istore (lv' := fun x37 => [(5, .int (gI x37)), (0, .ref (V.2.2 67)), (2, .int (gI x31)), (3, .int (gI x32)), (4, .int (gI x33))]) C h dX0_measureTo_76 hl (by decide) (fun _ => rfl) (fun x37 ls h hl => ?_)
      refine lv_iload C.1 C.2.1 dX0_measureTo_78 (lv_at hl 0 rfl) ?_
      refine lv_aload_n C.1 C.2.1 dX0_measureTo_80 rfl (lv_at hl 1 rfl) ?_
      refine r_getr (t := 69) C hp xk_67 xs_67 xc_0 xin_0 (j := 2) (by decide) rfl gw_370 rfl dX0_measureTo_81 ?_
      refine lv_iload C.1 C.2.1 dX0_measureTo_84 (lv_at hl 4 rfl) ?_
      refine r_iconst C dX0_measureTo_86 ?_
      refine r_idiv C h dX0_measureTo_87 (fun h => ?_)
      refine r_iald C hp h xk_69 xs_69 dX0_measureTo_88 (fun h => ?_)
      refine r_icmp_ge (tgt := 105) C h dX0_measureTo_89 (by decide) (fun h => ?_) (fun h => ?_)
      · exact hJ36 _ _ _ _ _ h hp (lv_sub hl [1, 2, 3, 4] rfl)
      · refine lv_aload_n C.1 C.2.1 dX0_measureTo_92 rfl (lv_at hl 1 rfl) ?_
        refine r_getr (t := 69) C hp xk_67 xs_67 xc_0 xin_0 (j := 2) (by decide) rfl gw_370 rfl dX0_measureTo_93 ?_
        refine lv_iload C.1 C.2.1 dX0_measureTo_96 (lv_at hl 4 rfl) ?_
        refine r_iconst C dX0_measureTo_98 ?_
        refine r_idiv C h dX0_measureTo_99 (fun h => ?_)
        refine lv_iload C.1 C.2.1 dX0_measureTo_100 (lv_at hl 0 rfl) ?_
        refine r_iast C hp h xk_69 xs_69 dX0_measureTo_102 (fun M38 H locs h hp => ?_)
        refine r_iconst C dX0_measureTo_103 ?_
        refine r_istore_n (lv' := fun x39 => [(2, .int (gI x39)), (5, .int (gI x37)), (0, .ref (V.2.2 67)), (3, .int (gI x32)), (4, .int (gI x33))]) C h dX0_measureTo_104 rfl hl (by decide) (fun _ => rfl) (fun x39 ls h hl => ?_)
        exact hJ36 _ _ _ _ _ h hp (lv_sub hl [2, 0, 3, 4] rfl)
set_option maxRecDepth 100000 in
set_option maxHeartbeats 4000000 in
theorem w_X0_measureTo_L40 (C : g_CX xG V p R s m args meth c cX0_measureTo 6 none RX0 4 86) {res : g_M} (hR : g_RetV xG V p l e R s m args below meth c Q cX0_measureTo res)    : ∀ (f : Nat) (x26 : Int) (x27 : Int) (M28 : g_M) (H : Heap) (locs : List Loc) (ls : Array Slot), m_X0_measureTo_L40  f x26 x27 M28 = some res → g_PT xG V M28 s H locs → lv_has ls 6 [(0, .ref (V.2.2 67)), (2, .int (gI x26)), (3, .int (gI x27))] → W p l e R s m args below meth c H locs 0 0 Q (F0 m 40 ls []) := by
  intro f
  induction f with
  | zero => intro x26 x27 M28 H locs ls h hp hl; cases h
  | succ f ih =>
    intro x26 x27 M28 H locs ls h hp hl
    rw [m_X0_measureTo_L40] at h
    refine lv_iload_n C.1 C.2.1 dX0_measureTo_40 rfl (lv_at hl 2 rfl) ?_
    refine r_bipush C dX0_measureTo_41 (by decide +kernel) ?_
    refine r_icmp_ge (tgt := 117) C h dX0_measureTo_43 (by decide) (fun h => ?_) (fun h => ?_)
    · cases h
      exact hR _ _ _ _ dX0_measureTo_117 hp
    · refine lv_iload_n C.1 C.2.1 dX0_measureTo_46 rfl (lv_at hl 1 rfl) ?_
      refine r_if_eq (tgt := 117) C h dX0_measureTo_47 (by decide) (fun h => ?_) (fun h => ?_)
      · cases h
        exact hR _ _ _ _ dX0_measureTo_117 hp
      · refine r_iconst C dX0_measureTo_50 ?_
        refine r_istore_n (lv' := fun x29 => [(2, .int (gI x29)), (0, .ref (V.2.2 67)), (3, .int (gI x27))]) C h dX0_measureTo_51 rfl hl (by decide) (fun _ => rfl) (fun x29 ls h hl => ?_)
        refine r_iconst C dX0_measureTo_52 ?_
        refine r_istore (lv' := fun x30 => [(4, .int (gI x30)), (2, .int (gI x29)), (0, .ref (V.2.2 67)), (3, .int (gI x27))]) C h dX0_measureTo_53 hl (by decide) (fun _ => rfl) (fun x30 ls h hl => ?_)
        refine w_X0_measureTo_L55 C hR _ _ ?_ _ _ _ _ H locs ls h hp (lv_sub hl [2, 1, 3, 0] rfl)
        · intro x45 M46 H locs ls h hp hl
          refine r_iinc (lv' := fun x47 => [(3, .int (gI x47)), (0, .ref (V.2.2 67)), (2, .int (gI x45))]) C h dX0_measureTo_111 hl (j := 2) rfl (by decide) (fun _ => rfl) (fun x47 ls h hl => ?_)
          refine r_goto (tgt := 40) C dX0_measureTo_114 (by decide) ?_
          exact ih _ _ _ _ _ _ h hp (lv_sub hl [1, 2, 0] rfl)
set_option maxRecDepth 100000 in
set_option maxHeartbeats 4000000 in
theorem b_X0_measureTo (C : g_CX xG V p R s m args meth c cX0_measureTo 6 none RX0 4 86) {res : g_M} (hR : g_RetV xG V p l e R s m args below meth c Q cX0_measureTo res) {a1 : Int} {M : g_M} {H : Heap} {locs : List Loc} {ls : Array Slot} (h : m_X0_measureTo a1 M = some res) (hp : g_PT xG V M s H locs) (hl : lv_has ls 6 [(0, .ref (V.2.2 67)), (1, .int (gI a1))]) : W p l e R s m args below meth c H locs 0 0 Q (F0 m 0 ls []) := by
  unfold m_X0_measureTo at h
  refine lv_aload_n C.1 C.2.1 dX0_measureTo_0 rfl (lv_at hl 0 rfl) ?_
  obtain ⟨M11, hr, h⟩ := bd_of h
  refine r_callVV (As := []) (rest := []) C hl.1 hp (c_X0_survey l C.2.2.2.2.2.2.2.2.2.2.2 hr) gw_1004 gw_1006 gw_29 xk_67 xs_67 xc_0 cal_X0_survey rfl rfl (Nat.le_of_ble_eq_true rfl) ⟨Nat.le_of_ble_eq_true rfl, Nat.le_of_ble_eq_true rfl⟩ dX0_measureTo_1 (fun H locs hp => ?_)
  refine r_iconst C dX0_measureTo_4 ?_
  refine r_istore_n (lv' := fun x12 => [(2, .int (gI x12)), (0, .ref (V.2.2 67)), (1, .int (gI a1))]) C h dX0_measureTo_5 rfl hl (by decide) (fun _ => rfl) (fun x12 ls h hl => ?_)
  refine w_X0_measureTo_L6 C hR _ _ ?_ _ _ _ H locs ls h hp (lv_sub hl [1, 2, 0] rfl)
  · intro M23 H locs ls h hp hl
    refine r_iconst C dX0_measureTo_36 ?_
    refine r_istore_n (lv' := fun x24 => [(2, .int (gI x24)), (0, .ref (V.2.2 67))]) C h dX0_measureTo_37 rfl hl (by decide) (fun _ => rfl) (fun x24 ls h hl => ?_)
    refine r_iconst C dX0_measureTo_38 ?_
    refine r_istore_n (lv' := fun x25 => [(3, .int (gI x25)), (2, .int (gI x24)), (0, .ref (V.2.2 67))]) C h dX0_measureTo_39 rfl hl (by decide) (fun _ => rfl) (fun x25 ls h hl => ?_)
    refine w_X0_measureTo_L40 C hR _ _ _ _ H locs ls h hp (lv_sub hl [2, 1, 0] rfl)
theorem c_X0_measureTo (l : Launch) {V : g_V} (hok : g_ok xG V) {a1 : Int} {M : g_M} {res : g_M} (h : m_X0_measureTo a1 M = some res) : MetV xG V l yX0_measureTo cX0_measureTo 6 none 4 86 [.ref (V.2.2 67), .int (gI a1)] M res :=
  g_metV hok cal_X0_measureTo.2.2.2 rfl (Nat.le_of_ble_eq_true rfl) (@fun p e R s m args below meth c Q ls C hR hp hl => b_X0_measureTo C hR h hp hl)
set_option maxRecDepth 100000 in
set_option maxHeartbeats 4000000 in
theorem w_X0_nearerCue_L2 (C : g_CX xG V p R s m args meth c cX0_nearerCue 3 (some .int) RX0 0 0) {res : Int} {M14 : g_M} (hR : g_RetI xG V p l e R s m args below meth c Q cX0_nearerCue .int res M14) (x12 : Int)   : ∀ (f : Nat) (x13 : Int) (H : Heap) (locs : List Loc) (ls : Array Slot), m_X0_nearerCue_L2 x12 M14  f x13 = some res → g_PT xG V M14 s H locs → lv_has ls 3 [(0, .ref (V.2.2 67)), (1, .int (gI x12)), (2, .int (gI x13))] → W p l e R s m args below meth c H locs 0 0 Q (F0 m 2 ls []) := by
  intro f
  induction f with
  | zero => intro x13 H locs ls h hp hl; cases h
  | succ f ih =>
    intro x13 H locs ls h hp hl
    rw [m_X0_nearerCue_L2] at h
    refine lv_iload_n C.1 C.2.1 dX0_nearerCue_2 rfl (lv_at hl 2 rfl) ?_
    refine r_iconst C dX0_nearerCue_3 ?_
    refine r_icmp_ge (tgt := 41) C h dX0_nearerCue_4 (by decide) (fun h => ?_) (fun h => ?_)
    · refine r_iconst C dX0_nearerCue_41 ?_
      cases h
      exact hR _ _ _ _ dX0_nearerCue_42 rfl hp
    · refine lv_aload_n C.1 C.2.1 dX0_nearerCue_7 rfl (lv_at hl 0 rfl) ?_
      refine r_getr (t := 69) C hp xk_67 xs_67 xc_0 xin_0 (j := 2) (by decide) rfl gw_370 rfl dX0_nearerCue_8 ?_
      refine lv_aload_n C.1 C.2.1 dX0_nearerCue_11 rfl (lv_at hl 0 rfl) ?_
      refine r_getr (t := 68) C hp xk_67 xs_67 xc_0 xin_0 (j := 1) (by decide) rfl gw_369 rfl dX0_nearerCue_12 ?_
      refine lv_iload_n C.1 C.2.1 dX0_nearerCue_15 rfl (lv_at hl 1 rfl) ?_
      refine r_iconst C dX0_nearerCue_16 ?_
      refine r_imul C dX0_nearerCue_17 ?_
      refine lv_iload_n C.1 C.2.1 dX0_nearerCue_18 rfl (lv_at hl 2 rfl) ?_
      refine r_iadd C dX0_nearerCue_19 ?_
      refine r_iald C hp h xk_68 xs_68 dX0_nearerCue_20 (fun h => ?_)
      refine r_iald C hp h xk_69 xs_69 dX0_nearerCue_21 (fun h => ?_)
      refine lv_aload_n C.1 C.2.1 dX0_nearerCue_22 rfl (lv_at hl 0 rfl) ?_
      refine r_getr (t := 69) C hp xk_67 xs_67 xc_0 xin_0 (j := 2) (by decide) rfl gw_370 rfl dX0_nearerCue_23 ?_
      refine lv_iload_n C.1 C.2.1 dX0_nearerCue_26 rfl (lv_at hl 1 rfl) ?_
      refine r_iald C hp h xk_69 xs_69 dX0_nearerCue_27 (fun h => ?_)
      refine r_iconst C dX0_nearerCue_28 ?_
      refine r_isub C dX0_nearerCue_29 ?_
      refine r_icmp_ne (tgt := 35) C h dX0_nearerCue_30 (by decide) (fun h => ?_) (fun h => ?_)
      · refine r_iinc (lv' := fun x15 => [(2, .int (gI x15)), (0, .ref (V.2.2 67)), (1, .int (gI x12))]) C h dX0_nearerCue_35 hl (j := 2) rfl (by decide) (fun _ => rfl) (fun x15 ls h hl => ?_)
        refine r_goto (tgt := 2) C dX0_nearerCue_38 (by decide) ?_
        exact ih _ _ _ _ h hp (lv_sub hl [1, 2, 0] rfl)
      · refine lv_iload_n C.1 C.2.1 dX0_nearerCue_33 rfl (lv_at hl 2 rfl) ?_
        cases h
        exact hR _ _ _ _ dX0_nearerCue_34 rfl hp
set_option maxRecDepth 100000 in
set_option maxHeartbeats 4000000 in
theorem b_X0_nearerCue (C : g_CX xG V p R s m args meth c cX0_nearerCue 3 (some .int) RX0 0 0) {res : Int} {M : g_M} (hR : g_RetI xG V p l e R s m args below meth c Q cX0_nearerCue .int res M) {a1 : Int} {H : Heap} {locs : List Loc} {ls : Array Slot} (h : m_X0_nearerCue a1 M = some res) (hp : g_PT xG V M s H locs) (hl : lv_has ls 3 [(0, .ref (V.2.2 67)), (1, .int (gI a1))]) : W p l e R s m args below meth c H locs 0 0 Q (F0 m 0 ls []) := by
  unfold m_X0_nearerCue at h
  refine r_iconst C dX0_nearerCue_0 ?_
  refine r_istore_n (lv' := fun x11 => [(2, .int (gI x11)), (0, .ref (V.2.2 67)), (1, .int (gI a1))]) C h dX0_nearerCue_1 rfl hl (by decide) (fun _ => rfl) (fun x11 ls h hl => ?_)
  refine w_X0_nearerCue_L2 C hR _ _ _ H locs ls h hp (lv_sub hl [1, 2, 0] rfl)
theorem c_X0_nearerCue (l : Launch) {V : g_V} (hok : g_ok xG V) {a1 : Int} {M : g_M} {x : Int} (h : m_X0_nearerCue a1 M = some x) : MetI xG V l yX0_nearerCue cX0_nearerCue 3 (some .int) 0 0 [.ref (V.2.2 67), .int (gI a1)] M x M :=
  g_metI hok cal_X0_nearerCue.2.2.2 rfl (Nat.le_of_ble_eq_true rfl) (@fun p e R s m args below meth c Q ls C hR hp hl => b_X0_nearerCue C hR h hp hl)
set_option maxRecDepth 100000 in
set_option maxHeartbeats 4000000 in
theorem w_X0_shortestWay_L53 (C : g_CX xG V p R s m args meth c cX0_shortestWay 7 (some .int) RX0 5 111) {res : Int × g_M} (hR : g_RetI xG V p l e R s m args below meth c Q cX0_shortestWay .int res.1 res.2) (x16 : Int) (M19 : g_M) (k20 : Int → Option (Int × g_M)) (hk20 : ∀ (x24 : Int) (H : Heap) (locs : List Loc) (ls : Array Slot), k20 x24 = some res → g_PT xG V M19 s H locs → lv_has ls 7 [(0, .ref (V.2.2 67)), (5, .int (gI x24))] → W p l e R s m args below meth c H locs 0 0 Q (F0 m 83 ls [])) : ∀ (f : Nat) (x17 : Int) (x18 : Int) (H : Heap) (locs : List Loc) (ls : Array Slot), m_X0_shortestWay_L53 x16 M19 k20 f x17 x18 = some res → g_PT xG V M19 s H locs → lv_has ls 7 [(0, .ref (V.2.2 67)), (3, .int (gI x16)), (5, .int (gI x17)), (6, .int (gI x18))] → W p l e R s m args below meth c H locs 0 0 Q (F0 m 53 ls []) := by
  intro f
  induction f with
  | zero => intro x17 x18 H locs ls h hp hl; cases h
  | succ f ih =>
    intro x17 x18 H locs ls h hp hl
    rw [m_X0_shortestWay_L53] at h
    refine lv_iload C.1 C.2.1 dX0_shortestWay_53 (lv_at hl 3 rfl) ?_
    refine lv_iload_n C.1 C.2.1 dX0_shortestWay_55 rfl (lv_at hl 1 rfl) ?_
    refine r_icmp_ge (tgt := 83) C h dX0_shortestWay_56 (by decide) (fun h => ?_) (fun h => ?_)
    · exact hk20 _ _ _ _ h hp (lv_sub hl [0, 2] rfl)
    · refine lv_aload_n C.1 C.2.1 dX0_shortestWay_59 rfl (lv_at hl 0 rfl) ?_
      refine r_getr (t := 68) C hp xk_67 xs_67 xc_0 xin_0 (j := 1) (by decide) rfl gw_369 rfl dX0_shortestWay_60 ?_
      refine lv_iload C.1 C.2.1 dX0_shortestWay_63 (lv_at hl 2 rfl) ?_
      refine r_iconst C dX0_shortestWay_65 ?_
      refine r_imul C dX0_shortestWay_66 ?_
      refine lv_aload_n C.1 C.2.1 dX0_shortestWay_67 rfl (lv_at hl 0 rfl) ?_
      refine lv_iload C.1 C.2.1 dX0_shortestWay_68 (lv_at hl 2 rfl) ?_
      obtain ⟨x21, hr, h⟩ := bd_of h
      refine r_callVI (As := [.int (gI x17)]) (rest := [.int (gI (x17 * 4)), .ref (V.2.2 68)]) C hl.1 hp (c_X0_nearerCue l C.2.2.2.2.2.2.2.2.2.2.2 hr) gw_1010 gw_1012 gw_30 xk_67 xs_67 xc_0 cal_X0_nearerCue rfl rfl (Nat.le_of_ble_eq_true rfl) ⟨Nat.le_of_ble_eq_true rfl, Nat.le_of_ble_eq_true rfl⟩ dX0_shortestWay_70 (fun H locs hp => ?_)
      refine r_iadd C dX0_shortestWay_73 ?_
      refine r_iald C hp h xk_68 xs_68 dX0_shortestWay_74 (fun h => ?_)
      refine r_istore (lv' := fun x22 => [(5, .int (gI x22)), (0, .ref (V.2.2 67)), (3, .int (gI x16)), (6, .int (gI x18))]) C h dX0_shortestWay_75 hl (by decide) (fun _ => rfl) (fun x22 ls h hl => ?_)
      refine r_iinc (lv' := fun x23 => [(6, .int (gI x23)), (5, .int (gI x22)), (0, .ref (V.2.2 67)), (3, .int (gI x16))]) C h dX0_shortestWay_77 hl (j := 3) rfl (by decide) (fun _ => rfl) (fun x23 ls h hl => ?_)
      refine r_goto (tgt := 53) C dX0_shortestWay_80 (by decide) ?_
      exact ih _ _ _ _ _ h hp (lv_sub hl [2, 3, 1, 0] rfl)
set_option maxRecDepth 100000 in
set_option maxHeartbeats 4000000 in
theorem b_X0_shortestWay (C : g_CX xG V p R s m args meth c cX0_shortestWay 7 (some .int) RX0 5 111) {res : Int × g_M} (hR : g_RetI xG V p l e R s m args below meth c Q cX0_shortestWay .int res.1 res.2) {a1 : Int} {a2 : Int} {a3 : Int} {M : g_M} {H : Heap} {locs : List Loc} {ls : Array Slot} (h : m_X0_shortestWay a1 a2 a3 M = some res) (hp : g_PT xG V M s H locs) (hl : lv_has ls 7 [(0, .ref (V.2.2 67)), (1, .int (gI a1)), (2, .int (gI a2)), (3, .int (gI a3))]) : W p l e R s m args below meth c H locs 0 0 Q (F0 m 0 ls []) := by
  unfold m_X0_shortestWay at h
  refine lv_aload_n C.1 C.2.1 dX0_shortestWay_0 rfl (lv_at hl 0 rfl) ?_
  refine lv_iload_n C.1 C.2.1 dX0_shortestWay_1 rfl (lv_at hl 2 rfl) ?_
  obtain ⟨M11, hr, h⟩ := bd_of h
  refine r_callVV (As := [.int (gI a2)]) (rest := []) C hl.1 hp (c_X0_measureTo l C.2.2.2.2.2.2.2.2.2.2.2 hr) gw_1000 gw_1002 gw_28 xk_67 xs_67 xc_0 cal_X0_measureTo rfl rfl (Nat.le_of_ble_eq_true rfl) ⟨Nat.le_of_ble_eq_true rfl, Nat.le_of_ble_eq_true rfl⟩ dX0_shortestWay_2 (fun H locs hp => ?_)
  refine lv_aload_n C.1 C.2.1 dX0_shortestWay_5 rfl (lv_at hl 0 rfl) ?_
  refine r_getr (t := 69) C hp xk_67 xs_67 xc_0 xin_0 (j := 2) (by decide) rfl gw_370 rfl dX0_shortestWay_6 ?_
  refine lv_iload_n C.1 C.2.1 dX0_shortestWay_9 rfl (lv_at hl 1 rfl) ?_
  refine r_iald C hp h xk_69 xs_69 dX0_shortestWay_10 (fun h => ?_)
  refine r_istore (lv' := fun x12 => [(4, .int (gI x12)), (0, .ref (V.2.2 67)), (1, .int (gI a1)), (2, .int (gI a2)), (3, .int (gI a3))]) C h dX0_shortestWay_11 hl (by decide) (fun _ => rfl) (fun x12 ls h hl => ?_)
  refine lv_iload C.1 C.2.1 dX0_shortestWay_13 (lv_at hl 0 rfl) ?_
  refine r_sipush C dX0_shortestWay_15 (by decide +kernel) ?_
  refine r_icmp_ne (tgt := 24) C h dX0_shortestWay_18 (by decide) (fun h => ?_) (fun h => ?_)
  · refine lv_iload_n C.1 C.2.1 dX0_shortestWay_24 rfl (lv_at hl 4 rfl) ?_
    refine r_iconst C dX0_shortestWay_25 ?_
    refine r_icmp_ne (tgt := 32) C h dX0_shortestWay_26 (by decide) (fun h => ?_) (fun h => ?_)
    · refine lv_iload_n C.1 C.2.1 dX0_shortestWay_32 rfl (lv_at hl 4 rfl) ?_
      refine r_iconst C dX0_shortestWay_33 ?_
      refine lv_iload C.1 C.2.1 dX0_shortestWay_34 (lv_at hl 0 rfl) ?_
      refine r_iconst C dX0_shortestWay_36 ?_
      refine r_isub C dX0_shortestWay_37 ?_
      obtain ⟨x13, hr, h⟩ := bd_of h
      refine r_callNI (As := [.int (gI a3), .int (gI 0), .int (gI (x12 - 1))]) (rest := []) C hl.1 hp (c_X8_within l C.2.2.2.2.2.2.2.2.2.2.2 hr) (x_nest C (i := 5) rfl) gw_464 cal_X8_within rfl rfl (Nat.le_of_ble_eq_true rfl) ⟨Nat.le_of_ble_eq_true rfl, Nat.le_of_ble_eq_true rfl⟩ dX0_shortestWay_38 (fun H locs hp => ?_)
      refine r_if_ne (tgt := 47) C h dX0_shortestWay_41 (by decide) (fun h => ?_) (fun h => ?_)
      · refine lv_iload_n C.1 C.2.1 dX0_shortestWay_47 rfl (lv_at hl 2 rfl) ?_
        refine r_istore (lv' := fun x14 => [(5, .int (gI x14)), (4, .int (gI x12)), (0, .ref (V.2.2 67)), (1, .int (gI a1)), (2, .int (gI a2)), (3, .int (gI a3))]) C h dX0_shortestWay_48 hl (by decide) (fun _ => rfl) (fun x14 ls h hl => ?_)
        refine r_iconst C dX0_shortestWay_50 ?_
        refine r_istore (lv' := fun x15 => [(6, .int (gI x15)), (5, .int (gI x14)), (4, .int (gI x12)), (0, .ref (V.2.2 67)), (1, .int (gI a1)), (2, .int (gI a2)), (3, .int (gI a3))]) C h dX0_shortestWay_51 hl (by decide) (fun _ => rfl) (fun x15 ls h hl => ?_)
        refine w_X0_shortestWay_L53 C hR _ _ _ ?_ _ _ _ H locs ls h hp (lv_sub hl [3, 6, 1, 0] rfl)
        · intro x25 H locs ls h hp hl
          refine lv_aload_n C.1 C.2.1 dX0_shortestWay_83 rfl (lv_at hl 0 rfl) ?_
          refine lv_iload C.1 C.2.1 dX0_shortestWay_84 (lv_at hl 1 rfl) ?_
          obtain ⟨x26, hr, h⟩ := bd_of h
          refine r_callVI (As := [.int (gI x25)]) (rest := []) C hl.1 hp (c_X0_nearerCue l C.2.2.2.2.2.2.2.2.2.2.2 hr) gw_1010 gw_1012 gw_30 xk_67 xs_67 xc_0 cal_X0_nearerCue rfl rfl (Nat.le_of_ble_eq_true rfl) ⟨Nat.le_of_ble_eq_true rfl, Nat.le_of_ble_eq_true rfl⟩ dX0_shortestWay_86 (fun H locs hp => ?_)
          cases h
          exact hR _ _ _ _ dX0_shortestWay_89 rfl hp
      · refine r_bipush C dX0_shortestWay_44 (by decide +kernel) ?_
        cases h
        exact hR _ _ _ _ dX0_shortestWay_46 rfl hp
    · refine lv_iload C.1 C.2.1 dX0_shortestWay_29 (lv_at hl 0 rfl) ?_
      cases h
      exact hR _ _ _ _ dX0_shortestWay_31 rfl hp
  · refine r_bipush C dX0_shortestWay_21 (by decide +kernel) ?_
    cases h
    exact hR _ _ _ _ dX0_shortestWay_23 rfl hp
theorem c_X0_shortestWay (l : Launch) {V : g_V} (hok : g_ok xG V) {a1 : Int} {a2 : Int} {a3 : Int} {M : g_M} {x : Int} {M2 : g_M} (h : m_X0_shortestWay a1 a2 a3 M = some (x, M2)) : MetI xG V l yX0_shortestWay cX0_shortestWay 7 (some .int) 5 111 [.ref (V.2.2 67), .int (gI a1), .int (gI a2), .int (gI a3)] M x M2 :=
  g_metI hok cal_X0_shortestWay.2.2.2 rfl (Nat.le_of_ble_eq_true rfl) (@fun p e R s m args below meth c Q ls C hR hp hl => b_X0_shortestWay C hR h hp hl)
set_option maxRecDepth 100000 in
set_option maxHeartbeats 4000000 in
theorem w_X0_comesAgain_L7 (C : g_CX xG V p R s m args meth c cX0_comesAgain 3 (some .boolean) RX0 5 111) {res : Int × g_M} (hR : g_RetI xG V p l e R s m args below meth c Q cX0_comesAgain .boolean res.1 res.2) (x13 : Int) (M15 : g_M)   : ∀ (f : Nat) (x14 : Int) (H : Heap) (locs : List Loc) (ls : Array Slot), m_X0_comesAgain_L7 x13 M15  f x14 = some res → g_PT xG V M15 s H locs → lv_has ls 3 [(0, .ref (V.2.2 67)), (1, .int (gI x13)), (2, .int (gI x14))] → W p l e R s m args below meth c H locs 0 0 Q (F0 m 7 ls []) := by
  intro f
  induction f with
  | zero => intro x14 H locs ls h hp hl; cases h
  | succ f ih =>
    intro x14 H locs ls h hp hl
    rw [m_X0_comesAgain_L7] at h
    refine lv_iload_n C.1 C.2.1 dX0_comesAgain_7 rfl (lv_at hl 2 rfl) ?_
    refine r_iconst C dX0_comesAgain_8 ?_
    refine r_icmp_ge (tgt := 41) C h dX0_comesAgain_9 (by decide) (fun h => ?_) (fun h => ?_)
    · refine r_iconst C dX0_comesAgain_41 ?_
      cases h
      exact hR _ _ _ _ dX0_comesAgain_42 g_nz0 hp
    · refine lv_aload_n C.1 C.2.1 dX0_comesAgain_12 rfl (lv_at hl 0 rfl) ?_
      refine r_getr (t := 69) C hp xk_67 xs_67 xc_0 xin_0 (j := 2) (by decide) rfl gw_370 rfl dX0_comesAgain_13 ?_
      refine lv_aload_n C.1 C.2.1 dX0_comesAgain_16 rfl (lv_at hl 0 rfl) ?_
      refine r_getr (t := 68) C hp xk_67 xs_67 xc_0 xin_0 (j := 1) (by decide) rfl gw_369 rfl dX0_comesAgain_17 ?_
      refine lv_iload_n C.1 C.2.1 dX0_comesAgain_20 rfl (lv_at hl 1 rfl) ?_
      refine r_iconst C dX0_comesAgain_21 ?_
      refine r_imul C dX0_comesAgain_22 ?_
      refine lv_iload_n C.1 C.2.1 dX0_comesAgain_23 rfl (lv_at hl 2 rfl) ?_
      refine r_iadd C dX0_comesAgain_24 ?_
      refine r_iald C hp h xk_68 xs_68 dX0_comesAgain_25 (fun h => ?_)
      refine r_iald C hp h xk_69 xs_69 dX0_comesAgain_26 (fun h => ?_)
      refine r_sipush C dX0_comesAgain_27 (by decide +kernel) ?_
      refine r_icmp_ge (tgt := 35) C h dX0_comesAgain_30 (by decide) (fun h => ?_) (fun h => ?_)
      · refine r_iinc (lv' := fun x16 => [(2, .int (gI x16)), (0, .ref (V.2.2 67)), (1, .int (gI x13))]) C h dX0_comesAgain_35 hl (j := 2) rfl (by decide) (fun _ => rfl) (fun x16 ls h hl => ?_)
        refine r_goto (tgt := 7) C dX0_comesAgain_38 (by decide) ?_
        exact ih _ _ _ _ h hp (lv_sub hl [1, 2, 0] rfl)
      · refine r_iconst C dX0_comesAgain_33 ?_
        cases h
        exact hR _ _ _ _ dX0_comesAgain_34 g_nz1 hp
set_option maxRecDepth 100000 in
set_option maxHeartbeats 4000000 in
theorem b_X0_comesAgain (C : g_CX xG V p R s m args meth c cX0_comesAgain 3 (some .boolean) RX0 5 111) {res : Int × g_M} (hR : g_RetI xG V p l e R s m args below meth c Q cX0_comesAgain .boolean res.1 res.2) {a1 : Int} {M : g_M} {H : Heap} {locs : List Loc} {ls : Array Slot} (h : m_X0_comesAgain a1 M = some res) (hp : g_PT xG V M s H locs) (hl : lv_has ls 3 [(0, .ref (V.2.2 67)), (1, .int (gI a1))]) : W p l e R s m args below meth c H locs 0 0 Q (F0 m 0 ls []) := by
  unfold m_X0_comesAgain at h
  refine lv_aload_n C.1 C.2.1 dX0_comesAgain_0 rfl (lv_at hl 0 rfl) ?_
  refine lv_iload_n C.1 C.2.1 dX0_comesAgain_1 rfl (lv_at hl 1 rfl) ?_
  obtain ⟨M11, hr, h⟩ := bd_of h
  refine r_callVV (As := [.int (gI a1)]) (rest := []) C hl.1 hp (c_X0_measureTo l C.2.2.2.2.2.2.2.2.2.2.2 hr) gw_1000 gw_1002 gw_28 xk_67 xs_67 xc_0 cal_X0_measureTo rfl rfl (Nat.le_of_ble_eq_true rfl) ⟨Nat.le_of_ble_eq_true rfl, Nat.le_of_ble_eq_true rfl⟩ dX0_comesAgain_2 (fun H locs hp => ?_)
  refine r_iconst C dX0_comesAgain_5 ?_
  refine r_istore_n (lv' := fun x12 => [(2, .int (gI x12)), (0, .ref (V.2.2 67)), (1, .int (gI a1))]) C h dX0_comesAgain_6 rfl hl (by decide) (fun _ => rfl) (fun x12 ls h hl => ?_)
  refine w_X0_comesAgain_L7 C hR _ _ _ _ H locs ls h hp (lv_sub hl [1, 2, 0] rfl)
theorem c_X0_comesAgain (l : Launch) {V : g_V} (hok : g_ok xG V) {a1 : Int} {M : g_M} {x : Int} {M2 : g_M} (h : m_X0_comesAgain a1 M = some (x, M2)) : MetI xG V l yX0_comesAgain cX0_comesAgain 3 (some .boolean) 5 111 [.ref (V.2.2 67), .int (gI a1)] M x M2 :=
  g_metI hok cal_X0_comesAgain.2.2.2 rfl (Nat.le_of_ble_eq_true rfl) (@fun p e R s m args below meth c Q ls C hR hp hl => b_X0_comesAgain C hR h hp hl)
set_option maxRecDepth 100000 in
set_option maxHeartbeats 4000000 in
theorem w_X0_deadBits_L10 (C : g_CX xG V p R s m args meth c cX0_deadBits 3 (some .int) RX0 5 111) {res : Int × g_M} (hR : g_RetI xG V p l e R s m args below meth c Q cX0_deadBits .int res.1 res.2)  (M16 : g_M)   : ∀ (f : Nat) (x14 : Int) (x15 : Int) (H : Heap) (locs : List Loc) (ls : Array Slot), m_X0_deadBits_L10 M16  f x14 x15 = some res → g_PT xG V M16 s H locs → lv_has ls 3 [(0, .ref (V.2.2 67)), (1, .int (gI x14)), (2, .int (gI x15))] → W p l e R s m args below meth c H locs 0 0 Q (F0 m 10 ls []) := by
  intro f
  induction f with
  | zero => intro x14 x15 H locs ls h hp hl; cases h
  | succ f ih =>
    intro x14 x15 H locs ls h hp hl
    rw [m_X0_deadBits_L10] at h
    refine lv_iload_n C.1 C.2.1 dX0_deadBits_10 rfl (lv_at hl 2 rfl) ?_
    refine r_bipush C dX0_deadBits_11 (by decide +kernel) ?_
    refine r_icmp_ge (tgt := 40) C h dX0_deadBits_13 (by decide) (fun h => ?_) (fun h => ?_)
    · refine lv_iload_n C.1 C.2.1 dX0_deadBits_40 rfl (lv_at hl 1 rfl) ?_
      cases h
      exact hR _ _ _ _ dX0_deadBits_41 rfl hp
    · refine r_jn (P := fun J => ∀ (x19 : Int) (H : Heap) (locs : List Loc) (ls : Array Slot), J x19 = some res → g_PT xG V M16 s H locs → lv_has ls 3 [(0, .ref (V.2.2 67)), (1, .int (gI x19)), (2, .int (gI x15))] → W p l e R s m args below meth c H locs 0 0 Q (F0 m 34 ls [])) h ?_ (fun J17 hJ17 h => ?_)
      · intro x19 H locs ls h hp hl
        refine r_iinc (lv' := fun x20 => [(2, .int (gI x20)), (0, .ref (V.2.2 67)), (1, .int (gI x19))]) C h dX0_deadBits_34 hl (j := 2) rfl (by decide) (fun _ => rfl) (fun x20 ls h hl => ?_)
        refine r_goto (tgt := 10) C dX0_deadBits_37 (by decide) ?_
        exact ih _ _ _ _ _ h hp (lv_sub hl [1, 2, 0] rfl)
      refine lv_aload_n C.1 C.2.1 dX0_deadBits_16 rfl (lv_at hl 0 rfl) ?_
      refine r_getr (t := 69) C hp xk_67 xs_67 xc_0 xin_0 (j := 2) (by decide) rfl gw_370 rfl dX0_deadBits_17 ?_
      refine lv_iload_n C.1 C.2.1 dX0_deadBits_20 rfl (lv_at hl 2 rfl) ?_
      refine r_iald C hp h xk_69 xs_69 dX0_deadBits_21 (fun h => ?_)
      refine r_sipush C dX0_deadBits_22 (by decide +kernel) ?_
      refine r_icmp_ne (tgt := 34) C h dX0_deadBits_25 (by decide) (fun h => ?_) (fun h => ?_)
      · exact hJ17 _ _ _ _ h hp hl
      · refine lv_iload_n C.1 C.2.1 dX0_deadBits_28 rfl (lv_at hl 1 rfl) ?_
        refine r_iconst C dX0_deadBits_29 ?_
        refine lv_iload_n C.1 C.2.1 dX0_deadBits_30 rfl (lv_at hl 2 rfl) ?_
        refine r_ishl C dX0_deadBits_31 ?_
        refine r_ior C dX0_deadBits_32 ?_
        refine r_istore_n (lv' := fun x18 => [(1, .int (gI x18)), (0, .ref (V.2.2 67)), (2, .int (gI x15))]) C h dX0_deadBits_33 rfl hl (by decide) (fun _ => rfl) (fun x18 ls h hl => ?_)
        exact hJ17 _ _ _ _ h hp (lv_sub hl [1, 0, 2] rfl)
set_option maxRecDepth 100000 in
set_option maxHeartbeats 4000000 in
theorem b_X0_deadBits (C : g_CX xG V p R s m args meth c cX0_deadBits 3 (some .int) RX0 5 111) {res : Int × g_M} (hR : g_RetI xG V p l e R s m args below meth c Q cX0_deadBits .int res.1 res.2)  {M : g_M} {H : Heap} {locs : List Loc} {ls : Array Slot} (h : m_X0_deadBits M = some res) (hp : g_PT xG V M s H locs) (hl : lv_has ls 3 [(0, .ref (V.2.2 67))]) : W p l e R s m args below meth c H locs 0 0 Q (F0 m 0 ls []) := by
  unfold m_X0_deadBits at h
  refine lv_aload_n C.1 C.2.1 dX0_deadBits_0 rfl (lv_at hl 0 rfl) ?_
  refine r_bipush C dX0_deadBits_1 (by decide +kernel) ?_
  obtain ⟨M11, hr, h⟩ := bd_of h
  refine r_callVV (As := [.int (gI 12)]) (rest := []) C hl.1 hp (c_X0_measureTo l C.2.2.2.2.2.2.2.2.2.2.2 hr) gw_1000 gw_1002 gw_28 xk_67 xs_67 xc_0 cal_X0_measureTo rfl rfl (Nat.le_of_ble_eq_true rfl) ⟨Nat.le_of_ble_eq_true rfl, Nat.le_of_ble_eq_true rfl⟩ dX0_deadBits_3 (fun H locs hp => ?_)
  refine r_iconst C dX0_deadBits_6 ?_
  refine r_istore_n (lv' := fun x12 => [(1, .int (gI x12)), (0, .ref (V.2.2 67))]) C h dX0_deadBits_7 rfl hl (by decide) (fun _ => rfl) (fun x12 ls h hl => ?_)
  refine r_iconst C dX0_deadBits_8 ?_
  refine r_istore_n (lv' := fun x13 => [(2, .int (gI x13)), (1, .int (gI x12)), (0, .ref (V.2.2 67))]) C h dX0_deadBits_9 rfl hl (by decide) (fun _ => rfl) (fun x13 ls h hl => ?_)
  refine w_X0_deadBits_L10 C hR _ _ _ _ H locs ls h hp (lv_sub hl [2, 1, 0] rfl)
theorem c_X0_deadBits (l : Launch) {V : g_V} (hok : g_ok xG V)  {M : g_M} {x : Int} {M2 : g_M} (h : m_X0_deadBits M = some (x, M2)) : MetI xG V l yX0_deadBits cX0_deadBits 3 (some .int) 5 111 [.ref (V.2.2 67)] M x M2 :=
  g_metI hok cal_X0_deadBits.2.2.2 rfl (Nat.le_of_ble_eq_true rfl) (@fun p e R s m args below meth c Q ls C hR hp hl => b_X0_deadBits C hR h hp hl)
set_option maxRecDepth 100000 in
set_option maxHeartbeats 4000000 in
theorem w_X0_farthest_L10 (C : g_CX xG V p R s m args meth c cX0_farthest 3 (some .int) RX0 5 111) {res : Int × g_M} (hR : g_RetI xG V p l e R s m args below meth c Q cX0_farthest .int res.1 res.2)  (M16 : g_M)   : ∀ (f : Nat) (x14 : Int) (x15 : Int) (H : Heap) (locs : List Loc) (ls : Array Slot), m_X0_farthest_L10 M16  f x14 x15 = some res → g_PT xG V M16 s H locs → lv_has ls 3 [(0, .ref (V.2.2 67)), (1, .int (gI x14)), (2, .int (gI x15))] → W p l e R s m args below meth c H locs 0 0 Q (F0 m 10 ls []) := by
  intro f
  induction f with
  | zero => intro x14 x15 H locs ls h hp hl; cases h
  | succ f ih =>
    intro x14 x15 H locs ls h hp hl
    rw [m_X0_farthest_L10] at h
    refine lv_iload_n C.1 C.2.1 dX0_farthest_10 rfl (lv_at hl 2 rfl) ?_
    refine r_bipush C dX0_farthest_11 (by decide +kernel) ?_
    refine r_icmp_ge (tgt := 56) C h dX0_farthest_13 (by decide) (fun h => ?_) (fun h => ?_)
    · refine lv_iload_n C.1 C.2.1 dX0_farthest_56 rfl (lv_at hl 1 rfl) ?_
      cases h
      exact hR _ _ _ _ dX0_farthest_57 rfl hp
    · refine r_jn (P := fun J => ∀ (x20 : Int) (H : Heap) (locs : List Loc) (ls : Array Slot), J x20 = some res → g_PT xG V M16 s H locs → lv_has ls 3 [(0, .ref (V.2.2 67)), (1, .int (gI x20)), (2, .int (gI x15))] → W p l e R s m args below meth c H locs 0 0 Q (F0 m 50 ls [])) h ?_ (fun J17 hJ17 h => ?_)
      · intro x20 H locs ls h hp hl
        refine r_iinc (lv' := fun x21 => [(2, .int (gI x21)), (0, .ref (V.2.2 67)), (1, .int (gI x20))]) C h dX0_farthest_50 hl (j := 2) rfl (by decide) (fun _ => rfl) (fun x21 ls h hl => ?_)
        refine r_goto (tgt := 10) C dX0_farthest_53 (by decide) ?_
        exact ih _ _ _ _ _ h hp (lv_sub hl [1, 2, 0] rfl)
      refine lv_aload_n C.1 C.2.1 dX0_farthest_16 rfl (lv_at hl 0 rfl) ?_
      refine r_getr (t := 69) C hp xk_67 xs_67 xc_0 xin_0 (j := 2) (by decide) rfl gw_370 rfl dX0_farthest_17 ?_
      refine lv_iload_n C.1 C.2.1 dX0_farthest_20 rfl (lv_at hl 2 rfl) ?_
      refine r_iald C hp h xk_69 xs_69 dX0_farthest_21 (fun h => ?_)
      refine r_sipush C dX0_farthest_22 (by decide +kernel) ?_
      refine r_icmp_ge (tgt := 50) C h dX0_farthest_25 (by decide) (fun h => ?_) (fun h => ?_)
      · exact hJ17 _ _ _ _ h hp hl
      · refine r_jn (P := fun J => ∀  (H : Heap) (locs : List Loc) (ls : Array Slot), J  = some res → g_PT xG V M16 s H locs → lv_has ls 3 [(0, .ref (V.2.2 67)), (2, .int (gI x15))] → W p l e R s m args below meth c H locs 0 0 Q (F0 m 48 ls [])) h ?_ (fun J18 hJ18 h => ?_)
        · intro  H locs ls h hp hl
          refine lv_iload_n C.1 C.2.1 dX0_farthest_48 rfl (lv_at hl 1 rfl) ?_
          refine r_istore_n (lv' := fun x19 => [(1, .int (gI x19)), (0, .ref (V.2.2 67)), (2, .int (gI x15))]) C h dX0_farthest_49 rfl hl (by decide) (fun _ => rfl) (fun x19 ls h hl => ?_)
          exact hJ17 _ _ _ _ h hp (lv_sub hl [1, 0, 2] rfl)
        refine lv_iload_n C.1 C.2.1 dX0_farthest_28 rfl (lv_at hl 1 rfl) ?_
        refine r_iconst C dX0_farthest_29 ?_
        refine r_icmp_eq (tgt := 48) C h dX0_farthest_30 (by decide) (fun h => ?_) (fun h => ?_)
        · exact hJ18  _ _ _ h hp (lv_sub hl [0, 2] rfl)
        · refine lv_aload_n C.1 C.2.1 dX0_farthest_33 rfl (lv_at hl 0 rfl) ?_
          refine r_getr (t := 69) C hp xk_67 xs_67 xc_0 xin_0 (j := 2) (by decide) rfl gw_370 rfl dX0_farthest_34 ?_
          refine lv_iload_n C.1 C.2.1 dX0_farthest_37 rfl (lv_at hl 2 rfl) ?_
          refine r_iald C hp h xk_69 xs_69 dX0_farthest_38 (fun h => ?_)
          refine lv_aload_n C.1 C.2.1 dX0_farthest_39 rfl (lv_at hl 0 rfl) ?_
          refine r_getr (t := 69) C hp xk_67 xs_67 xc_0 xin_0 (j := 2) (by decide) rfl gw_370 rfl dX0_farthest_40 ?_
          refine lv_iload_n C.1 C.2.1 dX0_farthest_43 rfl (lv_at hl 1 rfl) ?_
          refine r_iald C hp h xk_69 xs_69 dX0_farthest_44 (fun h => ?_)
          refine r_icmp_le (tgt := 50) C h dX0_farthest_45 (by decide) (fun h => ?_) (fun h => ?_)
          · exact hJ17 _ _ _ _ h hp hl
          · exact hJ18  _ _ _ h hp (lv_sub hl [0, 2] rfl)
set_option maxRecDepth 100000 in
set_option maxHeartbeats 4000000 in
theorem b_X0_farthest (C : g_CX xG V p R s m args meth c cX0_farthest 3 (some .int) RX0 5 111) {res : Int × g_M} (hR : g_RetI xG V p l e R s m args below meth c Q cX0_farthest .int res.1 res.2)  {M : g_M} {H : Heap} {locs : List Loc} {ls : Array Slot} (h : m_X0_farthest M = some res) (hp : g_PT xG V M s H locs) (hl : lv_has ls 3 [(0, .ref (V.2.2 67))]) : W p l e R s m args below meth c H locs 0 0 Q (F0 m 0 ls []) := by
  unfold m_X0_farthest at h
  refine lv_aload_n C.1 C.2.1 dX0_farthest_0 rfl (lv_at hl 0 rfl) ?_
  refine r_bipush C dX0_farthest_1 (by decide +kernel) ?_
  obtain ⟨M11, hr, h⟩ := bd_of h
  refine r_callVV (As := [.int (gI 12)]) (rest := []) C hl.1 hp (c_X0_measureTo l C.2.2.2.2.2.2.2.2.2.2.2 hr) gw_1000 gw_1002 gw_28 xk_67 xs_67 xc_0 cal_X0_measureTo rfl rfl (Nat.le_of_ble_eq_true rfl) ⟨Nat.le_of_ble_eq_true rfl, Nat.le_of_ble_eq_true rfl⟩ dX0_farthest_3 (fun H locs hp => ?_)
  refine r_iconst C dX0_farthest_6 ?_
  refine r_istore_n (lv' := fun x12 => [(1, .int (gI x12)), (0, .ref (V.2.2 67))]) C h dX0_farthest_7 rfl hl (by decide) (fun _ => rfl) (fun x12 ls h hl => ?_)
  refine r_iconst C dX0_farthest_8 ?_
  refine r_istore_n (lv' := fun x13 => [(2, .int (gI x13)), (1, .int (gI x12)), (0, .ref (V.2.2 67))]) C h dX0_farthest_9 rfl hl (by decide) (fun _ => rfl) (fun x13 ls h hl => ?_)
  refine w_X0_farthest_L10 C hR _ _ _ _ H locs ls h hp (lv_sub hl [2, 1, 0] rfl)
theorem c_X0_farthest (l : Launch) {V : g_V} (hok : g_ok xG V)  {M : g_M} {x : Int} {M2 : g_M} (h : m_X0_farthest M = some (x, M2)) : MetI xG V l yX0_farthest cX0_farthest 3 (some .int) 5 111 [.ref (V.2.2 67)] M x M2 :=
  g_metI hok cal_X0_farthest.2.2.2 rfl (Nat.le_of_ble_eq_true rfl) (@fun p e R s m args below meth c Q ls C hR hp hl => b_X0_farthest C hR h hp hl)
set_option maxRecDepth 100000 in
set_option maxHeartbeats 4000000 in
theorem w_X0_replyOf_L22 (C : g_CX xG V p R s m args meth c cX0_replyOf 8 (some .int) RX0 0 0) {res : Int} {M17 : g_M} (hR : g_RetI xG V p l e R s m args below meth c Q cX0_replyOf .int res M17) (x13 : Int) (x14 : Int)   : ∀ (f : Nat) (x15 : Int) (x16 : Int) (H : Heap) (locs : List Loc) (ls : Array Slot), m_X0_replyOf_L22 x13 x14 M17  f x15 x16 = some res → g_PT xG V M17 s H locs → lv_has ls 8 [(0, .ref (V.2.2 67)), (1, .int (gI x13)), (2, .int (gI x14)), (3, .ref (V.2.2 70)), (4, .int (gI x15)), (5, .int (gI x16))] → W p l e R s m args below meth c H locs 0 0 Q (F0 m 22 ls []) := by
  intro f
  induction f with
  | zero => intro x15 x16 H locs ls h hp hl; cases h
  | succ f ih =>
    intro x15 x16 H locs ls h hp hl
    rw [m_X0_replyOf_L22] at h
    refine lv_iload C.1 C.2.1 dX0_replyOf_22 (lv_at hl 5 rfl) ?_
    refine r_iconst C dX0_replyOf_24 ?_
    refine r_icmp_ge (tgt := 89) C h dX0_replyOf_25 (by decide) (fun h => ?_) (fun h => ?_)
    · refine lv_iload C.1 C.2.1 dX0_replyOf_89 (lv_at hl 4 rfl) ?_
      cases h
      exact hR _ _ _ _ dX0_replyOf_91 rfl hp
    · refine r_jn (P := fun J => ∀ (x22 : Int) (H : Heap) (locs : List Loc) (ls : Array Slot), J x22 = some res → g_PT xG V M17 s H locs → lv_has ls 8 [(0, .ref (V.2.2 67)), (1, .int (gI x13)), (2, .int (gI x14)), (3, .ref (V.2.2 70)), (4, .int (gI x22)), (5, .int (gI x16))] → W p l e R s m args below meth c H locs 0 0 Q (F0 m 83 ls [])) h ?_ (fun J19 hJ19 h => ?_)
      · intro x22 H locs ls h hp hl
        refine r_iinc (lv' := fun x24 => [(5, .int (gI x24)), (0, .ref (V.2.2 67)), (1, .int (gI x13)), (2, .int (gI x14)), (3, .ref (V.2.2 70)), (4, .int (gI x22))]) C h dX0_replyOf_83 hl (j := 5) rfl (by decide) (fun _ => rfl) (fun x24 ls h hl => ?_)
        refine r_goto (tgt := 22) C dX0_replyOf_86 (by decide) ?_
        exact ih _ _ _ _ _ h hp (lv_sub hl [1, 2, 3, 4, 5, 0] rfl)
      refine r_jn (P := fun J => ∀  (H : Heap) (locs : List Loc) (ls : Array Slot), J  = some res → g_PT xG V M17 s H locs → lv_has ls 8 [(0, .ref (V.2.2 67)), (1, .int (gI x13)), (2, .int (gI x14)), (3, .ref (V.2.2 70)), (5, .int (gI x16))] → W p l e R s m args below meth c H locs 0 0 Q (F0 m 79 ls [])) h ?_ (fun J18 hJ18 h => ?_)
      · intro  H locs ls h hp hl
        refine lv_iload C.1 C.2.1 dX0_replyOf_79 (lv_at hl 4 rfl) ?_
        refine r_istore (lv' := fun x23 => [(4, .int (gI x23)), (0, .ref (V.2.2 67)), (1, .int (gI x13)), (2, .int (gI x14)), (3, .ref (V.2.2 70)), (5, .int (gI x16))]) C h dX0_replyOf_81 hl (by decide) (fun _ => rfl) (fun x23 ls h hl => ?_)
        exact hJ19 _ _ _ _ h hp (lv_sub hl [1, 2, 3, 4, 0, 5] rfl)
      refine lv_aload_n C.1 C.2.1 dX0_replyOf_28 rfl (lv_at hl 3 rfl) ?_
      refine lv_aload_n C.1 C.2.1 dX0_replyOf_29 rfl (lv_at hl 0 rfl) ?_
      refine r_getr (t := 68) C hp xk_67 xs_67 xc_0 xin_0 (j := 1) (by decide) rfl gw_369 rfl dX0_replyOf_30 ?_
      refine lv_iload_n C.1 C.2.1 dX0_replyOf_33 rfl (lv_at hl 1 rfl) ?_
      refine r_iconst C dX0_replyOf_34 ?_
      refine r_imul C dX0_replyOf_35 ?_
      refine lv_iload C.1 C.2.1 dX0_replyOf_36 (lv_at hl 4 rfl) ?_
      refine r_iadd C dX0_replyOf_38 ?_
      refine r_iald C hp h xk_68 xs_68 dX0_replyOf_39 (fun h => ?_)
      refine r_iald C hp h xk_70 xs_70 dX0_replyOf_40 (fun h => ?_)
      refine r_istore (lv' := fun x20 => [(6, .int (gI x20)), (0, .ref (V.2.2 67)), (1, .int (gI x13)), (2, .int (gI x14)), (3, .ref (V.2.2 70)), (4, .int (gI x15)), (5, .int (gI x16))]) C h dX0_replyOf_41 hl (by decide) (fun _ => rfl) (fun x20 ls h hl => ?_)
      refine lv_aload_n C.1 C.2.1 dX0_replyOf_43 rfl (lv_at hl 4 rfl) ?_
      refine lv_aload_n C.1 C.2.1 dX0_replyOf_44 rfl (lv_at hl 1 rfl) ?_
      refine r_getr (t := 68) C hp xk_67 xs_67 xc_0 xin_0 (j := 1) (by decide) rfl gw_369 rfl dX0_replyOf_45 ?_
      refine lv_iload_n C.1 C.2.1 dX0_replyOf_48 rfl (lv_at hl 2 rfl) ?_
      refine r_iconst C dX0_replyOf_49 ?_
      refine r_imul C dX0_replyOf_50 ?_
      refine lv_iload C.1 C.2.1 dX0_replyOf_51 (lv_at hl 6 rfl) ?_
      refine r_iadd C dX0_replyOf_53 ?_
      refine r_iald C hp h xk_68 xs_68 dX0_replyOf_54 (fun h => ?_)
      refine r_iald C hp h xk_70 xs_70 dX0_replyOf_55 (fun h => ?_)
      refine r_istore (lv' := fun x21 => [(7, .int (gI x21)), (6, .int (gI x20)), (0, .ref (V.2.2 67)), (1, .int (gI x13)), (2, .int (gI x14)), (3, .ref (V.2.2 70)), (4, .int (gI x15)), (5, .int (gI x16))]) C h dX0_replyOf_56 hl (by decide) (fun _ => rfl) (fun x21 ls h hl => ?_)
      refine lv_iload_n C.1 C.2.1 dX0_replyOf_58 rfl (lv_at hl 4 rfl) ?_
      refine r_if_eq (tgt := 72) C h dX0_replyOf_59 (by decide) (fun h => ?_) (fun h => ?_)
      · refine lv_iload C.1 C.2.1 dX0_replyOf_72 (lv_at hl 0 rfl) ?_
        refine lv_iload C.1 C.2.1 dX0_replyOf_74 (lv_at hl 1 rfl) ?_
        refine r_icmp_le (tgt := 83) C h dX0_replyOf_76 (by decide) (fun h => ?_) (fun h => ?_)
        · exact hJ19 _ _ _ _ h hp (lv_sub hl [2, 3, 4, 5, 6, 7] rfl)
        · exact hJ18  _ _ _ h hp (lv_sub hl [2, 3, 4, 5, 7] rfl)
      · refine lv_iload C.1 C.2.1 dX0_replyOf_62 (lv_at hl 0 rfl) ?_
        refine lv_iload C.1 C.2.1 dX0_replyOf_64 (lv_at hl 1 rfl) ?_
        refine r_icmp_ge (tgt := 83) C h dX0_replyOf_66 (by decide) (fun h => ?_) (fun h => ?_)
        · exact hJ19 _ _ _ _ h hp (lv_sub hl [2, 3, 4, 5, 6, 7] rfl)
        · refine r_goto (tgt := 79) C dX0_replyOf_69 (by decide) ?_
          exact hJ18  _ _ _ h hp (lv_sub hl [2, 3, 4, 5, 7] rfl)
set_option maxRecDepth 100000 in
set_option maxHeartbeats 4000000 in
theorem w_X0_replyOf_L22b (C : g_CX xG V p R s m args meth c cX0_replyOf 8 (some .int) RX0 0 0) {res : Int} {M31 : g_M} (hR : g_RetI xG V p l e R s m args below meth c Q cX0_replyOf .int res M31) (x27 : Int) (x28 : Int)   : ∀ (f : Nat) (x29 : Int) (x30 : Int) (H : Heap) (locs : List Loc) (ls : Array Slot), m_X0_replyOf_L22b x27 x28 M31  f x29 x30 = some res → g_PT xG V M31 s H locs → lv_has ls 8 [(0, .ref (V.2.2 67)), (1, .int (gI x27)), (2, .int (gI x28)), (3, .ref (V.2.2 71)), (4, .int (gI x29)), (5, .int (gI x30))] → W p l e R s m args below meth c H locs 0 0 Q (F0 m 22 ls []) := by
  intro f
  induction f with
  | zero => intro x29 x30 H locs ls h hp hl; cases h
  | succ f ih =>
    intro x29 x30 H locs ls h hp hl
    rw [m_X0_replyOf_L22b] at h
    refine lv_iload C.1 C.2.1 dX0_replyOf_22 (lv_at hl 5 rfl) ?_
    refine r_iconst C dX0_replyOf_24 ?_
    refine r_icmp_ge (tgt := 89) C h dX0_replyOf_25 (by decide) (fun h => ?_) (fun h => ?_)
    · refine lv_iload C.1 C.2.1 dX0_replyOf_89 (lv_at hl 4 rfl) ?_
      cases h
      exact hR _ _ _ _ dX0_replyOf_91 rfl hp
    · refine r_jn (P := fun J => ∀ (x36 : Int) (H : Heap) (locs : List Loc) (ls : Array Slot), J x36 = some res → g_PT xG V M31 s H locs → lv_has ls 8 [(0, .ref (V.2.2 67)), (1, .int (gI x27)), (2, .int (gI x28)), (3, .ref (V.2.2 71)), (4, .int (gI x36)), (5, .int (gI x30))] → W p l e R s m args below meth c H locs 0 0 Q (F0 m 83 ls [])) h ?_ (fun J33 hJ33 h => ?_)
      · intro x36 H locs ls h hp hl
        refine r_iinc (lv' := fun x38 => [(5, .int (gI x38)), (0, .ref (V.2.2 67)), (1, .int (gI x27)), (2, .int (gI x28)), (3, .ref (V.2.2 71)), (4, .int (gI x36))]) C h dX0_replyOf_83 hl (j := 5) rfl (by decide) (fun _ => rfl) (fun x38 ls h hl => ?_)
        refine r_goto (tgt := 22) C dX0_replyOf_86 (by decide) ?_
        exact ih _ _ _ _ _ h hp (lv_sub hl [1, 2, 3, 4, 5, 0] rfl)
      refine r_jn (P := fun J => ∀  (H : Heap) (locs : List Loc) (ls : Array Slot), J  = some res → g_PT xG V M31 s H locs → lv_has ls 8 [(0, .ref (V.2.2 67)), (1, .int (gI x27)), (2, .int (gI x28)), (3, .ref (V.2.2 71)), (5, .int (gI x30))] → W p l e R s m args below meth c H locs 0 0 Q (F0 m 79 ls [])) h ?_ (fun J32 hJ32 h => ?_)
      · intro  H locs ls h hp hl
        refine lv_iload C.1 C.2.1 dX0_replyOf_79 (lv_at hl 4 rfl) ?_
        refine r_istore (lv' := fun x37 => [(4, .int (gI x37)), (0, .ref (V.2.2 67)), (1, .int (gI x27)), (2, .int (gI x28)), (3, .ref (V.2.2 71)), (5, .int (gI x30))]) C h dX0_replyOf_81 hl (by decide) (fun _ => rfl) (fun x37 ls h hl => ?_)
        exact hJ33 _ _ _ _ h hp (lv_sub hl [1, 2, 3, 4, 0, 5] rfl)
      refine lv_aload_n C.1 C.2.1 dX0_replyOf_28 rfl (lv_at hl 3 rfl) ?_
      refine lv_aload_n C.1 C.2.1 dX0_replyOf_29 rfl (lv_at hl 0 rfl) ?_
      refine r_getr (t := 68) C hp xk_67 xs_67 xc_0 xin_0 (j := 1) (by decide) rfl gw_369 rfl dX0_replyOf_30 ?_
      refine lv_iload_n C.1 C.2.1 dX0_replyOf_33 rfl (lv_at hl 1 rfl) ?_
      refine r_iconst C dX0_replyOf_34 ?_
      refine r_imul C dX0_replyOf_35 ?_
      refine lv_iload C.1 C.2.1 dX0_replyOf_36 (lv_at hl 4 rfl) ?_
      refine r_iadd C dX0_replyOf_38 ?_
      refine r_iald C hp h xk_68 xs_68 dX0_replyOf_39 (fun h => ?_)
      refine r_iald C hp h xk_71 xs_71 dX0_replyOf_40 (fun h => ?_)
      refine r_istore (lv' := fun x34 => [(6, .int (gI x34)), (0, .ref (V.2.2 67)), (1, .int (gI x27)), (2, .int (gI x28)), (3, .ref (V.2.2 71)), (4, .int (gI x29)), (5, .int (gI x30))]) C h dX0_replyOf_41 hl (by decide) (fun _ => rfl) (fun x34 ls h hl => ?_)
      refine lv_aload_n C.1 C.2.1 dX0_replyOf_43 rfl (lv_at hl 4 rfl) ?_
      refine lv_aload_n C.1 C.2.1 dX0_replyOf_44 rfl (lv_at hl 1 rfl) ?_
      refine r_getr (t := 68) C hp xk_67 xs_67 xc_0 xin_0 (j := 1) (by decide) rfl gw_369 rfl dX0_replyOf_45 ?_
      refine lv_iload_n C.1 C.2.1 dX0_replyOf_48 rfl (lv_at hl 2 rfl) ?_
      refine r_iconst C dX0_replyOf_49 ?_
      refine r_imul C dX0_replyOf_50 ?_
      refine lv_iload C.1 C.2.1 dX0_replyOf_51 (lv_at hl 6 rfl) ?_
      refine r_iadd C dX0_replyOf_53 ?_
      refine r_iald C hp h xk_68 xs_68 dX0_replyOf_54 (fun h => ?_)
      refine r_iald C hp h xk_71 xs_71 dX0_replyOf_55 (fun h => ?_)
      refine r_istore (lv' := fun x35 => [(7, .int (gI x35)), (6, .int (gI x34)), (0, .ref (V.2.2 67)), (1, .int (gI x27)), (2, .int (gI x28)), (3, .ref (V.2.2 71)), (4, .int (gI x29)), (5, .int (gI x30))]) C h dX0_replyOf_56 hl (by decide) (fun _ => rfl) (fun x35 ls h hl => ?_)
      refine lv_iload_n C.1 C.2.1 dX0_replyOf_58 rfl (lv_at hl 4 rfl) ?_
      refine r_if_eq (tgt := 72) C h dX0_replyOf_59 (by decide) (fun h => ?_) (fun h => ?_)
      · refine lv_iload C.1 C.2.1 dX0_replyOf_72 (lv_at hl 0 rfl) ?_
        refine lv_iload C.1 C.2.1 dX0_replyOf_74 (lv_at hl 1 rfl) ?_
        refine r_icmp_le (tgt := 83) C h dX0_replyOf_76 (by decide) (fun h => ?_) (fun h => ?_)
        · exact hJ33 _ _ _ _ h hp (lv_sub hl [2, 3, 4, 5, 6, 7] rfl)
        · exact hJ32  _ _ _ h hp (lv_sub hl [2, 3, 4, 5, 7] rfl)
      · refine lv_iload C.1 C.2.1 dX0_replyOf_62 (lv_at hl 0 rfl) ?_
        refine lv_iload C.1 C.2.1 dX0_replyOf_64 (lv_at hl 1 rfl) ?_
        refine r_icmp_ge (tgt := 83) C h dX0_replyOf_66 (by decide) (fun h => ?_) (fun h => ?_)
        · exact hJ33 _ _ _ _ h hp (lv_sub hl [2, 3, 4, 5, 6, 7] rfl)
        · refine r_goto (tgt := 79) C dX0_replyOf_69 (by decide) ?_
          exact hJ32  _ _ _ h hp (lv_sub hl [2, 3, 4, 5, 7] rfl)
set_option maxRecDepth 100000 in
set_option maxHeartbeats 4000000 in
theorem b_X0_replyOf (C : g_CX xG V p R s m args meth c cX0_replyOf 8 (some .int) RX0 0 0) {res : Int} {M : g_M} (hR : g_RetI xG V p l e R s m args below meth c Q cX0_replyOf .int res M) {a1 : Int} {a2 : Int} {H : Heap} {locs : List Loc} {ls : Array Slot} (h : m_X0_replyOf a1 a2 M = some res) (hp : g_PT xG V M s H locs) (hl : lv_has ls 8 [(0, .ref (V.2.2 67)), (1, .int (gI a1)), (2, .int (gI a2))]) : W p l e R s m args below meth c H locs 0 0 Q (F0 m 0 ls []) := by
  unfold m_X0_replyOf at h
  refine lv_iload_n C.1 C.2.1 dX0_replyOf_0 rfl (lv_at hl 2 rfl) ?_
  refine r_if_eq (tgt := 11) C h dX0_replyOf_1 (by decide) (fun h => ?_) (fun h => ?_)
  · refine lv_aload_n C.1 C.2.1 dX0_replyOf_11 rfl (lv_at hl 0 rfl) ?_
    refine r_getr (t := 70) C hp xk_67 xs_67 xc_0 xin_0 (j := 3) (by decide) rfl gw_371 rfl dX0_replyOf_12 ?_
    refine lv_astore_n (lv' := [(3, .ref (V.2.2 70)), (0, .ref (V.2.2 67)), (1, .int (gI a1)), (2, .int (gI a2))]) C.1 C.2.1 dX0_replyOf_15 rfl hl (by decide) rfl (fun ls hl => ?_)
    refine r_iconst C dX0_replyOf_16 ?_
    refine r_istore (lv' := fun x11 => [(4, .int (gI x11)), (3, .ref (V.2.2 70)), (0, .ref (V.2.2 67)), (1, .int (gI a1)), (2, .int (gI a2))]) C h dX0_replyOf_17 hl (by decide) (fun _ => rfl) (fun x11 ls h hl => ?_)
    refine r_iconst C dX0_replyOf_19 ?_
    refine r_istore (lv' := fun x12 => [(5, .int (gI x12)), (4, .int (gI x11)), (3, .ref (V.2.2 70)), (0, .ref (V.2.2 67)), (1, .int (gI a1)), (2, .int (gI a2))]) C h dX0_replyOf_20 hl (by decide) (fun _ => rfl) (fun x12 ls h hl => ?_)
    refine w_X0_replyOf_L22 C hR _ _ _ _ _ H locs ls h hp (lv_sub hl [3, 4, 5, 2, 1, 0] rfl)
  · refine lv_aload_n C.1 C.2.1 dX0_replyOf_4 rfl (lv_at hl 0 rfl) ?_
    refine r_getr (t := 71) C hp xk_67 xs_67 xc_0 xin_0 (j := 4) (by decide) rfl gw_372 rfl dX0_replyOf_5 ?_
    refine r_goto (tgt := 15) C dX0_replyOf_8 (by decide) ?_
    refine lv_astore_n (lv' := [(3, .ref (V.2.2 71)), (0, .ref (V.2.2 67)), (1, .int (gI a1)), (2, .int (gI a2))]) C.1 C.2.1 dX0_replyOf_15 rfl hl (by decide) rfl (fun ls hl => ?_)
    refine r_iconst C dX0_replyOf_16 ?_
    refine r_istore (lv' := fun x25 => [(4, .int (gI x25)), (3, .ref (V.2.2 71)), (0, .ref (V.2.2 67)), (1, .int (gI a1)), (2, .int (gI a2))]) C h dX0_replyOf_17 hl (by decide) (fun _ => rfl) (fun x25 ls h hl => ?_)
    refine r_iconst C dX0_replyOf_19 ?_
    refine r_istore (lv' := fun x26 => [(5, .int (gI x26)), (4, .int (gI x25)), (3, .ref (V.2.2 71)), (0, .ref (V.2.2 67)), (1, .int (gI a1)), (2, .int (gI a2))]) C h dX0_replyOf_20 hl (by decide) (fun _ => rfl) (fun x26 ls h hl => ?_)
    refine w_X0_replyOf_L22b C hR _ _ _ _ _ H locs ls h hp (lv_sub hl [3, 4, 5, 2, 1, 0] rfl)
theorem c_X0_replyOf (l : Launch) {V : g_V} (hok : g_ok xG V) {a1 : Int} {a2 : Int} {M : g_M} {x : Int} (h : m_X0_replyOf a1 a2 M = some x) : MetI xG V l yX0_replyOf cX0_replyOf 8 (some .int) 0 0 [.ref (V.2.2 67), .int (gI a1), .int (gI a2)] M x M :=
  g_metI hok cal_X0_replyOf.2.2.2 rfl (Nat.le_of_ble_eq_true rfl) (@fun p e R s m args below meth c Q ls C hR hp hl => b_X0_replyOf C hR h hp hl)
set_option maxRecDepth 100000 in
set_option maxHeartbeats 4000000 in
theorem w_X0_playOut_L6 (C : g_CX xG V p R s m args meth c cX0_playOut 6 none RX0 4 86) {res : g_M} (hR : g_RetV xG V p l e R s m args below meth c Q cX0_playOut res)  (k15 : g_M → Option (g_M)) (hk15 : ∀ (M22 : g_M) (H : Heap) (locs : List Loc) (ls : Array Slot), k15 M22 = some res → g_PT xG V M22 s H locs → lv_has ls 6 [(0, .ref (V.2.2 67))] → W p l e R s m args below meth c H locs 0 0 Q (F0 m 49 ls [])) : ∀ (f : Nat) (x13 : Int) (M14 : g_M) (H : Heap) (locs : List Loc) (ls : Array Slot), m_X0_playOut_L6 k15 f x13 M14 = some res → g_PT xG V M14 s H locs → lv_has ls 6 [(0, .ref (V.2.2 67)), (1, .int (gI x13))] → W p l e R s m args below meth c H locs 0 0 Q (F0 m 6 ls []) := by
  intro f
  induction f with
  | zero => intro x13 M14 H locs ls h hp hl; cases h
  | succ f ih =>
    intro x13 M14 H locs ls h hp hl
    rw [m_X0_playOut_L6] at h
    refine lv_iload_n C.1 C.2.1 dX0_playOut_6 rfl (lv_at hl 1 rfl) ?_
    refine r_bipush C dX0_playOut_7 (by decide +kernel) ?_
    refine r_icmp_ge (tgt := 49) C h dX0_playOut_9 (by decide) (fun h => ?_) (fun h => ?_)
    · exact hk15 _ _ _ _ h hp (lv_sub hl [0] rfl)
    · refine r_jn (P := fun J => ∀ (x17 : Int) (x18 : Int) (H : Heap) (locs : List Loc) (ls : Array Slot), J x17 x18 = some res → g_PT xG V M14 s H locs → lv_has ls 6 [(0, .ref (V.2.2 67)), (1, .int (gI x13))] → W p l e R s m args below meth c H locs 0 0 Q (F0 m 30 ls [.int (gI x17), .int (gI x18), .ref (V.2.2 70)])) h ?_ (fun J16 hJ16 h => ?_)
      · intro x17 x18 H locs ls h hp hl
        refine r_iast C hp h xk_70 xs_70 dX0_playOut_30 (fun M19 H locs h hp => ?_)
        refine lv_aload_n C.1 C.2.1 dX0_playOut_31 rfl (lv_at hl 0 rfl) ?_
        refine r_getr (t := 71) C hp xk_67 xs_67 xc_0 xin_0 (j := 4) (by decide) rfl gw_372 rfl dX0_playOut_32 ?_
        refine lv_iload_n C.1 C.2.1 dX0_playOut_35 rfl (lv_at hl 1 rfl) ?_
        refine lv_aload_n C.1 C.2.1 dX0_playOut_36 rfl (lv_at hl 0 rfl) ?_
        refine r_getr (t := 70) C hp xk_67 xs_67 xc_0 xin_0 (j := 3) (by decide) rfl gw_371 rfl dX0_playOut_37 ?_
        refine lv_iload_n C.1 C.2.1 dX0_playOut_40 rfl (lv_at hl 1 rfl) ?_
        refine r_iald C hp h xk_70 xs_70 dX0_playOut_41 (fun h => ?_)
        refine r_iast C hp h xk_71 xs_71 dX0_playOut_42 (fun M20 H locs h hp => ?_)
        refine r_iinc (lv' := fun x21 => [(1, .int (gI x21)), (0, .ref (V.2.2 67))]) C h dX0_playOut_43 hl (j := 1) rfl (by decide) (fun _ => rfl) (fun x21 ls h hl => ?_)
        refine r_goto (tgt := 6) C dX0_playOut_46 (by decide) ?_
        exact ih _ _ _ _ _ h hp (lv_sub hl [1, 0] rfl)
      refine lv_aload_n C.1 C.2.1 dX0_playOut_12 rfl (lv_at hl 0 rfl) ?_
      refine r_getr (t := 70) C hp xk_67 xs_67 xc_0 xin_0 (j := 3) (by decide) rfl gw_371 rfl dX0_playOut_13 ?_
      refine lv_iload_n C.1 C.2.1 dX0_playOut_16 rfl (lv_at hl 1 rfl) ?_
      refine lv_iload_n C.1 C.2.1 dX0_playOut_17 rfl (lv_at hl 1 rfl) ?_
      refine r_bipush C dX0_playOut_18 (by decide +kernel) ?_
      refine r_icmp_ne (tgt := 27) C h dX0_playOut_20 (by decide) (fun h => ?_) (fun h => ?_)
      · refine r_sipush C dX0_playOut_27 (by decide +kernel) ?_
        exact hJ16 _ _ _ _ _ h hp hl
      · refine r_iconst C dX0_playOut_23 ?_
        refine r_goto (tgt := 30) C dX0_playOut_24 (by decide) ?_
        exact hJ16 _ _ _ _ _ h hp hl
set_option maxRecDepth 100000 in
set_option maxHeartbeats 4000000 in
theorem w_X0_playOut_L67 (C : g_CX xG V p R s m args meth c cX0_playOut 6 none RX0 4 86) {res : g_M} (hR : g_RetV xG V p l e R s m args below meth c Q cX0_playOut res) (x32 : Int) (k35 : Int → g_M → Option (g_M)) (hk35 : ∀ (x51 : Int) (M52 : g_M) (H : Heap) (locs : List Loc) (ls : Array Slot), k35 x51 M52 = some res → g_PT xG V M52 s H locs → lv_has ls 6 [(0, .ref (V.2.2 67)), (1, .int (gI x51)), (2, .int (gI x32))] → W p l e R s m args below meth c H locs 0 0 Q (F0 m 187 ls [])) : ∀ (f : Nat) (x31 : Int) (x33 : Int) (M34 : g_M) (H : Heap) (locs : List Loc) (ls : Array Slot), m_X0_playOut_L67 x32 k35 f x31 x33 M34 = some res → g_PT xG V M34 s H locs → lv_has ls 6 [(0, .ref (V.2.2 67)), (1, .int (gI x31)), (2, .int (gI x32)), (3, .int (gI x33))] → W p l e R s m args below meth c H locs 0 0 Q (F0 m 67 ls []) := by
  intro f
  induction f with
  | zero => intro x31 x33 M34 H locs ls h hp hl; cases h
  | succ f ih =>
    intro x31 x33 M34 H locs ls h hp hl
    rw [m_X0_playOut_L67] at h
    refine lv_iload_n C.1 C.2.1 dX0_playOut_67 rfl (lv_at hl 3 rfl) ?_
    refine r_bipush C dX0_playOut_68 (by decide +kernel) ?_
    refine r_icmp_ge (tgt := 187) C h dX0_playOut_70 (by decide) (fun h => ?_) (fun h => ?_)
    · exact hk35 _ _ _ _ _ h hp (lv_sub hl [0, 1, 2] rfl)
    · refine r_jn (P := fun J => ∀ (x44 : Int) (x45 : Int) (x46 : Int) (H : Heap) (locs : List Loc) (ls : Array Slot), J x44 x45 x46 = some res → g_PT xG V M34 s H locs → lv_has ls 6 [(0, .ref (V.2.2 67)), (2, .int (gI x32)), (3, .int (gI x33)), (4, .int (gI x44)), (5, .int (gI x45))] → W p l e R s m args below meth c H locs 0 0 Q (F0 m 164 ls [.int (gI x46)])) h ?_ (fun J37 hJ37 h => ?_)
      · intro x44 x45 x46 H locs ls h hp hl
        refine r_istore_n (lv' := fun x47 => [(1, .int (gI x47)), (0, .ref (V.2.2 67)), (2, .int (gI x32)), (3, .int (gI x33)), (4, .int (gI x44)), (5, .int (gI x45))]) C h dX0_playOut_164 rfl hl (by decide) (fun _ => rfl) (fun x47 ls h hl => ?_)
        refine lv_aload_n C.1 C.2.1 dX0_playOut_165 rfl (lv_at hl 1 rfl) ?_
        refine r_getr (t := 70) C hp xk_67 xs_67 xc_0 xin_0 (j := 3) (by decide) rfl gw_371 rfl dX0_playOut_166 ?_
        refine lv_iload_n C.1 C.2.1 dX0_playOut_169 rfl (lv_at hl 3 rfl) ?_
        refine lv_iload C.1 C.2.1 dX0_playOut_170 (lv_at hl 4 rfl) ?_
        refine r_iast C hp h xk_70 xs_70 dX0_playOut_172 (fun M48 H locs h hp => ?_)
        refine lv_aload_n C.1 C.2.1 dX0_playOut_173 rfl (lv_at hl 1 rfl) ?_
        refine r_getr (t := 71) C hp xk_67 xs_67 xc_0 xin_0 (j := 4) (by decide) rfl gw_372 rfl dX0_playOut_174 ?_
        refine lv_iload_n C.1 C.2.1 dX0_playOut_177 rfl (lv_at hl 3 rfl) ?_
        refine lv_iload C.1 C.2.1 dX0_playOut_178 (lv_at hl 5 rfl) ?_
        refine r_iast C hp h xk_71 xs_71 dX0_playOut_180 (fun M49 H locs h hp => ?_)
        refine r_iinc (lv' := fun x50 => [(3, .int (gI x50)), (1, .int (gI x47)), (0, .ref (V.2.2 67)), (2, .int (gI x32)), (4, .int (gI x44)), (5, .int (gI x45))]) C h dX0_playOut_181 hl (j := 3) rfl (by decide) (fun _ => rfl) (fun x50 ls h hl => ?_)
        refine r_goto (tgt := 67) C dX0_playOut_184 (by decide) ?_
        exact ih _ _ _ _ _ _ h hp (lv_sub hl [2, 1, 3, 0] rfl)
      refine r_jn (P := fun J => ∀ (x42 : Int) (x43 : Int) (H : Heap) (locs : List Loc) (ls : Array Slot), J x42 x43 = some res → g_PT xG V M34 s H locs → lv_has ls 6 [(0, .ref (V.2.2 67)), (2, .int (gI x32)), (3, .int (gI x33)), (4, .int (gI x42)), (5, .int (gI x43))] → W p l e R s m args below meth c H locs 0 0 Q (F0 m 159 ls [])) h ?_ (fun J36 hJ36 h => ?_)
      · intro x42 x43 H locs ls h hp hl
        refine r_iconst C dX0_playOut_159 ?_
        refine r_goto (tgt := 164) C dX0_playOut_160 (by decide) ?_
        exact hJ37 _ _ _ _ _ _ h hp hl
      refine r_sipush C dX0_playOut_73 (by decide +kernel) ?_
      refine r_iconst C dX0_playOut_76 ?_
      refine lv_aload_n C.1 C.2.1 dX0_playOut_77 rfl (lv_at hl 0 rfl) ?_
      refine r_getr (t := 71) C hp xk_67 xs_67 xc_0 xin_0 (j := 4) (by decide) rfl gw_372 rfl dX0_playOut_78 ?_
      refine lv_aload_n C.1 C.2.1 dX0_playOut_81 rfl (lv_at hl 0 rfl) ?_
      refine r_getr (t := 68) C hp xk_67 xs_67 xc_0 xin_0 (j := 1) (by decide) rfl gw_369 rfl dX0_playOut_82 ?_
      refine lv_iload_n C.1 C.2.1 dX0_playOut_85 rfl (lv_at hl 3 rfl) ?_
      refine r_iconst C dX0_playOut_86 ?_
      refine r_imul C dX0_playOut_87 ?_
      refine lv_aload_n C.1 C.2.1 dX0_playOut_88 rfl (lv_at hl 0 rfl) ?_
      refine lv_iload_n C.1 C.2.1 dX0_playOut_89 rfl (lv_at hl 3 rfl) ?_
      refine r_iconst C dX0_playOut_90 ?_
      obtain ⟨x38, hr, h⟩ := bd_of h
      refine r_callVI (As := [.int (gI x33), .int (gI 1)]) (rest := [.int (gI (x33 * 4)), .ref (V.2.2 68), .ref (V.2.2 71), .int (gI 1), .int (gI 1000)]) C hl.1 hp (c_X0_replyOf l C.2.2.2.2.2.2.2.2.2.2.2 hr) gw_1026 gw_1028 gw_32 xk_67 xs_67 xc_0 cal_X0_replyOf rfl rfl (Nat.le_of_ble_eq_true rfl) ⟨Nat.le_of_ble_eq_true rfl, Nat.le_of_ble_eq_true rfl⟩ dX0_playOut_91 (fun H locs hp => ?_)
      refine r_iadd C dX0_playOut_94 ?_
      refine r_iald C hp h xk_68 xs_68 dX0_playOut_95 (fun h => ?_)
      refine r_iald C hp h xk_71 xs_71 dX0_playOut_96 (fun h => ?_)
      refine r_iadd C dX0_playOut_97 ?_
      refine r_mmin C hl.1 gw_1030 gw_587 gw_126 gw_588 (Nat.le_of_ble_eq_true rfl) (Nat.le_of_ble_eq_true rfl) dX0_playOut_98 ?_
      refine r_istore (lv' := fun x39 => [(4, .int (gI x39)), (0, .ref (V.2.2 67)), (1, .int (gI x31)), (2, .int (gI x32)), (3, .int (gI x33))]) C h dX0_playOut_101 hl (by decide) (fun _ => rfl) (fun x39 ls h hl => ?_)
      refine r_sipush C dX0_playOut_103 (by decide +kernel) ?_
      refine r_iconst C dX0_playOut_106 ?_
      refine lv_aload_n C.1 C.2.1 dX0_playOut_107 rfl (lv_at hl 1 rfl) ?_
      refine r_getr (t := 70) C hp xk_67 xs_67 xc_0 xin_0 (j := 3) (by decide) rfl gw_371 rfl dX0_playOut_108 ?_
      refine lv_aload_n C.1 C.2.1 dX0_playOut_111 rfl (lv_at hl 1 rfl) ?_
      refine r_getr (t := 68) C hp xk_67 xs_67 xc_0 xin_0 (j := 1) (by decide) rfl gw_369 rfl dX0_playOut_112 ?_
      refine lv_iload_n C.1 C.2.1 dX0_playOut_115 rfl (lv_at hl 4 rfl) ?_
      refine r_iconst C dX0_playOut_116 ?_
      refine r_imul C dX0_playOut_117 ?_
      refine lv_aload_n C.1 C.2.1 dX0_playOut_118 rfl (lv_at hl 1 rfl) ?_
      refine lv_iload_n C.1 C.2.1 dX0_playOut_119 rfl (lv_at hl 4 rfl) ?_
      refine r_iconst C dX0_playOut_120 ?_
      obtain ⟨x40, hr, h⟩ := bd_of h
      refine r_callVI (As := [.int (gI x33), .int (gI 0)]) (rest := [.int (gI (x33 * 4)), .ref (V.2.2 68), .ref (V.2.2 70), .int (gI 1), .int (gI 1000)]) C hl.1 hp (c_X0_replyOf l C.2.2.2.2.2.2.2.2.2.2.2 hr) gw_1026 gw_1028 gw_32 xk_67 xs_67 xc_0 cal_X0_replyOf rfl rfl (Nat.le_of_ble_eq_true rfl) ⟨Nat.le_of_ble_eq_true rfl, Nat.le_of_ble_eq_true rfl⟩ dX0_playOut_121 (fun H locs hp => ?_)
      refine r_iadd C dX0_playOut_124 ?_
      refine r_iald C hp h xk_68 xs_68 dX0_playOut_125 (fun h => ?_)
      refine r_iald C hp h xk_70 xs_70 dX0_playOut_126 (fun h => ?_)
      refine r_iadd C dX0_playOut_127 ?_
      refine r_mmin C hl.1 gw_1030 gw_587 gw_126 gw_588 (Nat.le_of_ble_eq_true rfl) (Nat.le_of_ble_eq_true rfl) dX0_playOut_128 ?_
      refine r_istore (lv' := fun x41 => [(5, .int (gI x41)), (4, .int (gI x39)), (0, .ref (V.2.2 67)), (1, .int (gI x31)), (2, .int (gI x32)), (3, .int (gI x33))]) C h dX0_playOut_131 hl (by decide) (fun _ => rfl) (fun x41 ls h hl => ?_)
      refine lv_iload_n C.1 C.2.1 dX0_playOut_133 rfl (lv_at hl 3 rfl) ?_
      refine r_if_ne (tgt := 159) C h dX0_playOut_134 (by decide) (fun h => ?_) (fun h => ?_)
      · exact hJ36 _ _ _ _ _ h hp (lv_sub hl [2, 4, 5, 1, 0] rfl)
      · refine lv_iload C.1 C.2.1 dX0_playOut_137 (lv_at hl 1 rfl) ?_
        refine lv_aload_n C.1 C.2.1 dX0_playOut_139 rfl (lv_at hl 2 rfl) ?_
        refine r_getr (t := 70) C hp xk_67 xs_67 xc_0 xin_0 (j := 3) (by decide) rfl gw_371 rfl dX0_playOut_140 ?_
        refine lv_iload_n C.1 C.2.1 dX0_playOut_143 rfl (lv_at hl 5 rfl) ?_
        refine r_iald C hp h xk_70 xs_70 dX0_playOut_144 (fun h => ?_)
        refine r_icmp_lt (tgt := 159) C h dX0_playOut_145 (by decide) (fun h => ?_) (fun h => ?_)
        · exact hJ36 _ _ _ _ _ h hp (lv_sub hl [2, 4, 5, 1, 0] rfl)
        · refine lv_iload C.1 C.2.1 dX0_playOut_148 (lv_at hl 0 rfl) ?_
          refine lv_aload_n C.1 C.2.1 dX0_playOut_150 rfl (lv_at hl 2 rfl) ?_
          refine r_getr (t := 71) C hp xk_67 xs_67 xc_0 xin_0 (j := 4) (by decide) rfl gw_372 rfl dX0_playOut_151 ?_
          refine lv_iload_n C.1 C.2.1 dX0_playOut_154 rfl (lv_at hl 5 rfl) ?_
          refine r_iald C hp h xk_71 xs_71 dX0_playOut_155 (fun h => ?_)
          refine r_icmp_ge (tgt := 163) C h dX0_playOut_156 (by decide) (fun h => ?_) (fun h => ?_)
          · refine r_iconst C dX0_playOut_163 ?_
            exact hJ37 _ _ _ _ _ _ h hp (lv_sub hl [2, 4, 5, 1, 0] rfl)
          · exact hJ36 _ _ _ _ _ h hp (lv_sub hl [2, 4, 5, 1, 0] rfl)
set_option maxRecDepth 100000 in
set_option maxHeartbeats 4000000 in
theorem w_X0_playOut_L53 (C : g_CX xG V p R s m args meth c cX0_playOut 6 none RX0 4 86) {res : g_M} (hR : g_RetV xG V p l e R s m args below meth c Q cX0_playOut res)    : ∀ (f : Nat) (x26 : Int) (x27 : Int) (M28 : g_M) (H : Heap) (locs : List Loc) (ls : Array Slot), m_X0_playOut_L53  f x26 x27 M28 = some res → g_PT xG V M28 s H locs → lv_has ls 6 [(0, .ref (V.2.2 67)), (1, .int (gI x26)), (2, .int (gI x27))] → W p l e R s m args below meth c H locs 0 0 Q (F0 m 53 ls []) := by
  intro f
  induction f with
  | zero => intro x26 x27 M28 H locs ls h hp hl; cases h
  | succ f ih =>
    intro x26 x27 M28 H locs ls h hp hl
    rw [m_X0_playOut_L53] at h
    refine lv_iload_n C.1 C.2.1 dX0_playOut_53 rfl (lv_at hl 2 rfl) ?_
    refine r_bipush C dX0_playOut_54 (by decide +kernel) ?_
    refine r_icmp_ge (tgt := 193) C h dX0_playOut_56 (by decide) (fun h => ?_) (fun h => ?_)
    · cases h
      exact hR _ _ _ _ dX0_playOut_193 hp
    · refine lv_iload_n C.1 C.2.1 dX0_playOut_59 rfl (lv_at hl 1 rfl) ?_
      refine r_if_eq (tgt := 193) C h dX0_playOut_60 (by decide) (fun h => ?_) (fun h => ?_)
      · cases h
        exact hR _ _ _ _ dX0_playOut_193 hp
      · refine r_iconst C dX0_playOut_63 ?_
        refine r_istore_n (lv' := fun x29 => [(1, .int (gI x29)), (0, .ref (V.2.2 67)), (2, .int (gI x27))]) C h dX0_playOut_64 rfl hl (by decide) (fun _ => rfl) (fun x29 ls h hl => ?_)
        refine r_iconst C dX0_playOut_65 ?_
        refine r_istore_n (lv' := fun x30 => [(3, .int (gI x30)), (1, .int (gI x29)), (0, .ref (V.2.2 67)), (2, .int (gI x27))]) C h dX0_playOut_66 rfl hl (by decide) (fun _ => rfl) (fun x30 ls h hl => ?_)
        refine w_X0_playOut_L67 C hR _ _ ?_ _ _ _ _ H locs ls h hp (lv_sub hl [2, 1, 3, 0] rfl)
        · intro x53 M54 H locs ls h hp hl
          refine r_iinc (lv' := fun x55 => [(2, .int (gI x55)), (0, .ref (V.2.2 67)), (1, .int (gI x53))]) C h dX0_playOut_187 hl (j := 2) rfl (by decide) (fun _ => rfl) (fun x55 ls h hl => ?_)
          refine r_goto (tgt := 53) C dX0_playOut_190 (by decide) ?_
          exact ih _ _ _ _ _ _ h hp (lv_sub hl [1, 2, 0] rfl)
set_option maxRecDepth 100000 in
set_option maxHeartbeats 4000000 in
theorem b_X0_playOut (C : g_CX xG V p R s m args meth c cX0_playOut 6 none RX0 4 86) {res : g_M} (hR : g_RetV xG V p l e R s m args below meth c Q cX0_playOut res)  {M : g_M} {H : Heap} {locs : List Loc} {ls : Array Slot} (h : m_X0_playOut M = some res) (hp : g_PT xG V M s H locs) (hl : lv_has ls 6 [(0, .ref (V.2.2 67))]) : W p l e R s m args below meth c H locs 0 0 Q (F0 m 0 ls []) := by
  unfold m_X0_playOut at h
  refine lv_aload_n C.1 C.2.1 dX0_playOut_0 rfl (lv_at hl 0 rfl) ?_
  obtain ⟨M11, hr, h⟩ := bd_of h
  refine r_callVV (As := []) (rest := []) C hl.1 hp (c_X0_survey l C.2.2.2.2.2.2.2.2.2.2.2 hr) gw_1004 gw_1006 gw_29 xk_67 xs_67 xc_0 cal_X0_survey rfl rfl (Nat.le_of_ble_eq_true rfl) ⟨Nat.le_of_ble_eq_true rfl, Nat.le_of_ble_eq_true rfl⟩ dX0_playOut_1 (fun H locs hp => ?_)
  refine r_iconst C dX0_playOut_4 ?_
  refine r_istore_n (lv' := fun x12 => [(1, .int (gI x12)), (0, .ref (V.2.2 67))]) C h dX0_playOut_5 rfl hl (by decide) (fun _ => rfl) (fun x12 ls h hl => ?_)
  refine w_X0_playOut_L6 C hR _ ?_ _ _ _ H locs ls h hp (lv_sub hl [1, 0] rfl)
  · intro M23 H locs ls h hp hl
    refine r_iconst C dX0_playOut_49 ?_
    refine r_istore_n (lv' := fun x24 => [(1, .int (gI x24)), (0, .ref (V.2.2 67))]) C h dX0_playOut_50 rfl hl (by decide) (fun _ => rfl) (fun x24 ls h hl => ?_)
    refine r_iconst C dX0_playOut_51 ?_
    refine r_istore_n (lv' := fun x25 => [(2, .int (gI x25)), (1, .int (gI x24)), (0, .ref (V.2.2 67))]) C h dX0_playOut_52 rfl hl (by decide) (fun _ => rfl) (fun x25 ls h hl => ?_)
    refine w_X0_playOut_L53 C hR _ _ _ _ H locs ls h hp (lv_sub hl [2, 1, 0] rfl)
theorem c_X0_playOut (l : Launch) {V : g_V} (hok : g_ok xG V)  {M : g_M} {res : g_M} (h : m_X0_playOut M = some res) : MetV xG V l yX0_playOut cX0_playOut 6 none 4 86 [.ref (V.2.2 67)] M res :=
  g_metV hok cal_X0_playOut.2.2.2 rfl (Nat.le_of_ble_eq_true rfl) (@fun p e R s m args below meth c Q ls C hR hp hl => b_X0_playOut C hR h hp hl)
set_option maxRecDepth 100000 in
set_option maxHeartbeats 4000000 in
theorem b_X0_playLength (C : g_CX xG V p R s m args meth c cX0_playLength 4 (some .int) RX0 5 111) {res : Int × g_M} (hR : g_RetI xG V p l e R s m args below meth c Q cX0_playLength .int res.1 res.2) {a1 : Int} {a2 : Int} {M : g_M} {H : Heap} {locs : List Loc} {ls : Array Slot} (h : m_X0_playLength a1 a2 M = some res) (hp : g_PT xG V M s H locs) (hl : lv_has ls 4 [(0, .ref (V.2.2 67)), (1, .int (gI a1)), (2, .int (gI a2))]) : W p l e R s m args below meth c H locs 0 0 Q (F0 m 0 ls []) := by
  unfold m_X0_playLength at h
  refine r_jn (P := fun J => ∀ (x13 : Int) (M14 : g_M) (H : Heap) (locs : List Loc) (ls : Array Slot), J x13 M14 = some res → g_PT xG V M14 s H locs → lv_has ls 4 [] → W p l e R s m args below meth c H locs 0 0 Q (F0 m 23 ls [.int (gI x13)])) h ?_ (fun J11 hJ11 h => ?_)
  · intro x13 M14 H locs ls h hp hl
    refine r_istore_n (lv' := fun x15 => [(3, .int (gI x15))]) C h dX0_playLength_23 rfl hl (by decide) (fun _ => rfl) (fun x15 ls h hl => ?_)
    refine lv_iload_n C.1 C.2.1 dX0_playLength_24 rfl (lv_at hl 0 rfl) ?_
    refine r_sipush C dX0_playLength_25 (by decide +kernel) ?_
    refine r_icmp_ne (tgt := 35) C h dX0_playLength_28 (by decide) (fun h => ?_) (fun h => ?_)
    · refine lv_iload_n C.1 C.2.1 dX0_playLength_35 rfl (lv_at hl 0 rfl) ?_
      cases h
      exact hR _ _ _ _ dX0_playLength_36 rfl hp
    · refine r_iconst C dX0_playLength_31 ?_
      refine r_goto (tgt := 36) C dX0_playLength_32 (by decide) ?_
      cases h
      exact hR _ _ _ _ dX0_playLength_36 rfl hp
  refine lv_aload_n C.1 C.2.1 dX0_playLength_0 rfl (lv_at hl 0 rfl) ?_
  obtain ⟨M12, hr, h⟩ := bd_of h
  refine r_callVV (As := []) (rest := []) C hl.1 hp (c_X0_playOut l C.2.2.2.2.2.2.2.2.2.2.2 hr) gw_1022 gw_1024 gw_31 xk_67 xs_67 xc_0 cal_X0_playOut rfl rfl (Nat.le_of_ble_eq_true rfl) ⟨Nat.le_of_ble_eq_true rfl, Nat.le_of_ble_eq_true rfl⟩ dX0_playLength_1 (fun H locs hp => ?_)
  refine lv_iload_n C.1 C.2.1 dX0_playLength_4 rfl (lv_at hl 2 rfl) ?_
  refine r_if_eq (tgt := 17) C h dX0_playLength_5 (by decide) (fun h => ?_) (fun h => ?_)
  · refine lv_aload_n C.1 C.2.1 dX0_playLength_17 rfl (lv_at hl 0 rfl) ?_
    refine r_getr (t := 71) C hp xk_67 xs_67 xc_0 xin_0 (j := 4) (by decide) rfl gw_372 rfl dX0_playLength_18 ?_
    refine lv_iload_n C.1 C.2.1 dX0_playLength_21 rfl (lv_at hl 1 rfl) ?_
    refine r_iald C hp h xk_71 xs_71 dX0_playLength_22 (fun h => ?_)
    exact hJ11 _ _ _ _ _ h hp (lv_sub hl [] rfl)
  · refine lv_aload_n C.1 C.2.1 dX0_playLength_8 rfl (lv_at hl 0 rfl) ?_
    refine r_getr (t := 70) C hp xk_67 xs_67 xc_0 xin_0 (j := 3) (by decide) rfl gw_371 rfl dX0_playLength_9 ?_
    refine lv_iload_n C.1 C.2.1 dX0_playLength_12 rfl (lv_at hl 1 rfl) ?_
    refine r_iald C hp h xk_70 xs_70 dX0_playLength_13 (fun h => ?_)
    refine r_goto (tgt := 23) C dX0_playLength_14 (by decide) ?_
    exact hJ11 _ _ _ _ _ h hp (lv_sub hl [] rfl)
theorem c_X0_playLength (l : Launch) {V : g_V} (hok : g_ok xG V) {a1 : Int} {a2 : Int} {M : g_M} {x : Int} {M2 : g_M} (h : m_X0_playLength a1 a2 M = some (x, M2)) : MetI xG V l yX0_playLength cX0_playLength 4 (some .int) 5 111 [.ref (V.2.2 67), .int (gI a1), .int (gI a2)] M x M2 :=
  g_metI hok cal_X0_playLength.2.2.2 rfl (Nat.le_of_ble_eq_true rfl) (@fun p e R s m args below meth c Q ls C hR hp hl => b_X0_playLength C hR h hp hl)
set_option maxRecDepth 100000 in
set_option maxHeartbeats 4000000 in
theorem b_X0_playCue (C : g_CX xG V p R s m args meth c cX0_playCue 3 (some .int) RX0 5 111) {res : Int × g_M} (hR : g_RetI xG V p l e R s m args below meth c Q cX0_playCue .int res.1 res.2) {a1 : Int} {a2 : Int} {M : g_M} {H : Heap} {locs : List Loc} {ls : Array Slot} (h : m_X0_playCue a1 a2 M = some res) (hp : g_PT xG V M s H locs) (hl : lv_has ls 3 [(0, .ref (V.2.2 67)), (1, .int (gI a1)), (2, .int (gI a2))]) : W p l e R s m args below meth c H locs 0 0 Q (F0 m 0 ls []) := by
  unfold m_X0_playCue at h
  refine lv_aload_n C.1 C.2.1 dX0_playCue_0 rfl (lv_at hl 0 rfl) ?_
  obtain ⟨M11, hr, h⟩ := bd_of h
  refine r_callVV (As := []) (rest := []) C hl.1 hp (c_X0_playOut l C.2.2.2.2.2.2.2.2.2.2.2 hr) gw_1022 gw_1024 gw_31 xk_67 xs_67 xc_0 cal_X0_playOut rfl rfl (Nat.le_of_ble_eq_true rfl) ⟨Nat.le_of_ble_eq_true rfl, Nat.le_of_ble_eq_true rfl⟩ dX0_playCue_1 (fun H locs hp => ?_)
  refine lv_iload_n C.1 C.2.1 dX0_playCue_4 rfl (lv_at hl 1 rfl) ?_
  refine r_bipush C dX0_playCue_5 (by decide +kernel) ?_
  refine r_icmp_eq (tgt := 26) C h dX0_playCue_7 (by decide) (fun h => ?_) (fun h => ?_)
  · refine r_iconst C dX0_playCue_26 ?_
    cases h
    exact hR _ _ _ _ dX0_playCue_27 rfl hp
  · refine r_jn (P := fun J => ∀  (H : Heap) (locs : List Loc) (ls : Array Slot), J  = some res → g_PT xG V M11 s H locs → lv_has ls 3 [(0, .ref (V.2.2 67)), (1, .int (gI a1)), (2, .int (gI a2))] → W p l e R s m args below meth c H locs 0 0 Q (F0 m 28 ls [])) h ?_ (fun J12 hJ12 h => ?_)
    · intro  H locs ls h hp hl
      refine lv_aload_n C.1 C.2.1 dX0_playCue_28 rfl (lv_at hl 0 rfl) ?_
      refine lv_iload_n C.1 C.2.1 dX0_playCue_29 rfl (lv_at hl 1 rfl) ?_
      refine lv_iload_n C.1 C.2.1 dX0_playCue_30 rfl (lv_at hl 2 rfl) ?_
      obtain ⟨x13, hr, h⟩ := bd_of h
      refine r_callVI (As := [.int (gI a1), .int (gI a2)]) (rest := []) C hl.1 hp (c_X0_replyOf l C.2.2.2.2.2.2.2.2.2.2.2 hr) gw_1026 gw_1028 gw_32 xk_67 xs_67 xc_0 cal_X0_replyOf rfl rfl (Nat.le_of_ble_eq_true rfl) ⟨Nat.le_of_ble_eq_true rfl, Nat.le_of_ble_eq_true rfl⟩ dX0_playCue_31 (fun H locs hp => ?_)
      cases h
      exact hR _ _ _ _ dX0_playCue_34 rfl hp
    refine lv_iload_n C.1 C.2.1 dX0_playCue_10 rfl (lv_at hl 2 rfl) ?_
    refine r_if_eq (tgt := 28) C h dX0_playCue_11 (by decide) (fun h => ?_) (fun h => ?_)
    · exact hJ12  _ _ _ h hp hl
    · refine lv_aload_n C.1 C.2.1 dX0_playCue_14 rfl (lv_at hl 0 rfl) ?_
      refine r_getr (t := 70) C hp xk_67 xs_67 xc_0 xin_0 (j := 3) (by decide) rfl gw_371 rfl dX0_playCue_15 ?_
      refine lv_iload_n C.1 C.2.1 dX0_playCue_18 rfl (lv_at hl 1 rfl) ?_
      refine r_iald C hp h xk_70 xs_70 dX0_playCue_19 (fun h => ?_)
      refine r_sipush C dX0_playCue_20 (by decide +kernel) ?_
      refine r_icmp_ne (tgt := 28) C h dX0_playCue_23 (by decide) (fun h => ?_) (fun h => ?_)
      · exact hJ12  _ _ _ h hp hl
      · refine r_iconst C dX0_playCue_26 ?_
        cases h
        exact hR _ _ _ _ dX0_playCue_27 rfl hp
theorem c_X0_playCue (l : Launch) {V : g_V} (hok : g_ok xG V) {a1 : Int} {a2 : Int} {M : g_M} {x : Int} {M2 : g_M} (h : m_X0_playCue a1 a2 M = some (x, M2)) : MetI xG V l yX0_playCue cX0_playCue 3 (some .int) 5 111 [.ref (V.2.2 67), .int (gI a1), .int (gI a2)] M x M2 :=
  g_metI hok cal_X0_playCue.2.2.2 rfl (Nat.le_of_ble_eq_true rfl) (@fun p e R s m args below meth c Q ls C hR hp hl => b_X0_playCue C hR h hp hl)
set_option maxRecDepth 100000 in
set_option maxHeartbeats 4000000 in
theorem w_X0_countFromEnd_L6 (C : g_CX xG V p R s m args meth c cX0_countFromEnd 2 none RX0 4 86) {res : g_M} (hR : g_RetV xG V p l e R s m args below meth c Q cX0_countFromEnd res)    : ∀ (f : Nat) (x13 : Int) (M14 : g_M) (H : Heap) (locs : List Loc) (ls : Array Slot), m_X0_countFromEnd_L6  f x13 M14 = some res → g_PT xG V M14 s H locs → lv_has ls 2 [(0, .ref (V.2.2 67)), (1, .int (gI x13))] → W p l e R s m args below meth c H locs 0 0 Q (F0 m 6 ls []) := by
  intro f
  induction f with
  | zero => intro x13 M14 H locs ls h hp hl; cases h
  | succ f ih =>
    intro x13 M14 H locs ls h hp hl
    rw [m_X0_countFromEnd_L6] at h
    refine lv_iload_n C.1 C.2.1 dX0_countFromEnd_6 rfl (lv_at hl 1 rfl) ?_
    refine r_bipush C dX0_countFromEnd_7 (by decide +kernel) ?_
    refine r_icmp_ge (tgt := 35) C h dX0_countFromEnd_9 (by decide) (fun h => ?_) (fun h => ?_)
    · cases h
      exact hR _ _ _ _ dX0_countFromEnd_35 hp
    · refine r_jn (P := fun J => ∀ (x16 : Int) (x17 : Int) (H : Heap) (locs : List Loc) (ls : Array Slot), J x16 x17 = some res → g_PT xG V M14 s H locs → lv_has ls 2 [(0, .ref (V.2.2 67)), (1, .int (gI x13))] → W p l e R s m args below meth c H locs 0 0 Q (F0 m 28 ls [.long (gJ x16), .int (gI x17), .ref (V.2.2 72)])) h ?_ (fun J15 hJ15 h => ?_)
      · intro x16 x17 H locs ls h hp hl
        refine r_last C hp h xk_72 xs_72 dX0_countFromEnd_28 (fun M18 H locs h hp => ?_)
        refine r_iinc (lv' := fun x19 => [(1, .int (gI x19)), (0, .ref (V.2.2 67))]) C h dX0_countFromEnd_29 hl (j := 1) rfl (by decide) (fun _ => rfl) (fun x19 ls h hl => ?_)
        refine r_goto (tgt := 6) C dX0_countFromEnd_32 (by decide) ?_
        exact ih _ _ _ _ _ h hp (lv_sub hl [1, 0] rfl)
      refine lv_aload_n C.1 C.2.1 dX0_countFromEnd_12 rfl (lv_at hl 0 rfl) ?_
      refine r_getr (t := 72) C hp xk_67 xs_67 xc_0 xin_0 (j := 5) (by decide) rfl gw_373 rfl dX0_countFromEnd_13 ?_
      refine lv_iload_n C.1 C.2.1 dX0_countFromEnd_16 rfl (lv_at hl 1 rfl) ?_
      refine lv_iload_n C.1 C.2.1 dX0_countFromEnd_17 rfl (lv_at hl 1 rfl) ?_
      refine r_bipush C dX0_countFromEnd_18 (by decide +kernel) ?_
      refine r_icmp_ne (tgt := 27) C h dX0_countFromEnd_20 (by decide) (fun h => ?_) (fun h => ?_)
      · refine r_lconst (z := 0) C dX0_countFromEnd_27 rfl ?_
        exact hJ15 _ _ _ _ _ h hp hl
      · refine r_lconst (z := 1) C dX0_countFromEnd_23 rfl ?_
        refine r_goto (tgt := 28) C dX0_countFromEnd_24 (by decide) ?_
        exact hJ15 _ _ _ _ _ h hp hl
set_option maxRecDepth 100000 in
set_option maxHeartbeats 4000000 in
theorem b_X0_countFromEnd (C : g_CX xG V p R s m args meth c cX0_countFromEnd 2 none RX0 4 86) {res : g_M} (hR : g_RetV xG V p l e R s m args below meth c Q cX0_countFromEnd res)  {M : g_M} {H : Heap} {locs : List Loc} {ls : Array Slot} (h : m_X0_countFromEnd M = some res) (hp : g_PT xG V M s H locs) (hl : lv_has ls 2 [(0, .ref (V.2.2 67))]) : W p l e R s m args below meth c H locs 0 0 Q (F0 m 0 ls []) := by
  unfold m_X0_countFromEnd at h
  refine lv_aload_n C.1 C.2.1 dX0_countFromEnd_0 rfl (lv_at hl 0 rfl) ?_
  obtain ⟨M11, hr, h⟩ := bd_of h
  refine r_callVV (As := []) (rest := []) C hl.1 hp (c_X0_survey l C.2.2.2.2.2.2.2.2.2.2.2 hr) gw_1004 gw_1006 gw_29 xk_67 xs_67 xc_0 cal_X0_survey rfl rfl (Nat.le_of_ble_eq_true rfl) ⟨Nat.le_of_ble_eq_true rfl, Nat.le_of_ble_eq_true rfl⟩ dX0_countFromEnd_1 (fun H locs hp => ?_)
  refine r_iconst C dX0_countFromEnd_4 ?_
  refine r_istore_n (lv' := fun x12 => [(1, .int (gI x12)), (0, .ref (V.2.2 67))]) C h dX0_countFromEnd_5 rfl hl (by decide) (fun _ => rfl) (fun x12 ls h hl => ?_)
  refine w_X0_countFromEnd_L6 C hR _ _ _ H locs ls h hp (lv_sub hl [1, 0] rfl)
theorem c_X0_countFromEnd (l : Launch) {V : g_V} (hok : g_ok xG V)  {M : g_M} {res : g_M} (h : m_X0_countFromEnd M = some res) : MetV xG V l yX0_countFromEnd cX0_countFromEnd 2 none 4 86 [.ref (V.2.2 67)] M res :=
  g_metV hok cal_X0_countFromEnd.2.2.2 rfl (Nat.le_of_ble_eq_true rfl) (@fun p e R s m args below meth c Q ls C hR hp hl => b_X0_countFromEnd C hR h hp hl)
set_option maxRecDepth 100000 in
set_option maxHeartbeats 4000000 in
theorem w_X0_commonDivisor_L3 (C : g_CX xG V p R s m args meth c cX0_commonDivisor 7 (some .long) RX0 0 0) {res : Int} {M : g_M} (hR : g_RetL xG V p l e R s m args below meth c Q cX0_commonDivisor res M)    : ∀ (f : Nat) (x12 : Int) (x13 : Int) (x14 : Int) (H : Heap) (locs : List Loc) (ls : Array Slot), m_X0_commonDivisor_L3  f x12 x13 x14 = some res → g_PT xG V M s H locs → lv_has ls 7 [(0, .long (gJ x12)), (2, .long (gJ x13)), (4, .int (gI x14))] → W p l e R s m args below meth c H locs 0 0 Q (F0 m 3 ls []) := by
  intro f
  induction f with
  | zero => intro x12 x13 x14 H locs ls h hp hl; cases h
  | succ f ih =>
    intro x12 x13 x14 H locs ls h hp hl
    rw [m_X0_commonDivisor_L3] at h
    refine lv_iload C.1 C.2.1 dX0_commonDivisor_3 (lv_at hl 2 rfl) ?_
    refine r_bipush C dX0_commonDivisor_5 (by decide +kernel) ?_
    refine r_icmp_ge (tgt := 32) C h dX0_commonDivisor_7 (by decide) (fun h => ?_) (fun h => ?_)
    · refine lv_lload_n C.1 C.2.1 dX0_commonDivisor_32 rfl (lv_at hl 0 rfl) ?_
      cases h
      exact hR _ _ _ _ dX0_commonDivisor_33 hp
    · refine lv_lload_n C.1 C.2.1 dX0_commonDivisor_10 rfl (lv_at hl 1 rfl) ?_
      refine r_lconst (z := 0) C dX0_commonDivisor_11 rfl ?_
      refine r_lcmp C dX0_commonDivisor_12 ?_
      refine r_if_eq (tgt := 32) C h dX0_commonDivisor_13 (by decide) (fun h => ?_) (fun h => ?_)
      · refine lv_lload_n C.1 C.2.1 dX0_commonDivisor_32 rfl (lv_at hl 0 rfl) ?_
        cases h
        exact hR _ _ _ _ dX0_commonDivisor_33 hp
      · refine lv_lload_n C.1 C.2.1 dX0_commonDivisor_16 rfl (lv_at hl 0 rfl) ?_
        refine lv_lload_n C.1 C.2.1 dX0_commonDivisor_17 rfl (lv_at hl 1 rfl) ?_
        refine r_lrem C h dX0_commonDivisor_18 (fun h => ?_)
        refine r_lstore (lv' := fun x15 => [(5, .long (gJ x15)), (0, .long (gJ x12)), (2, .long (gJ x13)), (4, .int (gI x14))]) C h dX0_commonDivisor_19 hl (by decide) (fun _ => rfl) (fun x15 ls h hl => ?_)
        refine lv_lload_n C.1 C.2.1 dX0_commonDivisor_21 rfl (lv_at hl 2 rfl) ?_
        refine r_lstore_n (lv' := fun x16 => [(0, .long (gJ x16)), (5, .long (gJ x15)), (2, .long (gJ x13)), (4, .int (gI x14))]) C h dX0_commonDivisor_22 rfl hl (by decide) (fun _ => rfl) (fun x16 ls h hl => ?_)
        refine lv_lload C.1 C.2.1 dX0_commonDivisor_23 (lv_at hl 1 rfl) ?_
        refine r_lstore_n (lv' := fun x17 => [(2, .long (gJ x17)), (0, .long (gJ x16)), (5, .long (gJ x15)), (4, .int (gI x14))]) C h dX0_commonDivisor_25 rfl hl (by decide) (fun _ => rfl) (fun x17 ls h hl => ?_)
        refine r_iinc (lv' := fun x18 => [(4, .int (gI x18)), (2, .long (gJ x17)), (0, .long (gJ x16)), (5, .long (gJ x15))]) C h dX0_commonDivisor_26 hl (j := 3) rfl (by decide) (fun _ => rfl) (fun x18 ls h hl => ?_)
        refine r_goto (tgt := 3) C dX0_commonDivisor_29 (by decide) ?_
        exact ih _ _ _ _ _ _ h hp (lv_sub hl [2, 1, 0] rfl)
set_option maxRecDepth 100000 in
set_option maxHeartbeats 4000000 in
theorem b_X0_commonDivisor (C : g_CX xG V p R s m args meth c cX0_commonDivisor 7 (some .long) RX0 0 0) {res : Int} {M : g_M} (hR : g_RetL xG V p l e R s m args below meth c Q cX0_commonDivisor res M) {a1 : Int} {a2 : Int} {H : Heap} {locs : List Loc} {ls : Array Slot} (h : m_X0_commonDivisor a1 a2 = some res) (hp : g_PT xG V M s H locs) (hl : lv_has ls 7 [(0, .long (gJ a1)), (2, .long (gJ a2))]) : W p l e R s m args below meth c H locs 0 0 Q (F0 m 0 ls []) := by
  unfold m_X0_commonDivisor at h
  refine r_iconst C dX0_commonDivisor_0 ?_
  refine r_istore (lv' := fun x11 => [(4, .int (gI x11)), (0, .long (gJ a1)), (2, .long (gJ a2))]) C h dX0_commonDivisor_1 hl (by decide) (fun _ => rfl) (fun x11 ls h hl => ?_)
  refine w_X0_commonDivisor_L3 C hR _ _ _ _ H locs ls h hp (lv_sub hl [1, 2, 0] rfl)
theorem c_X0_commonDivisor (l : Launch) {V : g_V} (hok : g_ok xG V) {a1 : Int} {a2 : Int} {M : g_M} {x : Int} (h : m_X0_commonDivisor a1 a2 = some x) : MetL xG V l yX0_commonDivisor cX0_commonDivisor 7 (some .long) 0 0 [.long (gJ a1), .long (gJ a2)] M x M :=
  g_metL hok cal_X0_commonDivisor.2.2.2 rfl (Nat.le_of_ble_eq_true rfl) (@fun p e R s m args below meth c Q ls C hR hp hl => b_X0_commonDivisor C hR h hp hl)
set_option maxRecDepth 100000 in
set_option maxHeartbeats 4000000 in
theorem w_X0_oddsWithin_L40 (C : g_CX xG V p R s m args meth c cX0_oddsWithin 11 (some .long) RX0 5 107) {res : Int × g_M} (hR : g_RetL xG V p l e R s m args below meth c Q cX0_oddsWithin res.1 res.2) (x33 : Int) (x34 : Int) (x35 : Int) (x36 : Int) (x37 : Int) (x38 : Int) (M41 : g_M) (k42 : Int → Option (Int × g_M)) (hk42 : ∀ (x45 : Int) (H : Heap) (locs : List Loc) (ls : Array Slot), k42 x45 = some res → g_PT xG V M41 s H locs → lv_has ls 11 [(0, .ref (V.2.2 67)), (1, .int (gI x33)), (2, .int (gI x34)), (3, .int (gI x35)), (4, .long (gJ x36)), (6, .int (gI x37)), (7, .int (gI x38)), (8, .long (gJ x45))] → W p l e R s m args below meth c H locs 0 0 Q (F0 m 86 ls [])) : ∀ (f : Nat) (x39 : Int) (x40 : Int) (H : Heap) (locs : List Loc) (ls : Array Slot), m_X0_oddsWithin_L40 x33 x34 x35 x36 x37 x38 M41 k42 f x39 x40 = some res → g_PT xG V M41 s H locs → lv_has ls 11 [(0, .ref (V.2.2 67)), (1, .int (gI x33)), (2, .int (gI x34)), (3, .int (gI x35)), (4, .long (gJ x36)), (6, .int (gI x37)), (7, .int (gI x38)), (8, .long (gJ x39)), (10, .int (gI x40))] → W p l e R s m args below meth c H locs 0 0 Q (F0 m 40 ls []) := by
  intro f
  induction f with
  | zero => intro x39 x40 H locs ls h hp hl; cases h
  | succ f ih =>
    intro x39 x40 H locs ls h hp hl
    rw [m_X0_oddsWithin_L40] at h
    refine lv_iload C.1 C.2.1 dX0_oddsWithin_40 (lv_at hl 8 rfl) ?_
    refine r_iconst C dX0_oddsWithin_42 ?_
    refine r_icmp_ge (tgt := 86) C h dX0_oddsWithin_43 (by decide) (fun h => ?_) (fun h => ?_)
    · exact hk42 _ _ _ _ h hp (lv_sub hl [0, 1, 2, 3, 4, 5, 6, 7] rfl)
    · refine lv_lload C.1 C.2.1 dX0_oddsWithin_46 (lv_at hl 7 rfl) ?_
      refine lv_aload_n C.1 C.2.1 dX0_oddsWithin_48 rfl (lv_at hl 0 rfl) ?_
      refine r_getr (t := 1) C hp xk_67 xs_67 xc_0 xin_0 (j := 0) (by decide) rfl gw_368 rfl dX0_oddsWithin_49 ?_
      refine r_getr (t := 8) C hp xk_1 xs_1 xc_1 xin_1 (j := 12) (by decide) rfl gw_179 rfl dX0_oddsWithin_52 ?_
      refine lv_iload C.1 C.2.1 dX0_oddsWithin_55 (lv_at hl 8 rfl) ?_
      refine r_iald C hp h xk_8 xs_8 dX0_oddsWithin_57 (fun h => ?_)
      refine r_i2l C dX0_oddsWithin_58 ?_
      refine lv_aload_n C.1 C.2.1 dX0_oddsWithin_59 rfl (lv_at hl 0 rfl) ?_
      refine r_getr (t := 72) C hp xk_67 xs_67 xc_0 xin_0 (j := 5) (by decide) rfl gw_373 rfl dX0_oddsWithin_60 ?_
      refine lv_aload_n C.1 C.2.1 dX0_oddsWithin_63 rfl (lv_at hl 0 rfl) ?_
      refine r_getr (t := 68) C hp xk_67 xs_67 xc_0 xin_0 (j := 1) (by decide) rfl gw_369 rfl dX0_oddsWithin_64 ?_
      refine lv_iload C.1 C.2.1 dX0_oddsWithin_67 (lv_at hl 6 rfl) ?_
      refine r_iconst C dX0_oddsWithin_69 ?_
      refine r_imul C dX0_oddsWithin_70 ?_
      refine lv_iload C.1 C.2.1 dX0_oddsWithin_71 (lv_at hl 8 rfl) ?_
      refine r_iadd C dX0_oddsWithin_73 ?_
      refine r_iald C hp h xk_68 xs_68 dX0_oddsWithin_74 (fun h => ?_)
      refine r_lald C hp h xk_72 xs_72 dX0_oddsWithin_75 (fun h => ?_)
      refine r_lmul C dX0_oddsWithin_76 ?_
      refine r_ladd C dX0_oddsWithin_77 ?_
      refine r_lstore (lv' := fun x43 => [(8, .long (gJ x43)), (0, .ref (V.2.2 67)), (1, .int (gI x33)), (2, .int (gI x34)), (3, .int (gI x35)), (4, .long (gJ x36)), (6, .int (gI x37)), (7, .int (gI x38)), (10, .int (gI x40))]) C h dX0_oddsWithin_78 hl (by decide) (fun _ => rfl) (fun x43 ls h hl => ?_)
      refine r_iinc (lv' := fun x44 => [(10, .int (gI x44)), (8, .long (gJ x43)), (0, .ref (V.2.2 67)), (1, .int (gI x33)), (2, .int (gI x34)), (3, .int (gI x35)), (4, .long (gJ x36)), (6, .int (gI x37)), (7, .int (gI x38))]) C h dX0_oddsWithin_80 hl (j := 8) rfl (by decide) (fun _ => rfl) (fun x44 ls h hl => ?_)
      refine r_goto (tgt := 40) C dX0_oddsWithin_83 (by decide) ?_
      exact ih _ _ _ _ _ h hp (lv_sub hl [2, 3, 4, 5, 6, 7, 8, 1, 0] rfl)
set_option maxRecDepth 100000 in
set_option maxHeartbeats 4000000 in
theorem w_X0_oddsWithin_L27 (C : g_CX xG V p R s m args meth c cX0_oddsWithin 11 (some .long) RX0 5 107) {res : Int × g_M} (hR : g_RetL xG V p l e R s m args below meth c Q cX0_oddsWithin res.1 res.2) (x23 : Int) (x24 : Int) (x25 : Int) (x26 : Int) (x27 : Int) (k30 : g_M → Option (Int × g_M)) (hk30 : ∀ (M49 : g_M) (H : Heap) (locs : List Loc) (ls : Array Slot), k30 M49 = some res → g_PT xG V M49 s H locs → lv_has ls 11 [(0, .ref (V.2.2 67)), (1, .int (gI x23)), (2, .int (gI x24)), (3, .int (gI x25)), (4, .long (gJ x26)), (6, .int (gI x27))] → W p l e R s m args below meth c H locs 0 0 Q (F0 m 101 ls [])) : ∀ (f : Nat) (x28 : Int) (M29 : g_M) (H : Heap) (locs : List Loc) (ls : Array Slot), m_X0_oddsWithin_L27 x23 x24 x25 x26 x27 k30 f x28 M29 = some res → g_PT xG V M29 s H locs → lv_has ls 11 [(0, .ref (V.2.2 67)), (1, .int (gI x23)), (2, .int (gI x24)), (3, .int (gI x25)), (4, .long (gJ x26)), (6, .int (gI x27)), (7, .int (gI x28))] → W p l e R s m args below meth c H locs 0 0 Q (F0 m 27 ls []) := by
  intro f
  induction f with
  | zero => intro x28 M29 H locs ls h hp hl; cases h
  | succ f ih =>
    intro x28 M29 H locs ls h hp hl
    rw [m_X0_oddsWithin_L27] at h
    refine lv_iload C.1 C.2.1 dX0_oddsWithin_27 (lv_at hl 6 rfl) ?_
    refine r_bipush C dX0_oddsWithin_29 (by decide +kernel) ?_
    refine r_icmp_ge (tgt := 101) C h dX0_oddsWithin_31 (by decide) (fun h => ?_) (fun h => ?_)
    · exact hk30 _ _ _ _ h hp (lv_sub hl [0, 1, 2, 3, 4, 5] rfl)
    · refine r_lconst (z := 0) C dX0_oddsWithin_34 rfl ?_
      refine r_lstore (lv' := fun x31 => [(8, .long (gJ x31)), (0, .ref (V.2.2 67)), (1, .int (gI x23)), (2, .int (gI x24)), (3, .int (gI x25)), (4, .long (gJ x26)), (6, .int (gI x27)), (7, .int (gI x28))]) C h dX0_oddsWithin_35 hl (by decide) (fun _ => rfl) (fun x31 ls h hl => ?_)
      refine r_iconst C dX0_oddsWithin_37 ?_
      refine r_istore (lv' := fun x32 => [(10, .int (gI x32)), (8, .long (gJ x31)), (0, .ref (V.2.2 67)), (1, .int (gI x23)), (2, .int (gI x24)), (3, .int (gI x25)), (4, .long (gJ x26)), (6, .int (gI x27)), (7, .int (gI x28))]) C h dX0_oddsWithin_38 hl (by decide) (fun _ => rfl) (fun x32 ls h hl => ?_)
      refine w_X0_oddsWithin_L40 C hR _ _ _ _ _ _ _ _ ?_ _ _ _ H locs ls h hp (lv_sub hl [2, 3, 4, 5, 6, 7, 8, 1, 0] rfl)
      · intro x46 H locs ls h hp hl
        refine lv_aload_n C.1 C.2.1 dX0_oddsWithin_86 rfl (lv_at hl 0 rfl) ?_
        refine r_getr (t := 73) C hp xk_67 xs_67 xc_0 xin_0 (j := 6) (by decide) rfl gw_374 rfl dX0_oddsWithin_87 ?_
        refine lv_iload C.1 C.2.1 dX0_oddsWithin_90 (lv_at hl 6 rfl) ?_
        refine lv_lload C.1 C.2.1 dX0_oddsWithin_92 (lv_at hl 7 rfl) ?_
        refine r_last C hp h xk_73 xs_73 dX0_oddsWithin_94 (fun M47 H locs h hp => ?_)
        refine r_iinc (lv' := fun x48 => [(7, .int (gI x48)), (0, .ref (V.2.2 67)), (1, .int (gI x23)), (2, .int (gI x24)), (3, .int (gI x25)), (4, .long (gJ x26)), (6, .int (gI x27)), (8, .long (gJ x46))]) C h dX0_oddsWithin_95 hl (j := 6) rfl (by decide) (fun _ => rfl) (fun x48 ls h hl => ?_)
        refine r_goto (tgt := 27) C dX0_oddsWithin_98 (by decide) ?_
        exact ih _ _ _ _ _ h hp (lv_sub hl [1, 2, 3, 4, 5, 6, 0] rfl)
set_option maxRecDepth 100000 in
set_option maxHeartbeats 4000000 in
theorem w_X0_oddsWithin_L10 (C : g_CX xG V p R s m args meth c cX0_oddsWithin 11 (some .long) RX0 5 107) {res : Int × g_M} (hR : g_RetL xG V p l e R s m args below meth c Q cX0_oddsWithin res.1 res.2) (x14 : Int) (x15 : Int) (x16 : Int) (k20 : Int → g_M → Option (Int × g_M)) (hk20 : ∀ (x54 : Int) (M55 : g_M) (H : Heap) (locs : List Loc) (ls : Array Slot), k20 x54 M55 = some res → g_PT xG V M55 s H locs → lv_has ls 11 [(0, .ref (V.2.2 67)), (1, .int (gI x14)), (3, .int (gI x16)), (4, .long (gJ x54))] → W p l e R s m args below meth c H locs 0 0 Q (F0 m 131 ls [])) : ∀ (f : Nat) (x17 : Int) (x18 : Int) (M19 : g_M) (H : Heap) (locs : List Loc) (ls : Array Slot), m_X0_oddsWithin_L10 x14 x15 x16 k20 f x17 x18 M19 = some res → g_PT xG V M19 s H locs → lv_has ls 11 [(0, .ref (V.2.2 67)), (1, .int (gI x14)), (2, .int (gI x15)), (3, .int (gI x16)), (4, .long (gJ x17)), (6, .int (gI x18))] → W p l e R s m args below meth c H locs 0 0 Q (F0 m 10 ls []) := by
  intro f
  induction f with
  | zero => intro x17 x18 M19 H locs ls h hp hl; cases h
  | succ f ih =>
    intro x17 x18 M19 H locs ls h hp hl
    rw [m_X0_oddsWithin_L10] at h
    refine lv_iload C.1 C.2.1 dX0_oddsWithin_10 (lv_at hl 5 rfl) ?_
    refine lv_iload_n C.1 C.2.1 dX0_oddsWithin_12 rfl (lv_at hl 2 rfl) ?_
    refine r_icmp_ge (tgt := 131) C h dX0_oddsWithin_13 (by decide) (fun h => ?_) (fun h => ?_)
    · exact hk20 _ _ _ _ _ h hp (lv_sub hl [0, 1, 3, 4] rfl)
    · refine lv_lload C.1 C.2.1 dX0_oddsWithin_16 (lv_at hl 4 rfl) ?_
      refine r_ldc2 (n := 10) C gw_1051 (by decide +kernel) dX0_oddsWithin_18 ?_
      refine r_lmul C dX0_oddsWithin_21 ?_
      refine r_lstore (lv' := fun x21 => [(4, .long (gJ x21)), (0, .ref (V.2.2 67)), (1, .int (gI x14)), (2, .int (gI x15)), (3, .int (gI x16)), (6, .int (gI x18))]) C h dX0_oddsWithin_22 hl (by decide) (fun _ => rfl) (fun x21 ls h hl => ?_)
      refine r_iconst C dX0_oddsWithin_24 ?_
      refine r_istore (lv' := fun x22 => [(7, .int (gI x22)), (4, .long (gJ x21)), (0, .ref (V.2.2 67)), (1, .int (gI x14)), (2, .int (gI x15)), (3, .int (gI x16)), (6, .int (gI x18))]) C h dX0_oddsWithin_25 hl (by decide) (fun _ => rfl) (fun x22 ls h hl => ?_)
      refine w_X0_oddsWithin_L27 C hR _ _ _ _ _ _ ?_ _ _ _ H locs ls h hp (lv_sub hl [2, 3, 4, 5, 1, 6, 0] rfl)
      · intro M50 H locs ls h hp hl
        refine lv_aload_n C.1 C.2.1 dX0_oddsWithin_101 rfl (lv_at hl 0 rfl) ?_
        refine r_getr (t := 73) C hp xk_67 xs_67 xc_0 xin_0 (j := 6) (by decide) rfl gw_374 rfl dX0_oddsWithin_102 ?_
        refine r_bipush C dX0_oddsWithin_105 (by decide +kernel) ?_
        refine lv_lload C.1 C.2.1 dX0_oddsWithin_107 (lv_at hl 4 rfl) ?_
        refine r_last C hp h xk_73 xs_73 dX0_oddsWithin_109 (fun M51 H locs h hp => ?_)
        refine lv_aload_n C.1 C.2.1 dX0_oddsWithin_110 rfl (lv_at hl 0 rfl) ?_
        refine r_getr (t := 73) C hp xk_67 xs_67 xc_0 xin_0 (j := 6) (by decide) rfl gw_374 rfl dX0_oddsWithin_111 ?_
        refine r_iconst C dX0_oddsWithin_114 ?_
        refine lv_aload_n C.1 C.2.1 dX0_oddsWithin_115 rfl (lv_at hl 0 rfl) ?_
        refine r_getr (t := 72) C hp xk_67 xs_67 xc_0 xin_0 (j := 5) (by decide) rfl gw_373 rfl dX0_oddsWithin_116 ?_
        refine r_iconst C dX0_oddsWithin_119 ?_
        refine r_bipush C dX0_oddsWithin_120 (by decide +kernel) ?_
        refine r_copyl C hl.1 hp h xk_73 xs_73 xk_72 xs_72 gw_1052 gw_746 gw_745 gw_128 (Nat.le_of_ble_eq_true rfl) (Nat.le_of_ble_eq_true rfl) dX0_oddsWithin_122 (fun M52 H locs h hp => ?_)
        refine r_iinc (lv' := fun x53 => [(6, .int (gI x53)), (0, .ref (V.2.2 67)), (1, .int (gI x14)), (2, .int (gI x15)), (3, .int (gI x16)), (4, .long (gJ x21))]) C h dX0_oddsWithin_125 hl (j := 5) rfl (by decide) (fun _ => rfl) (fun x53 ls h hl => ?_)
        refine r_goto (tgt := 10) C dX0_oddsWithin_128 (by decide) ?_
        exact ih _ _ _ _ _ _ h hp (lv_sub hl [1, 2, 3, 4, 5, 0] rfl)
set_option maxRecDepth 100000 in
set_option maxHeartbeats 4000000 in
theorem b_X0_oddsWithin (C : g_CX xG V p R s m args meth c cX0_oddsWithin 11 (some .long) RX0 5 107) {res : Int × g_M} (hR : g_RetL xG V p l e R s m args below meth c Q cX0_oddsWithin res.1 res.2) {a1 : Int} {a2 : Int} {a3 : Int} {M : g_M} {H : Heap} {locs : List Loc} {ls : Array Slot} (h : m_X0_oddsWithin a1 a2 a3 M = some res) (hp : g_PT xG V M s H locs) (hl : lv_has ls 11 [(0, .ref (V.2.2 67)), (1, .int (gI a1)), (2, .int (gI a2)), (3, .int (gI a3))]) : W p l e R s m args below meth c H locs 0 0 Q (F0 m 0 ls []) := by
  unfold m_X0_oddsWithin at h
  refine lv_aload_n C.1 C.2.1 dX0_oddsWithin_0 rfl (lv_at hl 0 rfl) ?_
  obtain ⟨M11, hr, h⟩ := bd_of h
  refine r_callVV (As := []) (rest := []) C hl.1 hp (c_X0_countFromEnd l C.2.2.2.2.2.2.2.2.2.2.2 hr) gw_1047 gw_1049 gw_33 xk_67 xs_67 xc_0 cal_X0_countFromEnd rfl rfl (Nat.le_of_ble_eq_true rfl) ⟨Nat.le_of_ble_eq_true rfl, Nat.le_of_ble_eq_true rfl⟩ dX0_oddsWithin_1 (fun H locs hp => ?_)
  refine r_lconst (z := 1) C dX0_oddsWithin_4 rfl ?_
  refine r_lstore (lv' := fun x12 => [(4, .long (gJ x12)), (0, .ref (V.2.2 67)), (1, .int (gI a1)), (2, .int (gI a2)), (3, .int (gI a3))]) C h dX0_oddsWithin_5 hl (by decide) (fun _ => rfl) (fun x12 ls h hl => ?_)
  refine r_iconst C dX0_oddsWithin_7 ?_
  refine r_istore (lv' := fun x13 => [(6, .int (gI x13)), (4, .long (gJ x12)), (0, .ref (V.2.2 67)), (1, .int (gI a1)), (2, .int (gI a2)), (3, .int (gI a3))]) C h dX0_oddsWithin_8 hl (by decide) (fun _ => rfl) (fun x13 ls h hl => ?_)
  refine w_X0_oddsWithin_L10 C hR _ _ _ _ ?_ _ _ _ _ H locs ls h hp (lv_sub hl [2, 3, 4, 5, 1, 0] rfl)
  · intro x56 M57 H locs ls h hp hl
    refine lv_aload_n C.1 C.2.1 dX0_oddsWithin_131 rfl (lv_at hl 0 rfl) ?_
    refine r_getr (t := 72) C hp xk_67 xs_67 xc_0 xin_0 (j := 5) (by decide) rfl gw_373 rfl dX0_oddsWithin_132 ?_
    refine lv_iload_n C.1 C.2.1 dX0_oddsWithin_135 rfl (lv_at hl 1 rfl) ?_
    refine r_lald C hp h xk_72 xs_72 dX0_oddsWithin_136 (fun h => ?_)
    refine lv_lload C.1 C.2.1 dX0_oddsWithin_137 (lv_at hl 3 rfl) ?_
    obtain ⟨x58, hr, h⟩ := bd_of h
    refine r_callSL (As := [.long (gJ (M57 72 (gs a1).toNat)), .long (gJ x56)]) (rest := []) C hl.1 hp (c_X0_commonDivisor l C.2.2.2.2.2.2.2.2.2.2.2 hr) gw_1053 gw_1054 cal_X0_commonDivisor rfl rfl (Nat.le_of_ble_eq_true rfl) ⟨Nat.le_of_ble_eq_true rfl, Nat.le_of_ble_eq_true rfl⟩ dX0_oddsWithin_139 (fun H locs hp => ?_)
    refine r_lstore (lv' := fun x59 => [(6, .long (gJ x59)), (0, .ref (V.2.2 67)), (1, .int (gI a1)), (3, .int (gI a3)), (4, .long (gJ x56))]) C h dX0_oddsWithin_142 hl (by decide) (fun _ => rfl) (fun x59 ls h hl => ?_)
    refine lv_lload C.1 C.2.1 dX0_oddsWithin_144 (lv_at hl 0 rfl) ?_
    refine r_lconst (z := 0) C dX0_oddsWithin_146 rfl ?_
    refine r_lcmp C dX0_oddsWithin_147 ?_
    refine r_if_ne (tgt := 155) C h dX0_oddsWithin_148 (by decide) (fun h => ?_) (fun h => ?_)
    · refine lv_iload_n C.1 C.2.1 dX0_oddsWithin_155 rfl (lv_at hl 3 rfl) ?_
      refine r_if_eq (tgt := 164) C h dX0_oddsWithin_156 (by decide) (fun h => ?_) (fun h => ?_)
      · refine lv_aload_n C.1 C.2.1 dX0_oddsWithin_164 rfl (lv_at hl 1 rfl) ?_
        refine r_getr (t := 72) C hp xk_67 xs_67 xc_0 xin_0 (j := 5) (by decide) rfl gw_373 rfl dX0_oddsWithin_165 ?_
        refine lv_iload_n C.1 C.2.1 dX0_oddsWithin_168 rfl (lv_at hl 2 rfl) ?_
        refine r_lald C hp h xk_72 xs_72 dX0_oddsWithin_169 (fun h => ?_)
        refine lv_lload C.1 C.2.1 dX0_oddsWithin_170 (lv_at hl 0 rfl) ?_
        refine r_ldiv C h dX0_oddsWithin_172 (fun h => ?_)
        cases h
        exact hR _ _ _ _ dX0_oddsWithin_173 hp
      · refine lv_lload C.1 C.2.1 dX0_oddsWithin_159 (lv_at hl 4 rfl) ?_
        refine r_goto (tgt := 170) C dX0_oddsWithin_161 (by decide) ?_
        refine lv_lload C.1 C.2.1 dX0_oddsWithin_170 (lv_at hl 0 rfl) ?_
        refine r_ldiv C h dX0_oddsWithin_172 (fun h => ?_)
        cases h
        exact hR _ _ _ _ dX0_oddsWithin_173 hp
    · refine r_ldc2 (n := (-1)) C gw_1056 (by decide +kernel) dX0_oddsWithin_151 ?_
      cases h
      exact hR _ _ _ _ dX0_oddsWithin_154 hp
theorem c_X0_oddsWithin (l : Launch) {V : g_V} (hok : g_ok xG V) {a1 : Int} {a2 : Int} {a3 : Int} {M : g_M} {x : Int} {M2 : g_M} (h : m_X0_oddsWithin a1 a2 a3 M = some (x, M2)) : MetL xG V l yX0_oddsWithin cX0_oddsWithin 11 (some .long) 5 107 [.ref (V.2.2 67), .int (gI a1), .int (gI a2), .int (gI a3)] M x M2 :=
  g_metL hok cal_X0_oddsWithin.2.2.2 rfl (Nat.le_of_ble_eq_true rfl) (@fun p e R s m args below meth c Q ls C hR hp hl => b_X0_oddsWithin C hR h hp hl)
set_option maxRecDepth 100000 in
set_option maxHeartbeats 4000000 in
theorem w_X0_waysJust_L27 (C : g_CX xG V p R s m args meth c cX0_waysJust 8 (some .long) RX0 5 107) {res : Int × g_M} (hR : g_RetL xG V p l e R s m args below meth c Q cX0_waysJust res.1 res.2) (x27 : Int) (x28 : Int) (x29 : Int) (x30 : Int) (M33 : g_M) (k34 : Int → Option (Int × g_M)) (hk34 : ∀ (x37 : Int) (H : Heap) (locs : List Loc) (ls : Array Slot), k34 x37 = some res → g_PT xG V M33 s H locs → lv_has ls 8 [(0, .ref (V.2.2 67)), (1, .int (gI x27)), (2, .int (gI x28)), (3, .int (gI x29)), (4, .int (gI x30)), (5, .long (gJ x37))] → W p l e R s m args below meth c H locs 0 0 Q (F0 m 61 ls [])) : ∀ (f : Nat) (x31 : Int) (x32 : Int) (H : Heap) (locs : List Loc) (ls : Array Slot), m_X0_waysJust_L27 x27 x28 x29 x30 M33 k34 f x31 x32 = some res → g_PT xG V M33 s H locs → lv_has ls 8 [(0, .ref (V.2.2 67)), (1, .int (gI x27)), (2, .int (gI x28)), (3, .int (gI x29)), (4, .int (gI x30)), (5, .long (gJ x31)), (7, .int (gI x32))] → W p l e R s m args below meth c H locs 0 0 Q (F0 m 27 ls []) := by
  intro f
  induction f with
  | zero => intro x31 x32 H locs ls h hp hl; cases h
  | succ f ih =>
    intro x31 x32 H locs ls h hp hl
    rw [m_X0_waysJust_L27] at h
    refine lv_iload C.1 C.2.1 dX0_waysJust_27 (lv_at hl 6 rfl) ?_
    refine r_iconst C dX0_waysJust_29 ?_
    refine r_icmp_ge (tgt := 61) C h dX0_waysJust_30 (by decide) (fun h => ?_) (fun h => ?_)
    · exact hk34 _ _ _ _ h hp (lv_sub hl [0, 1, 2, 3, 4, 5] rfl)
    · refine lv_lload C.1 C.2.1 dX0_waysJust_33 (lv_at hl 5 rfl) ?_
      refine lv_aload_n C.1 C.2.1 dX0_waysJust_35 rfl (lv_at hl 0 rfl) ?_
      refine r_getr (t := 72) C hp xk_67 xs_67 xc_0 xin_0 (j := 5) (by decide) rfl gw_373 rfl dX0_waysJust_36 ?_
      refine lv_aload_n C.1 C.2.1 dX0_waysJust_39 rfl (lv_at hl 0 rfl) ?_
      refine r_getr (t := 68) C hp xk_67 xs_67 xc_0 xin_0 (j := 1) (by decide) rfl gw_369 rfl dX0_waysJust_40 ?_
      refine lv_iload C.1 C.2.1 dX0_waysJust_43 (lv_at hl 4 rfl) ?_
      refine r_iconst C dX0_waysJust_45 ?_
      refine r_imul C dX0_waysJust_46 ?_
      refine lv_iload C.1 C.2.1 dX0_waysJust_47 (lv_at hl 6 rfl) ?_
      refine r_iadd C dX0_waysJust_49 ?_
      refine r_iald C hp h xk_68 xs_68 dX0_waysJust_50 (fun h => ?_)
      refine r_lald C hp h xk_72 xs_72 dX0_waysJust_51 (fun h => ?_)
      refine r_ladd C dX0_waysJust_52 ?_
      refine r_lstore (lv' := fun x35 => [(5, .long (gJ x35)), (0, .ref (V.2.2 67)), (1, .int (gI x27)), (2, .int (gI x28)), (3, .int (gI x29)), (4, .int (gI x30)), (7, .int (gI x32))]) C h dX0_waysJust_53 hl (by decide) (fun _ => rfl) (fun x35 ls h hl => ?_)
      refine r_iinc (lv' := fun x36 => [(7, .int (gI x36)), (5, .long (gJ x35)), (0, .ref (V.2.2 67)), (1, .int (gI x27)), (2, .int (gI x28)), (3, .int (gI x29)), (4, .int (gI x30))]) C h dX0_waysJust_55 hl (j := 6) rfl (by decide) (fun _ => rfl) (fun x36 ls h hl => ?_)
      refine r_goto (tgt := 27) C dX0_waysJust_58 (by decide) ?_
      exact ih _ _ _ _ _ h hp (lv_sub hl [2, 3, 4, 5, 6, 1, 0] rfl)
set_option maxRecDepth 100000 in
set_option maxHeartbeats 4000000 in
theorem w_X0_waysJust_L14 (C : g_CX xG V p R s m args meth c cX0_waysJust 8 (some .long) RX0 5 107) {res : Int × g_M} (hR : g_RetL xG V p l e R s m args below meth c Q cX0_waysJust res.1 res.2) (x19 : Int) (x20 : Int) (x21 : Int) (k24 : g_M → Option (Int × g_M)) (hk24 : ∀ (M41 : g_M) (H : Heap) (locs : List Loc) (ls : Array Slot), k24 M41 = some res → g_PT xG V M41 s H locs → lv_has ls 8 [(0, .ref (V.2.2 67)), (1, .int (gI x19)), (2, .int (gI x20)), (3, .int (gI x21))] → W p l e R s m args below meth c H locs 0 0 Q (F0 m 76 ls [])) : ∀ (f : Nat) (x22 : Int) (M23 : g_M) (H : Heap) (locs : List Loc) (ls : Array Slot), m_X0_waysJust_L14 x19 x20 x21 k24 f x22 M23 = some res → g_PT xG V M23 s H locs → lv_has ls 8 [(0, .ref (V.2.2 67)), (1, .int (gI x19)), (2, .int (gI x20)), (3, .int (gI x21)), (4, .int (gI x22))] → W p l e R s m args below meth c H locs 0 0 Q (F0 m 14 ls []) := by
  intro f
  induction f with
  | zero => intro x22 M23 H locs ls h hp hl; cases h
  | succ f ih =>
    intro x22 M23 H locs ls h hp hl
    rw [m_X0_waysJust_L14] at h
    refine lv_iload C.1 C.2.1 dX0_waysJust_14 (lv_at hl 4 rfl) ?_
    refine r_bipush C dX0_waysJust_16 (by decide +kernel) ?_
    refine r_icmp_ge (tgt := 76) C h dX0_waysJust_18 (by decide) (fun h => ?_) (fun h => ?_)
    · exact hk24 _ _ _ _ h hp (lv_sub hl [0, 1, 2, 3] rfl)
    · refine r_lconst (z := 0) C dX0_waysJust_21 rfl ?_
      refine r_lstore (lv' := fun x25 => [(5, .long (gJ x25)), (0, .ref (V.2.2 67)), (1, .int (gI x19)), (2, .int (gI x20)), (3, .int (gI x21)), (4, .int (gI x22))]) C h dX0_waysJust_22 hl (by decide) (fun _ => rfl) (fun x25 ls h hl => ?_)
      refine r_iconst C dX0_waysJust_24 ?_
      refine r_istore (lv' := fun x26 => [(7, .int (gI x26)), (5, .long (gJ x25)), (0, .ref (V.2.2 67)), (1, .int (gI x19)), (2, .int (gI x20)), (3, .int (gI x21)), (4, .int (gI x22))]) C h dX0_waysJust_25 hl (by decide) (fun _ => rfl) (fun x26 ls h hl => ?_)
      refine w_X0_waysJust_L27 C hR _ _ _ _ _ _ ?_ _ _ _ H locs ls h hp (lv_sub hl [2, 3, 4, 5, 6, 1, 0] rfl)
      · intro x38 H locs ls h hp hl
        refine lv_aload_n C.1 C.2.1 dX0_waysJust_61 rfl (lv_at hl 0 rfl) ?_
        refine r_getr (t := 73) C hp xk_67 xs_67 xc_0 xin_0 (j := 6) (by decide) rfl gw_374 rfl dX0_waysJust_62 ?_
        refine lv_iload C.1 C.2.1 dX0_waysJust_65 (lv_at hl 4 rfl) ?_
        refine lv_lload C.1 C.2.1 dX0_waysJust_67 (lv_at hl 5 rfl) ?_
        refine r_last C hp h xk_73 xs_73 dX0_waysJust_69 (fun M39 H locs h hp => ?_)
        refine r_iinc (lv' := fun x40 => [(4, .int (gI x40)), (0, .ref (V.2.2 67)), (1, .int (gI x19)), (2, .int (gI x20)), (3, .int (gI x21)), (5, .long (gJ x38))]) C h dX0_waysJust_70 hl (j := 4) rfl (by decide) (fun _ => rfl) (fun x40 ls h hl => ?_)
        refine r_goto (tgt := 14) C dX0_waysJust_73 (by decide) ?_
        exact ih _ _ _ _ _ h hp (lv_sub hl [1, 2, 3, 4, 0] rfl)
set_option maxRecDepth 100000 in
set_option maxHeartbeats 4000000 in
theorem w_X0_waysJust_L6 (C : g_CX xG V p R s m args meth c cX0_waysJust 8 (some .long) RX0 5 107) {res : Int × g_M} (hR : g_RetL xG V p l e R s m args below meth c Q cX0_waysJust res.1 res.2) (x13 : Int) (x14 : Int) (k17 : g_M → Option (Int × g_M)) (hk17 : ∀ (M46 : g_M) (H : Heap) (locs : List Loc) (ls : Array Slot), k17 M46 = some res → g_PT xG V M46 s H locs → lv_has ls 8 [(0, .ref (V.2.2 67)), (1, .int (gI x13))] → W p l e R s m args below meth c H locs 0 0 Q (F0 m 105 ls [])) : ∀ (f : Nat) (x15 : Int) (M16 : g_M) (H : Heap) (locs : List Loc) (ls : Array Slot), m_X0_waysJust_L6 x13 x14 k17 f x15 M16 = some res → g_PT xG V M16 s H locs → lv_has ls 8 [(0, .ref (V.2.2 67)), (1, .int (gI x13)), (2, .int (gI x14)), (3, .int (gI x15))] → W p l e R s m args below meth c H locs 0 0 Q (F0 m 6 ls []) := by
  intro f
  induction f with
  | zero => intro x15 M16 H locs ls h hp hl; cases h
  | succ f ih =>
    intro x15 M16 H locs ls h hp hl
    rw [m_X0_waysJust_L6] at h
    refine lv_iload_n C.1 C.2.1 dX0_waysJust_6 rfl (lv_at hl 3 rfl) ?_
    refine lv_iload_n C.1 C.2.1 dX0_waysJust_7 rfl (lv_at hl 2 rfl) ?_
    refine r_icmp_ge (tgt := 105) C h dX0_waysJust_8 (by decide) (fun h => ?_) (fun h => ?_)
    · exact hk17 _ _ _ _ h hp (lv_sub hl [0, 1] rfl)
    · refine r_iconst C dX0_waysJust_11 ?_
      refine r_istore (lv' := fun x18 => [(4, .int (gI x18)), (0, .ref (V.2.2 67)), (1, .int (gI x13)), (2, .int (gI x14)), (3, .int (gI x15))]) C h dX0_waysJust_12 hl (by decide) (fun _ => rfl) (fun x18 ls h hl => ?_)
      refine w_X0_waysJust_L14 C hR _ _ _ _ ?_ _ _ _ H locs ls h hp (lv_sub hl [1, 2, 3, 4, 0] rfl)
      · intro M42 H locs ls h hp hl
        refine lv_aload_n C.1 C.2.1 dX0_waysJust_76 rfl (lv_at hl 0 rfl) ?_
        refine r_getr (t := 73) C hp xk_67 xs_67 xc_0 xin_0 (j := 6) (by decide) rfl gw_374 rfl dX0_waysJust_77 ?_
        refine r_bipush C dX0_waysJust_80 (by decide +kernel) ?_
        refine r_lconst (z := 0) C dX0_waysJust_82 rfl ?_
        refine r_last C hp h xk_73 xs_73 dX0_waysJust_83 (fun M43 H locs h hp => ?_)
        refine lv_aload_n C.1 C.2.1 dX0_waysJust_84 rfl (lv_at hl 0 rfl) ?_
        refine r_getr (t := 73) C hp xk_67 xs_67 xc_0 xin_0 (j := 6) (by decide) rfl gw_374 rfl dX0_waysJust_85 ?_
        refine r_iconst C dX0_waysJust_88 ?_
        refine lv_aload_n C.1 C.2.1 dX0_waysJust_89 rfl (lv_at hl 0 rfl) ?_
        refine r_getr (t := 72) C hp xk_67 xs_67 xc_0 xin_0 (j := 5) (by decide) rfl gw_373 rfl dX0_waysJust_90 ?_
        refine r_iconst C dX0_waysJust_93 ?_
        refine r_bipush C dX0_waysJust_94 (by decide +kernel) ?_
        refine r_copyl C hl.1 hp h xk_73 xs_73 xk_72 xs_72 gw_1052 gw_746 gw_745 gw_128 (Nat.le_of_ble_eq_true rfl) (Nat.le_of_ble_eq_true rfl) dX0_waysJust_96 (fun M44 H locs h hp => ?_)
        refine r_iinc (lv' := fun x45 => [(3, .int (gI x45)), (0, .ref (V.2.2 67)), (1, .int (gI x13)), (2, .int (gI x14))]) C h dX0_waysJust_99 hl (j := 3) rfl (by decide) (fun _ => rfl) (fun x45 ls h hl => ?_)
        refine r_goto (tgt := 6) C dX0_waysJust_102 (by decide) ?_
        exact ih _ _ _ _ _ h hp (lv_sub hl [1, 2, 3, 0] rfl)
set_option maxRecDepth 100000 in
set_option maxHeartbeats 4000000 in
theorem b_X0_waysJust (C : g_CX xG V p R s m args meth c cX0_waysJust 8 (some .long) RX0 5 107) {res : Int × g_M} (hR : g_RetL xG V p l e R s m args below meth c Q cX0_waysJust res.1 res.2) {a1 : Int} {a2 : Int} {M : g_M} {H : Heap} {locs : List Loc} {ls : Array Slot} (h : m_X0_waysJust a1 a2 M = some res) (hp : g_PT xG V M s H locs) (hl : lv_has ls 8 [(0, .ref (V.2.2 67)), (1, .int (gI a1)), (2, .int (gI a2))]) : W p l e R s m args below meth c H locs 0 0 Q (F0 m 0 ls []) := by
  unfold m_X0_waysJust at h
  refine lv_aload_n C.1 C.2.1 dX0_waysJust_0 rfl (lv_at hl 0 rfl) ?_
  obtain ⟨M11, hr, h⟩ := bd_of h
  refine r_callVV (As := []) (rest := []) C hl.1 hp (c_X0_countFromEnd l C.2.2.2.2.2.2.2.2.2.2.2 hr) gw_1047 gw_1049 gw_33 xk_67 xs_67 xc_0 cal_X0_countFromEnd rfl rfl (Nat.le_of_ble_eq_true rfl) ⟨Nat.le_of_ble_eq_true rfl, Nat.le_of_ble_eq_true rfl⟩ dX0_waysJust_1 (fun H locs hp => ?_)
  refine r_iconst C dX0_waysJust_4 ?_
  refine r_istore_n (lv' := fun x12 => [(3, .int (gI x12)), (0, .ref (V.2.2 67)), (1, .int (gI a1)), (2, .int (gI a2))]) C h dX0_waysJust_5 rfl hl (by decide) (fun _ => rfl) (fun x12 ls h hl => ?_)
  refine w_X0_waysJust_L6 C hR _ _ _ ?_ _ _ _ H locs ls h hp (lv_sub hl [1, 2, 3, 0] rfl)
  · intro M47 H locs ls h hp hl
    refine lv_aload_n C.1 C.2.1 dX0_waysJust_105 rfl (lv_at hl 0 rfl) ?_
    refine r_getr (t := 72) C hp xk_67 xs_67 xc_0 xin_0 (j := 5) (by decide) rfl gw_373 rfl dX0_waysJust_106 ?_
    refine lv_iload_n C.1 C.2.1 dX0_waysJust_109 rfl (lv_at hl 1 rfl) ?_
    refine r_lald C hp h xk_72 xs_72 dX0_waysJust_110 (fun h => ?_)
    cases h
    exact hR _ _ _ _ dX0_waysJust_111 hp
theorem c_X0_waysJust (l : Launch) {V : g_V} (hok : g_ok xG V) {a1 : Int} {a2 : Int} {M : g_M} {x : Int} {M2 : g_M} (h : m_X0_waysJust a1 a2 M = some (x, M2)) : MetL xG V l yX0_waysJust cX0_waysJust 8 (some .long) 5 107 [.ref (V.2.2 67), .int (gI a1), .int (gI a2)] M x M2 :=
  g_metL hok cal_X0_waysJust.2.2.2 rfl (Nat.le_of_ble_eq_true rfl) (@fun p e R s m args below meth c Q ls C hR hp hl => b_X0_waysJust C hR h hp hl)
set_option maxRecDepth 100000 in
set_option maxHeartbeats 4000000 in
theorem w_X0_sortByKind_L6 (C : g_CX xG V p R s m args meth c cX0_sortByKind 2 none RX0 4 86) {res : g_M} (hR : g_RetV xG V p l e R s m args below meth c Q cX0_sortByKind res)  (k15 : g_M → Option (g_M)) (hk15 : ∀ (M18 : g_M) (H : Heap) (locs : List Loc) (ls : Array Slot), k15 M18 = some res → g_PT xG V M18 s H locs → lv_has ls 2 [(0, .ref (V.2.2 67))] → W p l e R s m args below meth c H locs 0 0 Q (F0 m 33 ls [])) : ∀ (f : Nat) (x13 : Int) (M14 : g_M) (H : Heap) (locs : List Loc) (ls : Array Slot), m_X0_sortByKind_L6 k15 f x13 M14 = some res → g_PT xG V M14 s H locs → lv_has ls 2 [(0, .ref (V.2.2 67)), (1, .int (gI x13))] → W p l e R s m args below meth c H locs 0 0 Q (F0 m 6 ls []) := by
  intro f
  induction f with
  | zero => intro x13 M14 H locs ls h hp hl; cases h
  | succ f ih =>
    intro x13 M14 H locs ls h hp hl
    rw [m_X0_sortByKind_L6] at h
    refine lv_iload_n C.1 C.2.1 dX0_sortByKind_6 rfl (lv_at hl 1 rfl) ?_
    refine r_bipush C dX0_sortByKind_7 (by decide +kernel) ?_
    refine r_icmp_ge (tgt := 33) C h dX0_sortByKind_9 (by decide) (fun h => ?_) (fun h => ?_)
    · exact hk15 _ _ _ _ h hp (lv_sub hl [0] rfl)
    · refine lv_aload_n C.1 C.2.1 dX0_sortByKind_12 rfl (lv_at hl 0 rfl) ?_
      refine r_getr (t := 74) C hp xk_67 xs_67 xc_0 xin_0 (j := 7) (by decide) rfl gw_375 rfl dX0_sortByKind_13 ?_
      refine lv_iload_n C.1 C.2.1 dX0_sortByKind_16 rfl (lv_at hl 1 rfl) ?_
      refine lv_aload_n C.1 C.2.1 dX0_sortByKind_17 rfl (lv_at hl 0 rfl) ?_
      refine r_getr (t := 1) C hp xk_67 xs_67 xc_0 xin_0 (j := 0) (by decide) rfl gw_368 rfl dX0_sortByKind_18 ?_
      refine r_getr (t := 5) C hp xk_1 xs_1 xc_1 xin_1 (j := 5) (by decide) rfl gw_160 rfl dX0_sortByKind_21 ?_
      refine lv_iload_n C.1 C.2.1 dX0_sortByKind_24 rfl (lv_at hl 1 rfl) ?_
      refine r_iald C hp h xk_5 xs_5 dX0_sortByKind_25 (fun h => ?_)
      refine r_iast C hp h xk_74 xs_74 dX0_sortByKind_26 (fun M16 H locs h hp => ?_)
      refine r_iinc (lv' := fun x17 => [(1, .int (gI x17)), (0, .ref (V.2.2 67))]) C h dX0_sortByKind_27 hl (j := 1) rfl (by decide) (fun _ => rfl) (fun x17 ls h hl => ?_)
      refine r_goto (tgt := 6) C dX0_sortByKind_30 (by decide) ?_
      exact ih _ _ _ _ _ h hp (lv_sub hl [1, 0] rfl)
set_option maxRecDepth 100000 in
set_option maxHeartbeats 4000000 in
theorem b_X0_sortByKind (C : g_CX xG V p R s m args meth c cX0_sortByKind 2 none RX0 4 86) {res : g_M} (hR : g_RetV xG V p l e R s m args below meth c Q cX0_sortByKind res)  {M : g_M} {H : Heap} {locs : List Loc} {ls : Array Slot} (h : m_X0_sortByKind M = some res) (hp : g_PT xG V M s H locs) (hl : lv_has ls 2 [(0, .ref (V.2.2 67))]) : W p l e R s m args below meth c H locs 0 0 Q (F0 m 0 ls []) := by
  unfold m_X0_sortByKind at h
  refine lv_aload_n C.1 C.2.1 dX0_sortByKind_0 rfl (lv_at hl 0 rfl) ?_
  obtain ⟨M11, hr, h⟩ := bd_of h
  refine r_callVV (As := []) (rest := []) C hl.1 hp (c_X0_survey l C.2.2.2.2.2.2.2.2.2.2.2 hr) gw_1004 gw_1006 gw_29 xk_67 xs_67 xc_0 cal_X0_survey rfl rfl (Nat.le_of_ble_eq_true rfl) ⟨Nat.le_of_ble_eq_true rfl, Nat.le_of_ble_eq_true rfl⟩ dX0_sortByKind_1 (fun H locs hp => ?_)
  refine r_iconst C dX0_sortByKind_4 ?_
  refine r_istore_n (lv' := fun x12 => [(1, .int (gI x12)), (0, .ref (V.2.2 67))]) C h dX0_sortByKind_5 rfl hl (by decide) (fun _ => rfl) (fun x12 ls h hl => ?_)
  refine w_X0_sortByKind_L6 C hR _ ?_ _ _ _ H locs ls h hp (lv_sub hl [1, 0] rfl)
  · intro M19 H locs ls h hp hl
    refine lv_aload_n C.1 C.2.1 dX0_sortByKind_33 rfl (lv_at hl 0 rfl) ?_
    refine r_getr (t := 74) C hp xk_67 xs_67 xc_0 xin_0 (j := 7) (by decide) rfl gw_375 rfl dX0_sortByKind_34 ?_
    refine r_bipush C dX0_sortByKind_37 (by decide +kernel) ?_
    refine r_iconst C dX0_sortByKind_39 ?_
    refine r_iast C hp h xk_74 xs_74 dX0_sortByKind_40 (fun M20 H locs h hp => ?_)
    cases h
    exact hR _ _ _ _ dX0_sortByKind_41 hp
theorem c_X0_sortByKind (l : Launch) {V : g_V} (hok : g_ok xG V)  {M : g_M} {res : g_M} (h : m_X0_sortByKind M = some res) : MetV xG V l yX0_sortByKind cX0_sortByKind 2 none 4 86 [.ref (V.2.2 67)] M res :=
  g_metV hok cal_X0_sortByKind.2.2.2 rfl (Nat.le_of_ble_eq_true rfl) (@fun p e R s m args below meth c Q ls C hR hp hl => b_X0_sortByKind C hR h hp hl)
set_option maxRecDepth 100000 in
set_option maxHeartbeats 4000000 in
theorem w_X0_isAlike_L24 (C : g_CX xG V p R s m args meth c cX0_isAlike 5 (some .boolean) RX0 0 0) {res : Int} {M19 : g_M} (hR : g_RetI xG V p l e R s m args below meth c Q cX0_isAlike .boolean res M19) (x15 : Int) (x16 : Int)   : ∀ (f : Nat) (x17 : Int) (x18 : Int) (H : Heap) (locs : List Loc) (ls : Array Slot), m_X0_isAlike_L24 x15 x16 M19  f x17 x18 = some res → g_PT xG V M19 s H locs → lv_has ls 5 [(0, .ref (V.2.2 67)), (1, .int (gI x15)), (2, .int (gI x16)), (3, .int (gI x17)), (4, .int (gI x18))] → W p l e R s m args below meth c H locs 0 0 Q (F0 m 24 ls []) := by
  intro f
  induction f with
  | zero => intro x17 x18 H locs ls h hp hl; cases h
  | succ f ih =>
    intro x17 x18 H locs ls h hp hl
    rw [m_X0_isAlike_L24] at h
    refine lv_iload C.1 C.2.1 dX0_isAlike_24 (lv_at hl 4 rfl) ?_
    refine r_iconst C dX0_isAlike_26 ?_
    refine r_icmp_ge (tgt := 81) C h dX0_isAlike_27 (by decide) (fun h => ?_) (fun h => ?_)
    · refine lv_iload_n C.1 C.2.1 dX0_isAlike_81 rfl (lv_at hl 3 rfl) ?_
      obtain ⟨hg, h⟩ := gd_of h
      cases h
      exact hR _ _ _ _ dX0_isAlike_82 (g_nzg hg) hp
    · refine lv_iload_n C.1 C.2.1 dX0_isAlike_30 rfl (lv_at hl 3 rfl) ?_
      refine r_if_eq (tgt := 81) C h dX0_isAlike_31 (by decide) (fun h => ?_) (fun h => ?_)
      · refine lv_iload_n C.1 C.2.1 dX0_isAlike_81 rfl (lv_at hl 3 rfl) ?_
        obtain ⟨hg, h⟩ := gd_of h
        cases h
        exact hR _ _ _ _ dX0_isAlike_82 (g_nzg hg) hp
      · refine r_jn (P := fun J => ∀ (x21 : Int) (H : Heap) (locs : List Loc) (ls : Array Slot), J x21 = some res → g_PT xG V M19 s H locs → lv_has ls 5 [(0, .ref (V.2.2 67)), (1, .int (gI x15)), (2, .int (gI x16)), (4, .int (gI x18))] → W p l e R s m args below meth c H locs 0 0 Q (F0 m 74 ls [.int (gI x21)])) h ?_ (fun J20 hJ20 h => ?_)
        · intro x21 H locs ls h hp hl
          refine r_istore_n (lv' := fun x22 => [(3, .int (gI x22)), (0, .ref (V.2.2 67)), (1, .int (gI x15)), (2, .int (gI x16)), (4, .int (gI x18))]) C h dX0_isAlike_74 rfl hl (by decide) (fun _ => rfl) (fun x22 ls h hl => ?_)
          refine r_iinc (lv' := fun x23 => [(4, .int (gI x23)), (3, .int (gI x22)), (0, .ref (V.2.2 67)), (1, .int (gI x15)), (2, .int (gI x16))]) C h dX0_isAlike_75 hl (j := 4) rfl (by decide) (fun _ => rfl) (fun x23 ls h hl => ?_)
          refine r_goto (tgt := 24) C dX0_isAlike_78 (by decide) ?_
          exact ih _ _ _ _ _ h hp (lv_sub hl [2, 3, 4, 1, 0] rfl)
        refine lv_aload_n C.1 C.2.1 dX0_isAlike_34 rfl (lv_at hl 0 rfl) ?_
        refine r_getr (t := 74) C hp xk_67 xs_67 xc_0 xin_0 (j := 7) (by decide) rfl gw_375 rfl dX0_isAlike_35 ?_
        refine lv_aload_n C.1 C.2.1 dX0_isAlike_38 rfl (lv_at hl 0 rfl) ?_
        refine r_getr (t := 68) C hp xk_67 xs_67 xc_0 xin_0 (j := 1) (by decide) rfl gw_369 rfl dX0_isAlike_39 ?_
        refine lv_iload_n C.1 C.2.1 dX0_isAlike_42 rfl (lv_at hl 1 rfl) ?_
        refine r_iconst C dX0_isAlike_43 ?_
        refine r_imul C dX0_isAlike_44 ?_
        refine lv_iload C.1 C.2.1 dX0_isAlike_45 (lv_at hl 4 rfl) ?_
        refine r_iadd C dX0_isAlike_47 ?_
        refine r_iald C hp h xk_68 xs_68 dX0_isAlike_48 (fun h => ?_)
        refine r_iald C hp h xk_74 xs_74 dX0_isAlike_49 (fun h => ?_)
        refine lv_aload_n C.1 C.2.1 dX0_isAlike_50 rfl (lv_at hl 0 rfl) ?_
        refine r_getr (t := 74) C hp xk_67 xs_67 xc_0 xin_0 (j := 7) (by decide) rfl gw_375 rfl dX0_isAlike_51 ?_
        refine lv_aload_n C.1 C.2.1 dX0_isAlike_54 rfl (lv_at hl 0 rfl) ?_
        refine r_getr (t := 68) C hp xk_67 xs_67 xc_0 xin_0 (j := 1) (by decide) rfl gw_369 rfl dX0_isAlike_55 ?_
        refine lv_iload_n C.1 C.2.1 dX0_isAlike_58 rfl (lv_at hl 2 rfl) ?_
        refine r_iconst C dX0_isAlike_59 ?_
        refine r_imul C dX0_isAlike_60 ?_
        refine lv_iload C.1 C.2.1 dX0_isAlike_61 (lv_at hl 4 rfl) ?_
        refine r_iadd C dX0_isAlike_63 ?_
        refine r_iald C hp h xk_68 xs_68 dX0_isAlike_64 (fun h => ?_)
        refine r_iald C hp h xk_74 xs_74 dX0_isAlike_65 (fun h => ?_)
        refine r_icmp_ne (tgt := 73) C h dX0_isAlike_66 (by decide) (fun h => ?_) (fun h => ?_)
        · refine r_iconst C dX0_isAlike_73 ?_
          exact hJ20 _ _ _ _ h hp (lv_sub hl [0, 1, 2, 4] rfl)
        · refine r_iconst C dX0_isAlike_69 ?_
          refine r_goto (tgt := 74) C dX0_isAlike_70 (by decide) ?_
          exact hJ20 _ _ _ _ h hp (lv_sub hl [0, 1, 2, 4] rfl)
set_option maxRecDepth 100000 in
set_option maxHeartbeats 4000000 in
theorem b_X0_isAlike (C : g_CX xG V p R s m args meth c cX0_isAlike 5 (some .boolean) RX0 0 0) {res : Int} {M : g_M} (hR : g_RetI xG V p l e R s m args below meth c Q cX0_isAlike .boolean res M) {a1 : Int} {a2 : Int} {H : Heap} {locs : List Loc} {ls : Array Slot} (h : m_X0_isAlike a1 a2 M = some res) (hp : g_PT xG V M s H locs) (hl : lv_has ls 5 [(0, .ref (V.2.2 67)), (1, .int (gI a1)), (2, .int (gI a2))]) : W p l e R s m args below meth c H locs 0 0 Q (F0 m 0 ls []) := by
  unfold m_X0_isAlike at h
  refine r_jn (P := fun J => ∀ (x12 : Int) (H : Heap) (locs : List Loc) (ls : Array Slot), J x12 = some res → g_PT xG V M s H locs → lv_has ls 5 [(0, .ref (V.2.2 67)), (1, .int (gI a1)), (2, .int (gI a2))] → W p l e R s m args below meth c H locs 0 0 Q (F0 m 20 ls [.int (gI x12)])) h ?_ (fun J11 hJ11 h => ?_)
  · intro x12 H locs ls h hp hl
    refine r_istore_n (lv' := fun x13 => [(3, .int (gI x13)), (0, .ref (V.2.2 67)), (1, .int (gI a1)), (2, .int (gI a2))]) C h dX0_isAlike_20 rfl hl (by decide) (fun _ => rfl) (fun x13 ls h hl => ?_)
    refine r_iconst C dX0_isAlike_21 ?_
    refine r_istore (lv' := fun x14 => [(4, .int (gI x14)), (3, .int (gI x13)), (0, .ref (V.2.2 67)), (1, .int (gI a1)), (2, .int (gI a2))]) C h dX0_isAlike_22 hl (by decide) (fun _ => rfl) (fun x14 ls h hl => ?_)
    refine w_X0_isAlike_L24 C hR _ _ _ _ _ H locs ls h hp (lv_sub hl [2, 3, 4, 1, 0] rfl)
  refine lv_aload_n C.1 C.2.1 dX0_isAlike_0 rfl (lv_at hl 0 rfl) ?_
  refine r_getr (t := 74) C hp xk_67 xs_67 xc_0 xin_0 (j := 7) (by decide) rfl gw_375 rfl dX0_isAlike_1 ?_
  refine lv_iload_n C.1 C.2.1 dX0_isAlike_4 rfl (lv_at hl 1 rfl) ?_
  refine r_iald C hp h xk_74 xs_74 dX0_isAlike_5 (fun h => ?_)
  refine lv_aload_n C.1 C.2.1 dX0_isAlike_6 rfl (lv_at hl 0 rfl) ?_
  refine r_getr (t := 74) C hp xk_67 xs_67 xc_0 xin_0 (j := 7) (by decide) rfl gw_375 rfl dX0_isAlike_7 ?_
  refine lv_iload_n C.1 C.2.1 dX0_isAlike_10 rfl (lv_at hl 2 rfl) ?_
  refine r_iald C hp h xk_74 xs_74 dX0_isAlike_11 (fun h => ?_)
  refine r_icmp_ne (tgt := 19) C h dX0_isAlike_12 (by decide) (fun h => ?_) (fun h => ?_)
  · refine r_iconst C dX0_isAlike_19 ?_
    exact hJ11 _ _ _ _ h hp hl
  · refine r_iconst C dX0_isAlike_15 ?_
    refine r_goto (tgt := 20) C dX0_isAlike_16 (by decide) ?_
    exact hJ11 _ _ _ _ h hp hl
theorem c_X0_isAlike (l : Launch) {V : g_V} (hok : g_ok xG V) {a1 : Int} {a2 : Int} {M : g_M} {x : Int} (h : m_X0_isAlike a1 a2 M = some x) : MetI xG V l yX0_isAlike cX0_isAlike 5 (some .boolean) 0 0 [.ref (V.2.2 67), .int (gI a1), .int (gI a2)] M x M :=
  g_metI hok cal_X0_isAlike.2.2.2 rfl (Nat.le_of_ble_eq_true rfl) (@fun p e R s m args below meth c Q ls C hR hp hl => b_X0_isAlike C hR h hp hl)
set_option maxRecDepth 100000 in
set_option maxHeartbeats 4000000 in
theorem w_X0_partFiner_L12 (C : g_CX xG V p R s m args meth c cX0_partFiner 4 (some .int) RX0 1 40) {res : Int × g_M} (hR : g_RetI xG V p l e R s m args below meth c Q cX0_partFiner .int res.1 res.2) (x18 : Int) (x19 : Int) (M21 : g_M) (k22 : Int → Option (Int × g_M)) (hk22 : ∀ (x25 : Int) (H : Heap) (locs : List Loc) (ls : Array Slot), k22 x25 = some res → g_PT xG V M21 s H locs → lv_has ls 4 [(0, .ref (V.2.2 67)), (1, .int (gI x18)), (2, .int (gI x19)), (3, .int (gI x25))] → W p l e R s m args below meth c H locs 0 0 Q (F0 m 32 ls [])) : ∀ (f : Nat) (x20 : Int) (H : Heap) (locs : List Loc) (ls : Array Slot), m_X0_partFiner_L12 x18 x19 M21 k22 f x20 = some res → g_PT xG V M21 s H locs → lv_has ls 4 [(0, .ref (V.2.2 67)), (1, .int (gI x18)), (2, .int (gI x19)), (3, .int (gI x20))] → W p l e R s m args below meth c H locs 0 0 Q (F0 m 12 ls []) := by
  intro f
  induction f with
  | zero => intro x20 H locs ls h hp hl; cases h
  | succ f ih =>
    intro x20 H locs ls h hp hl
    rw [m_X0_partFiner_L12] at h
    refine lv_iload_n C.1 C.2.1 dX0_partFiner_12 rfl (lv_at hl 3 rfl) ?_
    refine lv_iload_n C.1 C.2.1 dX0_partFiner_13 rfl (lv_at hl 2 rfl) ?_
    refine r_icmp_ge (tgt := 32) C h dX0_partFiner_14 (by decide) (fun h => ?_) (fun h => ?_)
    · exact hk22 _ _ _ _ h hp hl
    · refine lv_aload_n C.1 C.2.1 dX0_partFiner_17 rfl (lv_at hl 0 rfl) ?_
      refine lv_iload_n C.1 C.2.1 dX0_partFiner_18 rfl (lv_at hl 2 rfl) ?_
      refine lv_iload_n C.1 C.2.1 dX0_partFiner_19 rfl (lv_at hl 3 rfl) ?_
      obtain ⟨x23, hr, h⟩ := bd_of h
      refine r_callVI (As := [.int (gI x19), .int (gI x20)]) (rest := []) C hl.1 hp (c_X0_isAlike l C.2.2.2.2.2.2.2.2.2.2.2 hr) gw_1078 gw_1080 gw_36 xk_67 xs_67 xc_0 cal_X0_isAlike rfl rfl (Nat.le_of_ble_eq_true rfl) ⟨Nat.le_of_ble_eq_true rfl, Nat.le_of_ble_eq_true rfl⟩ dX0_partFiner_20 (fun H locs hp => ?_)
      refine r_if_ne (tgt := 32) C h dX0_partFiner_23 (by decide) (fun h => ?_) (fun h => ?_)
      · exact hk22 _ _ _ _ h hp hl
      · refine r_iinc (lv' := fun x24 => [(3, .int (gI x24)), (0, .ref (V.2.2 67)), (1, .int (gI x18)), (2, .int (gI x19))]) C h dX0_partFiner_26 hl (j := 3) rfl (by decide) (fun _ => rfl) (fun x24 ls h hl => ?_)
        refine r_goto (tgt := 12) C dX0_partFiner_29 (by decide) ?_
        exact ih _ _ _ _ h hp (lv_sub hl [1, 2, 3, 0] rfl)
set_option maxRecDepth 100000 in
set_option maxHeartbeats 4000000 in
theorem w_X0_partFiner_L4 (C : g_CX xG V p R s m args meth c cX0_partFiner 4 (some .int) RX0 1 40) {res : Int × g_M} (hR : g_RetI xG V p l e R s m args below meth c Q cX0_partFiner .int res.1 res.2)  (k16 : Int → g_M → Option (Int × g_M)) (hk16 : ∀ (x34 : Int) (M35 : g_M) (H : Heap) (locs : List Loc) (ls : Array Slot), k16 x34 M35 = some res → g_PT xG V M35 s H locs → lv_has ls 4 [(0, .ref (V.2.2 67)), (1, .int (gI x34))] → W p l e R s m args below meth c H locs 0 0 Q (F0 m 68 ls [])) : ∀ (f : Nat) (x13 : Int) (x14 : Int) (M15 : g_M) (H : Heap) (locs : List Loc) (ls : Array Slot), m_X0_partFiner_L4 k16 f x13 x14 M15 = some res → g_PT xG V M15 s H locs → lv_has ls 4 [(0, .ref (V.2.2 67)), (1, .int (gI x13)), (2, .int (gI x14))] → W p l e R s m args below meth c H locs 0 0 Q (F0 m 4 ls []) := by
  intro f
  induction f with
  | zero => intro x13 x14 M15 H locs ls h hp hl; cases h
  | succ f ih =>
    intro x13 x14 M15 H locs ls h hp hl
    rw [m_X0_partFiner_L4] at h
    refine lv_iload_n C.1 C.2.1 dX0_partFiner_4 rfl (lv_at hl 2 rfl) ?_
    refine r_bipush C dX0_partFiner_5 (by decide +kernel) ?_
    refine r_icmp_ge (tgt := 68) C h dX0_partFiner_7 (by decide) (fun h => ?_) (fun h => ?_)
    · exact hk16 _ _ _ _ _ h hp (lv_sub hl [0, 1] rfl)
    · refine r_iconst C dX0_partFiner_10 ?_
      refine r_istore_n (lv' := fun x17 => [(3, .int (gI x17)), (0, .ref (V.2.2 67)), (1, .int (gI x13)), (2, .int (gI x14))]) C h dX0_partFiner_11 rfl hl (by decide) (fun _ => rfl) (fun x17 ls h hl => ?_)
      refine w_X0_partFiner_L12 C hR _ _ _ _ ?_ _ _ H locs ls h hp (lv_sub hl [1, 2, 3, 0] rfl)
      · intro x26 H locs ls h hp hl
        refine r_jn (P := fun J => ∀ (x31 : Int) (M32 : g_M) (H : Heap) (locs : List Loc) (ls : Array Slot), J x31 M32 = some res → g_PT xG V M32 s H locs → lv_has ls 4 [(0, .ref (V.2.2 67)), (1, .int (gI x31)), (2, .int (gI x14))] → W p l e R s m args below meth c H locs 0 0 Q (F0 m 62 ls [])) h ?_ (fun J27 hJ27 h => ?_)
        · intro x31 M32 H locs ls h hp hl
          refine r_iinc (lv' := fun x33 => [(2, .int (gI x33)), (0, .ref (V.2.2 67)), (1, .int (gI x31))]) C h dX0_partFiner_62 hl (j := 2) rfl (by decide) (fun _ => rfl) (fun x33 ls h hl => ?_)
          refine r_goto (tgt := 4) C dX0_partFiner_65 (by decide) ?_
          exact ih _ _ _ _ _ _ h hp (lv_sub hl [1, 2, 0] rfl)
        refine lv_iload_n C.1 C.2.1 dX0_partFiner_32 rfl (lv_at hl 3 rfl) ?_
        refine lv_iload_n C.1 C.2.1 dX0_partFiner_33 rfl (lv_at hl 2 rfl) ?_
        refine r_icmp_ge (tgt := 52) C h dX0_partFiner_34 (by decide) (fun h => ?_) (fun h => ?_)
        · refine lv_aload_n C.1 C.2.1 dX0_partFiner_52 rfl (lv_at hl 0 rfl) ?_
          refine r_getr (t := 75) C hp xk_67 xs_67 xc_0 xin_0 (j := 8) (by decide) rfl gw_377 rfl dX0_partFiner_53 ?_
          refine lv_iload_n C.1 C.2.1 dX0_partFiner_56 rfl (lv_at hl 2 rfl) ?_
          refine lv_iload_n C.1 C.2.1 dX0_partFiner_57 rfl (lv_at hl 1 rfl) ?_
          refine r_iast C hp h xk_75 xs_75 dX0_partFiner_58 (fun M28 H locs h hp => ?_)
          refine r_iinc (lv' := fun x29 => [(1, .int (gI x29)), (0, .ref (V.2.2 67)), (2, .int (gI x14)), (3, .int (gI x26))]) C h dX0_partFiner_59 hl (j := 1) rfl (by decide) (fun _ => rfl) (fun x29 ls h hl => ?_)
          exact hJ27 _ _ _ _ _ h hp (lv_sub hl [1, 0, 2] rfl)
        · refine lv_aload_n C.1 C.2.1 dX0_partFiner_37 rfl (lv_at hl 0 rfl) ?_
          refine r_getr (t := 75) C hp xk_67 xs_67 xc_0 xin_0 (j := 8) (by decide) rfl gw_377 rfl dX0_partFiner_38 ?_
          refine lv_iload_n C.1 C.2.1 dX0_partFiner_41 rfl (lv_at hl 2 rfl) ?_
          refine lv_aload_n C.1 C.2.1 dX0_partFiner_42 rfl (lv_at hl 0 rfl) ?_
          refine r_getr (t := 75) C hp xk_67 xs_67 xc_0 xin_0 (j := 8) (by decide) rfl gw_377 rfl dX0_partFiner_43 ?_
          refine lv_iload_n C.1 C.2.1 dX0_partFiner_46 rfl (lv_at hl 3 rfl) ?_
          refine r_iald C hp h xk_75 xs_75 dX0_partFiner_47 (fun h => ?_)
          refine r_iast C hp h xk_75 xs_75 dX0_partFiner_48 (fun M30 H locs h hp => ?_)
          refine r_goto (tgt := 62) C dX0_partFiner_49 (by decide) ?_
          exact hJ27 _ _ _ _ _ h hp (lv_sub hl [0, 1, 2] rfl)
set_option maxRecDepth 100000 in
set_option maxHeartbeats 4000000 in
theorem b_X0_partFiner (C : g_CX xG V p R s m args meth c cX0_partFiner 4 (some .int) RX0 1 40) {res : Int × g_M} (hR : g_RetI xG V p l e R s m args below meth c Q cX0_partFiner .int res.1 res.2)  {M : g_M} {H : Heap} {locs : List Loc} {ls : Array Slot} (h : m_X0_partFiner M = some res) (hp : g_PT xG V M s H locs) (hl : lv_has ls 4 [(0, .ref (V.2.2 67))]) : W p l e R s m args below meth c H locs 0 0 Q (F0 m 0 ls []) := by
  unfold m_X0_partFiner at h
  refine r_iconst C dX0_partFiner_0 ?_
  refine r_istore_n (lv' := fun x11 => [(1, .int (gI x11)), (0, .ref (V.2.2 67))]) C h dX0_partFiner_1 rfl hl (by decide) (fun _ => rfl) (fun x11 ls h hl => ?_)
  refine r_iconst C dX0_partFiner_2 ?_
  refine r_istore_n (lv' := fun x12 => [(2, .int (gI x12)), (1, .int (gI x11)), (0, .ref (V.2.2 67))]) C h dX0_partFiner_3 rfl hl (by decide) (fun _ => rfl) (fun x12 ls h hl => ?_)
  refine w_X0_partFiner_L4 C hR _ ?_ _ _ _ _ H locs ls h hp (lv_sub hl [2, 1, 0] rfl)
  · intro x36 M37 H locs ls h hp hl
    refine lv_aload_n C.1 C.2.1 dX0_partFiner_68 rfl (lv_at hl 0 rfl) ?_
    refine r_getr (t := 75) C hp xk_67 xs_67 xc_0 xin_0 (j := 8) (by decide) rfl gw_377 rfl dX0_partFiner_69 ?_
    refine r_iconst C dX0_partFiner_72 ?_
    refine lv_aload_n C.1 C.2.1 dX0_partFiner_73 rfl (lv_at hl 0 rfl) ?_
    refine r_getr (t := 74) C hp xk_67 xs_67 xc_0 xin_0 (j := 7) (by decide) rfl gw_375 rfl dX0_partFiner_74 ?_
    refine r_iconst C dX0_partFiner_77 ?_
    refine r_bipush C dX0_partFiner_78 (by decide +kernel) ?_
    refine r_copyi C hl.1 hp h xk_75 xs_75 xk_74 xs_74 gw_1052 gw_746 gw_745 gw_128 (Nat.le_of_ble_eq_true rfl) (Nat.le_of_ble_eq_true rfl) dX0_partFiner_80 (fun M38 H locs h hp => ?_)
    refine lv_iload_n C.1 C.2.1 dX0_partFiner_83 rfl (lv_at hl 1 rfl) ?_
    cases h
    exact hR _ _ _ _ dX0_partFiner_84 rfl hp
theorem c_X0_partFiner (l : Launch) {V : g_V} (hok : g_ok xG V)  {M : g_M} {x : Int} {M2 : g_M} (h : m_X0_partFiner M = some (x, M2)) : MetI xG V l yX0_partFiner cX0_partFiner 4 (some .int) 1 40 [.ref (V.2.2 67)] M x M2 :=
  g_metI hok cal_X0_partFiner.2.2.2 rfl (Nat.le_of_ble_eq_true rfl) (@fun p e R s m args below meth c Q ls C hR hp hl => b_X0_partFiner C hR h hp hl)
set_option maxRecDepth 100000 in
set_option maxHeartbeats 4000000 in
theorem w_X0_sortAll_L13 (C : g_CX xG V p R s m args meth c cX0_sortAll 4 (some .int) RX0 5 107) {res : Int × g_M} (hR : g_RetI xG V p l e R s m args below meth c Q cX0_sortAll .int res.1 res.2)    : ∀ (f : Nat) (x17 : Int) (x18 : Int) (x19 : Int) (M20 : g_M) (H : Heap) (locs : List Loc) (ls : Array Slot), m_X0_sortAll_L13  f x17 x18 x19 M20 = some res → g_PT xG V M20 s H locs → lv_has ls 4 [(0, .ref (V.2.2 67)), (1, .int (gI x17)), (2, .int (gI x18)), (3, .int (gI x19))] → W p l e R s m args below meth c H locs 0 0 Q (F0 m 13 ls []) := by
  intro f
  induction f with
  | zero => intro x17 x18 x19 M20 H locs ls h hp hl; cases h
  | succ f ih =>
    intro x17 x18 x19 M20 H locs ls h hp hl
    rw [m_X0_sortAll_L13] at h
    refine lv_iload_n C.1 C.2.1 dX0_sortAll_13 rfl (lv_at hl 3 rfl) ?_
    refine r_bipush C dX0_sortAll_14 (by decide +kernel) ?_
    refine r_icmp_ge (tgt := 37) C h dX0_sortAll_16 (by decide) (fun h => ?_) (fun h => ?_)
    · refine lv_iload_n C.1 C.2.1 dX0_sortAll_37 rfl (lv_at hl 2 rfl) ?_
      cases h
      exact hR _ _ _ _ dX0_sortAll_38 rfl hp
    · refine lv_iload_n C.1 C.2.1 dX0_sortAll_19 rfl (lv_at hl 2 rfl) ?_
      refine lv_iload_n C.1 C.2.1 dX0_sortAll_20 rfl (lv_at hl 1 rfl) ?_
      refine r_icmp_le (tgt := 37) C h dX0_sortAll_21 (by decide) (fun h => ?_) (fun h => ?_)
      · refine lv_iload_n C.1 C.2.1 dX0_sortAll_37 rfl (lv_at hl 2 rfl) ?_
        cases h
        exact hR _ _ _ _ dX0_sortAll_38 rfl hp
      · refine lv_iload_n C.1 C.2.1 dX0_sortAll_24 rfl (lv_at hl 2 rfl) ?_
        refine r_istore_n (lv' := fun x21 => [(1, .int (gI x21)), (0, .ref (V.2.2 67)), (2, .int (gI x18)), (3, .int (gI x19))]) C h dX0_sortAll_25 rfl hl (by decide) (fun _ => rfl) (fun x21 ls h hl => ?_)
        refine lv_aload_n C.1 C.2.1 dX0_sortAll_26 rfl (lv_at hl 1 rfl) ?_
        obtain ⟨x22, M23, hr, h⟩ := bW_of h
        refine r_callVI (As := []) (rest := []) C hl.1 hp (c_X0_partFiner l C.2.2.2.2.2.2.2.2.2.2.2 hr) gw_1074 gw_1076 gw_35 xk_67 xs_67 xc_0 cal_X0_partFiner rfl rfl (Nat.le_of_ble_eq_true rfl) ⟨Nat.le_of_ble_eq_true rfl, Nat.le_of_ble_eq_true rfl⟩ dX0_sortAll_27 (fun H locs hp => ?_)
        refine r_istore_n (lv' := fun x24 => [(2, .int (gI x24)), (1, .int (gI x21)), (0, .ref (V.2.2 67)), (3, .int (gI x19))]) C h dX0_sortAll_30 rfl hl (by decide) (fun _ => rfl) (fun x24 ls h hl => ?_)
        refine r_iinc (lv' := fun x25 => [(3, .int (gI x25)), (2, .int (gI x24)), (1, .int (gI x21)), (0, .ref (V.2.2 67))]) C h dX0_sortAll_31 hl (j := 3) rfl (by decide) (fun _ => rfl) (fun x25 ls h hl => ?_)
        refine r_goto (tgt := 13) C dX0_sortAll_34 (by decide) ?_
        exact ih _ _ _ _ _ _ _ h hp (lv_sub hl [3, 2, 1, 0] rfl)
set_option maxRecDepth 100000 in
set_option maxHeartbeats 4000000 in
theorem b_X0_sortAll (C : g_CX xG V p R s m args meth c cX0_sortAll 4 (some .int) RX0 5 107) {res : Int × g_M} (hR : g_RetI xG V p l e R s m args below meth c Q cX0_sortAll .int res.1 res.2)  {M : g_M} {H : Heap} {locs : List Loc} {ls : Array Slot} (h : m_X0_sortAll M = some res) (hp : g_PT xG V M s H locs) (hl : lv_has ls 4 [(0, .ref (V.2.2 67))]) : W p l e R s m args below meth c H locs 0 0 Q (F0 m 0 ls []) := by
  unfold m_X0_sortAll at h
  refine lv_aload_n C.1 C.2.1 dX0_sortAll_0 rfl (lv_at hl 0 rfl) ?_
  obtain ⟨M11, hr, h⟩ := bd_of h
  refine r_callVV (As := []) (rest := []) C hl.1 hp (c_X0_sortByKind l C.2.2.2.2.2.2.2.2.2.2.2 hr) gw_1070 gw_1072 gw_34 xk_67 xs_67 xc_0 cal_X0_sortByKind rfl rfl (Nat.le_of_ble_eq_true rfl) ⟨Nat.le_of_ble_eq_true rfl, Nat.le_of_ble_eq_true rfl⟩ dX0_sortAll_1 (fun H locs hp => ?_)
  refine r_iconst C dX0_sortAll_4 ?_
  refine r_istore_n (lv' := fun x12 => [(1, .int (gI x12)), (0, .ref (V.2.2 67))]) C h dX0_sortAll_5 rfl hl (by decide) (fun _ => rfl) (fun x12 ls h hl => ?_)
  refine lv_aload_n C.1 C.2.1 dX0_sortAll_6 rfl (lv_at hl 1 rfl) ?_
  obtain ⟨x13, M14, hr, h⟩ := bW_of h
  refine r_callVI (As := []) (rest := []) C hl.1 hp (c_X0_partFiner l C.2.2.2.2.2.2.2.2.2.2.2 hr) gw_1074 gw_1076 gw_35 xk_67 xs_67 xc_0 cal_X0_partFiner rfl rfl (Nat.le_of_ble_eq_true rfl) ⟨Nat.le_of_ble_eq_true rfl, Nat.le_of_ble_eq_true rfl⟩ dX0_sortAll_7 (fun H locs hp => ?_)
  refine r_istore_n (lv' := fun x15 => [(2, .int (gI x15)), (1, .int (gI x12)), (0, .ref (V.2.2 67))]) C h dX0_sortAll_10 rfl hl (by decide) (fun _ => rfl) (fun x15 ls h hl => ?_)
  refine r_iconst C dX0_sortAll_11 ?_
  refine r_istore_n (lv' := fun x16 => [(3, .int (gI x16)), (2, .int (gI x15)), (1, .int (gI x12)), (0, .ref (V.2.2 67))]) C h dX0_sortAll_12 rfl hl (by decide) (fun _ => rfl) (fun x16 ls h hl => ?_)
  refine w_X0_sortAll_L13 C hR _ _ _ _ _ H locs ls h hp (lv_sub hl [3, 2, 1, 0] rfl)
theorem c_X0_sortAll (l : Launch) {V : g_V} (hok : g_ok xG V)  {M : g_M} {x : Int} {M2 : g_M} (h : m_X0_sortAll M = some (x, M2)) : MetI xG V l yX0_sortAll cX0_sortAll 4 (some .int) 5 107 [.ref (V.2.2 67)] M x M2 :=
  g_metI hok cal_X0_sortAll.2.2.2 rfl (Nat.le_of_ble_eq_true rfl) (@fun p e R s m args below meth c Q ls C hR hp hl => b_X0_sortAll C hR h hp hl)
set_option maxRecDepth 100000 in
set_option maxHeartbeats 4000000 in
theorem w_X0_parted_L6 (C : g_CX xG V p R s m args meth c cX0_parted 4 (some .int) RX0 5 107) {res : Int × g_M} (hR : g_RetI xG V p l e R s m args below meth c Q cX0_parted .int res.1 res.2) (x13 : Int) (x14 : Int)   : ∀ (f : Nat) (x15 : Int) (M16 : g_M) (H : Heap) (locs : List Loc) (ls : Array Slot), m_X0_parted_L6 x13 x14  f x15 M16 = some res → g_PT xG V M16 s H locs → lv_has ls 4 [(0, .ref (V.2.2 67)), (1, .int (gI x13)), (2, .int (gI x14)), (3, .int (gI x15))] → W p l e R s m args below meth c H locs 0 0 Q (F0 m 6 ls []) := by
  intro f
  induction f with
  | zero => intro x15 M16 H locs ls h hp hl; cases h
  | succ f ih =>
    intro x15 M16 H locs ls h hp hl
    rw [m_X0_parted_L6] at h
    refine lv_iload_n C.1 C.2.1 dX0_parted_6 rfl (lv_at hl 3 rfl) ?_
    refine r_bipush C dX0_parted_7 (by decide +kernel) ?_
    refine r_icmp_ge (tgt := 40) C h dX0_parted_9 (by decide) (fun h => ?_) (fun h => ?_)
    · refine r_iconst C dX0_parted_40 ?_
      cases h
      exact hR _ _ _ _ dX0_parted_41 rfl hp
    · refine lv_aload_n C.1 C.2.1 dX0_parted_12 rfl (lv_at hl 0 rfl) ?_
      refine r_getr (t := 74) C hp xk_67 xs_67 xc_0 xin_0 (j := 7) (by decide) rfl gw_375 rfl dX0_parted_13 ?_
      refine lv_iload_n C.1 C.2.1 dX0_parted_16 rfl (lv_at hl 1 rfl) ?_
      refine r_iald C hp h xk_74 xs_74 dX0_parted_17 (fun h => ?_)
      refine lv_aload_n C.1 C.2.1 dX0_parted_18 rfl (lv_at hl 0 rfl) ?_
      refine r_getr (t := 74) C hp xk_67 xs_67 xc_0 xin_0 (j := 7) (by decide) rfl gw_375 rfl dX0_parted_19 ?_
      refine lv_iload_n C.1 C.2.1 dX0_parted_22 rfl (lv_at hl 2 rfl) ?_
      refine r_iald C hp h xk_74 xs_74 dX0_parted_23 (fun h => ?_)
      refine r_icmp_eq (tgt := 29) C h dX0_parted_24 (by decide) (fun h => ?_) (fun h => ?_)
      · refine lv_aload_n C.1 C.2.1 dX0_parted_29 rfl (lv_at hl 0 rfl) ?_
        obtain ⟨x17, M18, hr, h⟩ := bW_of h
        refine r_callVI (As := []) (rest := []) C hl.1 hp (c_X0_partFiner l C.2.2.2.2.2.2.2.2.2.2.2 hr) gw_1074 gw_1076 gw_35 xk_67 xs_67 xc_0 cal_X0_partFiner rfl rfl (Nat.le_of_ble_eq_true rfl) ⟨Nat.le_of_ble_eq_true rfl, Nat.le_of_ble_eq_true rfl⟩ dX0_parted_30 (fun H locs hp => ?_)
        refine lv_pop C.1 C.2.1 dX0_parted_33 rfl ?_
        refine r_iinc (lv' := fun x19 => [(3, .int (gI x19)), (0, .ref (V.2.2 67)), (1, .int (gI x13)), (2, .int (gI x14))]) C h dX0_parted_34 hl (j := 3) rfl (by decide) (fun _ => rfl) (fun x19 ls h hl => ?_)
        refine r_goto (tgt := 6) C dX0_parted_37 (by decide) ?_
        exact ih _ _ _ _ _ h hp (lv_sub hl [1, 2, 3, 0] rfl)
      · refine lv_iload_n C.1 C.2.1 dX0_parted_27 rfl (lv_at hl 3 rfl) ?_
        cases h
        exact hR _ _ _ _ dX0_parted_28 rfl hp
set_option maxRecDepth 100000 in
set_option maxHeartbeats 4000000 in
theorem b_X0_parted (C : g_CX xG V p R s m args meth c cX0_parted 4 (some .int) RX0 5 107) {res : Int × g_M} (hR : g_RetI xG V p l e R s m args below meth c Q cX0_parted .int res.1 res.2) {a1 : Int} {a2 : Int} {M : g_M} {H : Heap} {locs : List Loc} {ls : Array Slot} (h : m_X0_parted a1 a2 M = some res) (hp : g_PT xG V M s H locs) (hl : lv_has ls 4 [(0, .ref (V.2.2 67)), (1, .int (gI a1)), (2, .int (gI a2))]) : W p l e R s m args below meth c H locs 0 0 Q (F0 m 0 ls []) := by
  unfold m_X0_parted at h
  refine lv_aload_n C.1 C.2.1 dX0_parted_0 rfl (lv_at hl 0 rfl) ?_
  obtain ⟨M11, hr, h⟩ := bd_of h
  refine r_callVV (As := []) (rest := []) C hl.1 hp (c_X0_sortByKind l C.2.2.2.2.2.2.2.2.2.2.2 hr) gw_1070 gw_1072 gw_34 xk_67 xs_67 xc_0 cal_X0_sortByKind rfl rfl (Nat.le_of_ble_eq_true rfl) ⟨Nat.le_of_ble_eq_true rfl, Nat.le_of_ble_eq_true rfl⟩ dX0_parted_1 (fun H locs hp => ?_)
  refine r_iconst C dX0_parted_4 ?_
  refine r_istore_n (lv' := fun x12 => [(3, .int (gI x12)), (0, .ref (V.2.2 67)), (1, .int (gI a1)), (2, .int (gI a2))]) C h dX0_parted_5 rfl hl (by decide) (fun _ => rfl) (fun x12 ls h hl => ?_)
  refine w_X0_parted_L6 C hR _ _ _ _ _ H locs ls h hp (lv_sub hl [1, 2, 3, 0] rfl)
theorem c_X0_parted (l : Launch) {V : g_V} (hok : g_ok xG V) {a1 : Int} {a2 : Int} {M : g_M} {x : Int} {M2 : g_M} (h : m_X0_parted a1 a2 M = some (x, M2)) : MetI xG V l yX0_parted cX0_parted 4 (some .int) 5 107 [.ref (V.2.2 67), .int (gI a1), .int (gI a2)] M x M2 :=
  g_metI hok cal_X0_parted.2.2.2 rfl (Nat.le_of_ble_eq_true rfl) (@fun p e R s m args below meth c Q ls C hR hp hl => b_X0_parted C hR h hp hl)
end
