theorem dX3_textOf_0 : decode cX3_textOf 0 = .ok (.iload_n 1, 1) := by decide +kernel
theorem dX3_textOf_1 : decode cX3_textOf 1 = .ok (.iconst 0, 1) := by decide +kernel
theorem dX3_textOf_2 : decode cX3_textOf 2 = .ok (.iconst 3, 1) := by decide +kernel
theorem dX3_textOf_3 : decode cX3_textOf 3 = .ok (.invokestatic 33, 3) := by decide +kernel
theorem dX3_textOf_6 : decode cX3_textOf 6 = .ok (.ifCond .eq 12, 3) := by decide +kernel
theorem dX3_textOf_9 : decode cX3_textOf 9 = .ok (.aload_n 0, 1) := by decide +kernel
theorem dX3_textOf_10 : decode cX3_textOf 10 = .ok (.getfield 11, 3) := by decide +kernel
theorem dX3_textOf_13 : decode cX3_textOf 13 = .ok (.iload_n 1, 1) := by decide +kernel
theorem dX3_textOf_14 : decode cX3_textOf 14 = .ok (.aaload, 1) := by decide +kernel
theorem dX3_textOf_15 : decode cX3_textOf 15 = .ok (.goto 7, 3) := by decide +kernel
theorem dX3_textOf_18 : decode cX3_textOf 18 = .ok (.aload_n 0, 1) := by decide +kernel
theorem dX3_textOf_19 : decode cX3_textOf 19 = .ok (.getfield 18, 3) := by decide +kernel
theorem dX3_textOf_22 : decode cX3_textOf 22 = .ok (.astore_n 2, 1) := by decide +kernel
theorem dX3_textOf_23 : decode cX3_textOf 23 = .ok (.aload_n 2, 1) := by decide +kernel
theorem dX3_textOf_24 : decode cX3_textOf 24 = .ok (.ifnonnull 10, 3) := by decide +kernel
theorem dX3_textOf_27 : decode cX3_textOf 27 = .ok (.aload_n 0, 1) := by decide +kernel
theorem dX3_textOf_28 : decode cX3_textOf 28 = .ok (.getfield 18, 3) := by decide +kernel
theorem dX3_textOf_31 : decode cX3_textOf 31 = .ok (.goto 4, 3) := by decide +kernel
theorem dX3_textOf_34 : decode cX3_textOf 34 = .ok (.aload_n 2, 1) := by decide +kernel
theorem dX3_textOf_35 : decode cX3_textOf 35 = .ok (.areturn, 1) := by decide +kernel
theorem dX3_lookAround_0 : decode cX3_lookAround 0 = .ok (.aload_n 0, 1) := by decide +kernel
theorem dX3_lookAround_1 : decode cX3_lookAround 1 = .ok (.getfield 22, 3) := by decide +kernel
theorem dX3_lookAround_4 : decode cX3_lookAround 4 = .ok (.bipush 21, 2) := by decide +kernel
theorem dX3_lookAround_6 : decode cX3_lookAround 6 = .ok (.aload_n 0, 1) := by decide +kernel
theorem dX3_lookAround_7 : decode cX3_lookAround 7 = .ok (.getfield 29, 3) := by decide +kernel
theorem dX3_lookAround_10 : decode cX3_lookAround 10 = .ok (.getfield 37, 3) := by decide +kernel
theorem dX3_lookAround_13 : decode cX3_lookAround 13 = .ok (.bipush 41, 2) := by decide +kernel
theorem dX3_lookAround_15 : decode cX3_lookAround 15 = .ok (.iaload, 1) := by decide +kernel
theorem dX3_lookAround_16 : decode cX3_lookAround 16 = .ok (.iastore, 1) := by decide +kernel
theorem dX3_lookAround_17 : decode cX3_lookAround 17 = .ok (.aload_n 0, 1) := by decide +kernel
theorem dX3_lookAround_18 : decode cX3_lookAround 18 = .ok (.getfield 22, 3) := by decide +kernel
theorem dX3_lookAround_21 : decode cX3_lookAround 21 = .ok (.bipush 22, 2) := by decide +kernel
theorem dX3_lookAround_23 : decode cX3_lookAround 23 = .ok (.aload_n 0, 1) := by decide +kernel
theorem dX3_lookAround_24 : decode cX3_lookAround 24 = .ok (.getfield 29, 3) := by decide +kernel
theorem dX3_lookAround_27 : decode cX3_lookAround 27 = .ok (.invokevirtual 42, 3) := by decide +kernel
theorem dX3_lookAround_30 : decode cX3_lookAround 30 = .ok (.invokestatic 46, 3) := by decide +kernel
theorem dX3_lookAround_33 : decode cX3_lookAround 33 = .ok (.iastore, 1) := by decide +kernel
theorem dX3_lookAround_34 : decode cX3_lookAround 34 = .ok (.aload_n 0, 1) := by decide +kernel
theorem dX3_lookAround_35 : decode cX3_lookAround 35 = .ok (.getfield 22, 3) := by decide +kernel
theorem dX3_lookAround_38 : decode cX3_lookAround 38 = .ok (.bipush 23, 2) := by decide +kernel
theorem dX3_lookAround_40 : decode cX3_lookAround 40 = .ok (.aload_n 0, 1) := by decide +kernel
theorem dX3_lookAround_41 : decode cX3_lookAround 41 = .ok (.getfield 29, 3) := by decide +kernel
theorem dX3_lookAround_44 : decode cX3_lookAround 44 = .ok (.invokevirtual 52, 3) := by decide +kernel
theorem dX3_lookAround_47 : decode cX3_lookAround 47 = .ok (.iastore, 1) := by decide +kernel
theorem dX3_lookAround_48 : decode cX3_lookAround 48 = .ok (.return_, 1) := by decide +kernel
theorem dX3_cueSaid_0 : decode cX3_cueSaid 0 = .ok (.aload_n 0, 1) := by decide +kernel
theorem dX3_cueSaid_1 : decode cX3_cueSaid 1 = .ok (.aload_n 0, 1) := by decide +kernel
theorem dX3_cueSaid_2 : decode cX3_cueSaid 2 = .ok (.getfield 29, 3) := by decide +kernel
theorem dX3_cueSaid_5 : decode cX3_cueSaid 5 = .ok (.getfield 55, 3) := by decide +kernel
theorem dX3_cueSaid_8 : decode cX3_cueSaid 8 = .ok (.invokevirtual 59, 3) := by decide +kernel
theorem dX3_cueSaid_11 : decode cX3_cueSaid 11 = .ok (.astore 4, 2) := by decide +kernel
theorem dX3_cueSaid_13 : decode cX3_cueSaid 13 = .ok (.aload 4, 2) := by decide +kernel
theorem dX3_cueSaid_15 : decode cX3_cueSaid 15 = .ok (.iconst 0, 1) := by decide +kernel
theorem dX3_cueSaid_16 : decode cX3_cueSaid 16 = .ok (.invokevirtual 63, 3) := by decide +kernel
theorem dX3_cueSaid_19 : decode cX3_cueSaid 19 = .ok (.ifCond .ne 24, 3) := by decide +kernel
theorem dX3_cueSaid_22 : decode cX3_cueSaid 22 = .ok (.iload_n 3, 1) := by decide +kernel
theorem dX3_cueSaid_23 : decode cX3_cueSaid 23 = .ok (.iconst 4, 1) := by decide +kernel
theorem dX3_cueSaid_24 : decode cX3_cueSaid 24 = .ok (.if_icmp .ge 13, 3) := by decide +kernel
theorem dX3_cueSaid_27 : decode cX3_cueSaid 27 = .ok (.aload_n 0, 1) := by decide +kernel
theorem dX3_cueSaid_28 : decode cX3_cueSaid 28 = .ok (.getfield 22, 3) := by decide +kernel
theorem dX3_cueSaid_31 : decode cX3_cueSaid 31 = .ok (.bipush 22, 2) := by decide +kernel
theorem dX3_cueSaid_33 : decode cX3_cueSaid 33 = .ok (.iaload, 1) := by decide +kernel
theorem dX3_cueSaid_34 : decode cX3_cueSaid 34 = .ok (.ifCond .ne 7, 3) := by decide +kernel
theorem dX3_cueSaid_37 : decode cX3_cueSaid 37 = .ok (.iconst 0, 1) := by decide +kernel
theorem dX3_cueSaid_38 : decode cX3_cueSaid 38 = .ok (.goto 4, 3) := by decide +kernel
theorem dX3_cueSaid_41 : decode cX3_cueSaid 41 = .ok (.iload_n 3, 1) := by decide +kernel
theorem dX3_cueSaid_42 : decode cX3_cueSaid 42 = .ok (.ireturn, 1) := by decide +kernel
theorem dX3_cueSaid_43 : decode cX3_cueSaid 43 = .ok (.aload_n 0, 1) := by decide +kernel
theorem dX3_cueSaid_44 : decode cX3_cueSaid 44 = .ok (.getfield 22, 3) := by decide +kernel
theorem dX3_cueSaid_47 : decode cX3_cueSaid 47 = .ok (.bipush 24, 2) := by decide +kernel
theorem dX3_cueSaid_49 : decode cX3_cueSaid 49 = .ok (.iload_n 1, 1) := by decide +kernel
theorem dX3_cueSaid_50 : decode cX3_cueSaid 50 = .ok (.iastore, 1) := by decide +kernel
theorem dX3_cueSaid_51 : decode cX3_cueSaid 51 = .ok (.aload_n 0, 1) := by decide +kernel
theorem dX3_cueSaid_52 : decode cX3_cueSaid 52 = .ok (.getfield 22, 3) := by decide +kernel
theorem dX3_cueSaid_55 : decode cX3_cueSaid 55 = .ok (.bipush 25, 2) := by decide +kernel
theorem dX3_cueSaid_57 : decode cX3_cueSaid 57 = .ok (.iload_n 2, 1) := by decide +kernel
theorem dX3_cueSaid_58 : decode cX3_cueSaid 58 = .ok (.iastore, 1) := by decide +kernel
theorem dX3_cueSaid_59 : decode cX3_cueSaid 59 = .ok (.aload_n 0, 1) := by decide +kernel
theorem dX3_cueSaid_60 : decode cX3_cueSaid 60 = .ok (.getfield 22, 3) := by decide +kernel
theorem dX3_cueSaid_63 : decode cX3_cueSaid 63 = .ok (.bipush 26, 2) := by decide +kernel
theorem dX3_cueSaid_65 : decode cX3_cueSaid 65 = .ok (.iload_n 3, 1) := by decide +kernel
theorem dX3_cueSaid_66 : decode cX3_cueSaid 66 = .ok (.iastore, 1) := by decide +kernel
theorem dX3_cueSaid_67 : decode cX3_cueSaid 67 = .ok (.aload_n 0, 1) := by decide +kernel
theorem dX3_cueSaid_68 : decode cX3_cueSaid 68 = .ok (.aload 4, 2) := by decide +kernel
theorem dX3_cueSaid_70 : decode cX3_cueSaid 70 = .ok (.iconst 0, 1) := by decide +kernel
theorem dX3_cueSaid_71 : decode cX3_cueSaid 71 = .ok (.invokevirtual 67, 3) := by decide +kernel
theorem dX3_cueSaid_74 : decode cX3_cueSaid 74 = .ok (.iconst 3, 1) := by decide +kernel
theorem dX3_cueSaid_75 : decode cX3_cueSaid 75 = .ok (.invokestatic 71, 3) := by decide +kernel
theorem dX3_cueSaid_78 : decode cX3_cueSaid 78 = .ok (.ireturn, 1) := by decide +kernel
theorem dX3_staysSaid_0 : decode cX3_staysSaid 0 = .ok (.aload_n 0, 1) := by decide +kernel
theorem dX3_staysSaid_1 : decode cX3_staysSaid 1 = .ok (.aload_n 0, 1) := by decide +kernel
theorem dX3_staysSaid_2 : decode cX3_staysSaid 2 = .ok (.getfield 29, 3) := by decide +kernel
theorem dX3_staysSaid_5 : decode cX3_staysSaid 5 = .ok (.getfield 55, 3) := by decide +kernel
theorem dX3_staysSaid_8 : decode cX3_staysSaid 8 = .ok (.invokevirtual 59, 3) := by decide +kernel
theorem dX3_staysSaid_11 : decode cX3_staysSaid 11 = .ok (.astore 4, 2) := by decide +kernel
theorem dX3_staysSaid_13 : decode cX3_staysSaid 13 = .ok (.aload 4, 2) := by decide +kernel
theorem dX3_staysSaid_15 : decode cX3_staysSaid 15 = .ok (.iconst 1, 1) := by decide +kernel
theorem dX3_staysSaid_16 : decode cX3_staysSaid 16 = .ok (.invokevirtual 63, 3) := by decide +kernel
theorem dX3_staysSaid_19 : decode cX3_staysSaid 19 = .ok (.ifCond .ne 14, 3) := by decide +kernel
theorem dX3_staysSaid_22 : decode cX3_staysSaid 22 = .ok (.iload_n 2, 1) := by decide +kernel
theorem dX3_staysSaid_23 : decode cX3_staysSaid 23 = .ok (.iconst 1, 1) := by decide +kernel
theorem dX3_staysSaid_24 : decode cX3_staysSaid 24 = .ok (.if_icmp .ne 7, 3) := by decide +kernel
theorem dX3_staysSaid_27 : decode cX3_staysSaid 27 = .ok (.iconst 1, 1) := by decide +kernel
theorem dX3_staysSaid_28 : decode cX3_staysSaid 28 = .ok (.goto 4, 3) := by decide +kernel
theorem dX3_staysSaid_31 : decode cX3_staysSaid 31 = .ok (.iconst 0, 1) := by decide +kernel
theorem dX3_staysSaid_32 : decode cX3_staysSaid 32 = .ok (.ireturn, 1) := by decide +kernel
theorem dX3_staysSaid_33 : decode cX3_staysSaid 33 = .ok (.aload_n 0, 1) := by decide +kernel
theorem dX3_staysSaid_34 : decode cX3_staysSaid 34 = .ok (.getfield 22, 3) := by decide +kernel
theorem dX3_staysSaid_37 : decode cX3_staysSaid 37 = .ok (.bipush 24, 2) := by decide +kernel
theorem dX3_staysSaid_39 : decode cX3_staysSaid 39 = .ok (.iload_n 1, 1) := by decide +kernel
theorem dX3_staysSaid_40 : decode cX3_staysSaid 40 = .ok (.iastore, 1) := by decide +kernel
theorem dX3_staysSaid_41 : decode cX3_staysSaid 41 = .ok (.aload_n 0, 1) := by decide +kernel
theorem dX3_staysSaid_42 : decode cX3_staysSaid 42 = .ok (.getfield 22, 3) := by decide +kernel
theorem dX3_staysSaid_45 : decode cX3_staysSaid 45 = .ok (.bipush 27, 2) := by decide +kernel
theorem dX3_staysSaid_47 : decode cX3_staysSaid 47 = .ok (.iload_n 2, 1) := by decide +kernel
theorem dX3_staysSaid_48 : decode cX3_staysSaid 48 = .ok (.iastore, 1) := by decide +kernel
theorem dX3_staysSaid_49 : decode cX3_staysSaid 49 = .ok (.aload_n 0, 1) := by decide +kernel
theorem dX3_staysSaid_50 : decode cX3_staysSaid 50 = .ok (.getfield 22, 3) := by decide +kernel
theorem dX3_staysSaid_53 : decode cX3_staysSaid 53 = .ok (.bipush 28, 2) := by decide +kernel
theorem dX3_staysSaid_55 : decode cX3_staysSaid 55 = .ok (.iload_n 3, 1) := by decide +kernel
theorem dX3_staysSaid_56 : decode cX3_staysSaid 56 = .ok (.iastore, 1) := by decide +kernel
theorem dX3_staysSaid_57 : decode cX3_staysSaid 57 = .ok (.aload_n 0, 1) := by decide +kernel
theorem dX3_staysSaid_58 : decode cX3_staysSaid 58 = .ok (.aload 4, 2) := by decide +kernel
theorem dX3_staysSaid_60 : decode cX3_staysSaid 60 = .ok (.iconst 1, 1) := by decide +kernel
theorem dX3_staysSaid_61 : decode cX3_staysSaid 61 = .ok (.invokevirtual 67, 3) := by decide +kernel
theorem dX3_staysSaid_64 : decode cX3_staysSaid 64 = .ok (.ifCond .le 7, 3) := by decide +kernel
theorem dX3_staysSaid_67 : decode cX3_staysSaid 67 = .ok (.iconst 1, 1) := by decide +kernel
theorem dX3_staysSaid_68 : decode cX3_staysSaid 68 = .ok (.goto 4, 3) := by decide +kernel
theorem dX3_staysSaid_71 : decode cX3_staysSaid 71 = .ok (.iconst 0, 1) := by decide +kernel
theorem dX3_staysSaid_72 : decode cX3_staysSaid 72 = .ok (.ireturn, 1) := by decide +kernel
theorem dX3_gladdensSaid_0 : decode cX3_gladdensSaid 0 = .ok (.aload_n 0, 1) := by decide +kernel
theorem dX3_gladdensSaid_1 : decode cX3_gladdensSaid 1 = .ok (.iload_n 1, 1) := by decide +kernel
theorem dX3_gladdensSaid_2 : decode cX3_gladdensSaid 2 = .ok (.invokevirtual 59, 3) := by decide +kernel
theorem dX3_gladdensSaid_5 : decode cX3_gladdensSaid 5 = .ok (.astore 4, 2) := by decide +kernel
theorem dX3_gladdensSaid_7 : decode cX3_gladdensSaid 7 = .ok (.aload 4, 2) := by decide +kernel
theorem dX3_gladdensSaid_9 : decode cX3_gladdensSaid 9 = .ok (.iconst 2, 1) := by decide +kernel
theorem dX3_gladdensSaid_10 : decode cX3_gladdensSaid 10 = .ok (.invokevirtual 63, 3) := by decide +kernel
theorem dX3_gladdensSaid_13 : decode cX3_gladdensSaid 13 = .ok (.ifCond .ne 13, 3) := by decide +kernel
theorem dX3_gladdensSaid_16 : decode cX3_gladdensSaid 16 = .ok (.aload_n 0, 1) := by decide +kernel
theorem dX3_gladdensSaid_17 : decode cX3_gladdensSaid 17 = .ok (.getfield 29, 3) := by decide +kernel
theorem dX3_gladdensSaid_20 : decode cX3_gladdensSaid 20 = .ok (.getfield 75, 3) := by decide +kernel
theorem dX3_gladdensSaid_23 : decode cX3_gladdensSaid 23 = .ok (.iload_n 2, 1) := by decide +kernel
theorem dX3_gladdensSaid_24 : decode cX3_gladdensSaid 24 = .ok (.iaload, 1) := by decide +kernel
theorem dX3_gladdensSaid_25 : decode cX3_gladdensSaid 25 = .ok (.ireturn, 1) := by decide +kernel
theorem dX3_gladdensSaid_26 : decode cX3_gladdensSaid 26 = .ok (.aload_n 0, 1) := by decide +kernel
theorem dX3_gladdensSaid_27 : decode cX3_gladdensSaid 27 = .ok (.getfield 22, 3) := by decide +kernel
theorem dX3_gladdensSaid_30 : decode cX3_gladdensSaid 30 = .ok (.bipush 29, 2) := by decide +kernel
theorem dX3_gladdensSaid_32 : decode cX3_gladdensSaid 32 = .ok (.iload_n 2, 1) := by decide +kernel
theorem dX3_gladdensSaid_33 : decode cX3_gladdensSaid 33 = .ok (.iastore, 1) := by decide +kernel
theorem dX3_gladdensSaid_34 : decode cX3_gladdensSaid 34 = .ok (.aload_n 0, 1) := by decide +kernel
theorem dX3_gladdensSaid_35 : decode cX3_gladdensSaid 35 = .ok (.getfield 22, 3) := by decide +kernel
theorem dX3_gladdensSaid_38 : decode cX3_gladdensSaid 38 = .ok (.bipush 30, 2) := by decide +kernel
theorem dX3_gladdensSaid_40 : decode cX3_gladdensSaid 40 = .ok (.aload_n 0, 1) := by decide +kernel
theorem dX3_gladdensSaid_41 : decode cX3_gladdensSaid 41 = .ok (.getfield 29, 3) := by decide +kernel
theorem dX3_gladdensSaid_44 : decode cX3_gladdensSaid 44 = .ok (.getfield 37, 3) := by decide +kernel
theorem dX3_gladdensSaid_47 : decode cX3_gladdensSaid 47 = .ok (.bipush 8, 2) := by decide +kernel
theorem dX3_gladdensSaid_49 : decode cX3_gladdensSaid 49 = .ok (.iload_n 2, 1) := by decide +kernel
theorem dX3_gladdensSaid_50 : decode cX3_gladdensSaid 50 = .ok (.iadd, 1) := by decide +kernel
theorem dX3_gladdensSaid_51 : decode cX3_gladdensSaid 51 = .ok (.iaload, 1) := by decide +kernel
theorem dX3_gladdensSaid_52 : decode cX3_gladdensSaid 52 = .ok (.iastore, 1) := by decide +kernel
theorem dX3_gladdensSaid_53 : decode cX3_gladdensSaid 53 = .ok (.aload_n 0, 1) := by decide +kernel
theorem dX3_gladdensSaid_54 : decode cX3_gladdensSaid 54 = .ok (.getfield 22, 3) := by decide +kernel
theorem dX3_gladdensSaid_57 : decode cX3_gladdensSaid 57 = .ok (.bipush 31, 2) := by decide +kernel
theorem dX3_gladdensSaid_59 : decode cX3_gladdensSaid 59 = .ok (.aload_n 0, 1) := by decide +kernel
theorem dX3_gladdensSaid_60 : decode cX3_gladdensSaid 60 = .ok (.getfield 29, 3) := by decide +kernel
theorem dX3_gladdensSaid_63 : decode cX3_gladdensSaid 63 = .ok (.getfield 37, 3) := by decide +kernel
theorem dX3_gladdensSaid_66 : decode cX3_gladdensSaid 66 = .ok (.iconst 0, 1) := by decide +kernel
theorem dX3_gladdensSaid_67 : decode cX3_gladdensSaid 67 = .ok (.iload_n 2, 1) := by decide +kernel
theorem dX3_gladdensSaid_68 : decode cX3_gladdensSaid 68 = .ok (.iadd, 1) := by decide +kernel
theorem dX3_gladdensSaid_69 : decode cX3_gladdensSaid 69 = .ok (.iaload, 1) := by decide +kernel
theorem dX3_gladdensSaid_70 : decode cX3_gladdensSaid 70 = .ok (.iastore, 1) := by decide +kernel
theorem dX3_gladdensSaid_71 : decode cX3_gladdensSaid 71 = .ok (.aload_n 0, 1) := by decide +kernel
theorem dX3_gladdensSaid_72 : decode cX3_gladdensSaid 72 = .ok (.getfield 22, 3) := by decide +kernel
theorem dX3_gladdensSaid_75 : decode cX3_gladdensSaid 75 = .ok (.bipush 32, 2) := by decide +kernel
theorem dX3_gladdensSaid_77 : decode cX3_gladdensSaid 77 = .ok (.iload_n 3, 1) := by decide +kernel
theorem dX3_gladdensSaid_78 : decode cX3_gladdensSaid 78 = .ok (.iastore, 1) := by decide +kernel
theorem dX3_gladdensSaid_79 : decode cX3_gladdensSaid 79 = .ok (.aload_n 0, 1) := by decide +kernel
theorem dX3_gladdensSaid_80 : decode cX3_gladdensSaid 80 = .ok (.aload 4, 2) := by decide +kernel
theorem dX3_gladdensSaid_82 : decode cX3_gladdensSaid 82 = .ok (.iconst 2, 1) := by decide +kernel
theorem dX3_gladdensSaid_83 : decode cX3_gladdensSaid 83 = .ok (.invokevirtual 67, 3) := by decide +kernel
theorem dX3_gladdensSaid_86 : decode cX3_gladdensSaid 86 = .ok (.bipush 99, 2) := by decide +kernel
theorem dX3_gladdensSaid_88 : decode cX3_gladdensSaid 88 = .ok (.invokestatic 71, 3) := by decide +kernel
theorem dX3_gladdensSaid_91 : decode cX3_gladdensSaid 91 = .ok (.ireturn, 1) := by decide +kernel
theorem dX3_explains_0 : decode cX3_explains 0 = .ok (.iconst 0, 1) := by decide +kernel
theorem dX3_explains_1 : decode cX3_explains 1 = .ok (.istore_n 2, 1) := by decide +kernel
theorem dX3_explains_2 : decode cX3_explains 2 = .ok (.iload_n 2, 1) := by decide +kernel
theorem dX3_explains_3 : decode cX3_explains 3 = .ok (.aload_n 0, 1) := by decide +kernel
theorem dX3_explains_4 : decode cX3_explains 4 = .ok (.getfield 29, 3) := by decide +kernel
theorem dX3_explains_7 : decode cX3_explains 7 = .ok (.getfield 78, 3) := by decide +kernel
theorem dX3_explains_10 : decode cX3_explains 10 = .ok (.if_icmp .ge 38, 3) := by decide +kernel
theorem dX3_explains_13 : decode cX3_explains 13 = .ok (.aload_n 0, 1) := by decide +kernel
theorem dX3_explains_14 : decode cX3_explains 14 = .ok (.iload_n 1, 1) := by decide +kernel
theorem dX3_explains_15 : decode cX3_explains 15 = .ok (.aload_n 0, 1) := by decide +kernel
theorem dX3_explains_16 : decode cX3_explains 16 = .ok (.getfield 29, 3) := by decide +kernel
theorem dX3_explains_19 : decode cX3_explains 19 = .ok (.getfield 81, 3) := by decide +kernel
theorem dX3_explains_22 : decode cX3_explains 22 = .ok (.iload_n 2, 1) := by decide +kernel
theorem dX3_explains_23 : decode cX3_explains 23 = .ok (.iaload, 1) := by decide +kernel
theorem dX3_explains_24 : decode cX3_explains 24 = .ok (.iconst 1, 1) := by decide +kernel
theorem dX3_explains_25 : decode cX3_explains 25 = .ok (.invokevirtual 84, 3) := by decide +kernel
theorem dX3_explains_28 : decode cX3_explains 28 = .ok (.aload_n 0, 1) := by decide +kernel
theorem dX3_explains_29 : decode cX3_explains 29 = .ok (.getfield 29, 3) := by decide +kernel
theorem dX3_explains_32 : decode cX3_explains 32 = .ok (.getfield 88, 3) := by decide +kernel
theorem dX3_explains_35 : decode cX3_explains 35 = .ok (.iload_n 2, 1) := by decide +kernel
theorem dX3_explains_36 : decode cX3_explains 36 = .ok (.iaload, 1) := by decide +kernel
theorem dX3_explains_37 : decode cX3_explains 37 = .ok (.if_icmp .eq 5, 3) := by decide +kernel
theorem dX3_explains_40 : decode cX3_explains 40 = .ok (.iconst 0, 1) := by decide +kernel
theorem dX3_explains_41 : decode cX3_explains 41 = .ok (.ireturn, 1) := by decide +kernel
theorem dX3_explains_42 : decode cX3_explains 42 = .ok (.iinc 2 1, 3) := by decide +kernel
theorem dX3_explains_45 : decode cX3_explains 45 = .ok (.goto (-43), 3) := by decide +kernel
theorem dX3_explains_48 : decode cX3_explains 48 = .ok (.iconst 1, 1) := by decide +kernel
theorem dX3_explains_49 : decode cX3_explains 49 = .ok (.ireturn, 1) := by decide +kernel
theorem dX3_bounded_0 : decode cX3_bounded 0 = .ok (.iconst 0, 1) := by decide +kernel
theorem dX3_bounded_1 : decode cX3_bounded 1 = .ok (.iload_n 1, 1) := by decide +kernel
theorem dX3_bounded_2 : decode cX3_bounded 2 = .ok (.iload_n 0, 1) := by decide +kernel
theorem dX3_bounded_3 : decode cX3_bounded 3 = .ok (.invokestatic 91, 3) := by decide +kernel
theorem dX3_bounded_6 : decode cX3_bounded 6 = .ok (.invokestatic 96, 3) := by decide +kernel
theorem dX3_bounded_9 : decode cX3_bounded 9 = .ok (.ireturn, 1) := by decide +kernel
theorem dX3_value_0 : decode cX3_value 0 = .ok (.iconst 0, 1) := by decide +kernel
theorem dX3_value_1 : decode cX3_value 1 = .ok (.istore_n 3, 1) := by decide +kernel
theorem dX3_value_2 : decode cX3_value 2 = .ok (.aload_n 1, 1) := by decide +kernel
theorem dX3_value_3 : decode cX3_value 3 = .ok (.getfield 99, 3) := by decide +kernel
theorem dX3_value_6 : decode cX3_value 6 = .ok (.iload_n 2, 1) := by decide +kernel
theorem dX3_value_7 : decode cX3_value 7 = .ok (.iaload, 1) := by decide +kernel
theorem dX3_value_8 : decode cX3_value 8 = .ok (.sipush 300, 3) := by decide +kernel
theorem dX3_value_11 : decode cX3_value 11 = .ok (.invokestatic 91, 3) := by decide +kernel
theorem dX3_value_14 : decode cX3_value 14 = .ok (.istore 4, 2) := by decide +kernel
theorem dX3_value_16 : decode cX3_value 16 = .ok (.aload_n 1, 1) := by decide +kernel
theorem dX3_value_17 : decode cX3_value 17 = .ok (.getfield 102, 3) := by decide +kernel
theorem dX3_value_20 : decode cX3_value 20 = .ok (.iload_n 2, 1) := by decide +kernel
theorem dX3_value_21 : decode cX3_value 21 = .ok (.iaload, 1) := by decide +kernel
theorem dX3_value_22 : decode cX3_value 22 = .ok (.istore 5, 2) := by decide +kernel
theorem dX3_value_24 : decode cX3_value 24 = .ok (.iload 5, 2) := by decide +kernel
theorem dX3_value_26 : decode cX3_value 26 = .ok (.iload 4, 2) := by decide +kernel
theorem dX3_value_28 : decode cX3_value 28 = .ok (.if_icmp .ge 301, 3) := by decide +kernel
theorem dX3_value_31 : decode cX3_value 31 = .ok (.aload_n 1, 1) := by decide +kernel
theorem dX3_value_32 : decode cX3_value 32 = .ok (.getfield 105, 3) := by decide +kernel
theorem dX3_value_35 : decode cX3_value 35 = .ok (.iload 5, 2) := by decide +kernel
theorem dX3_value_37 : decode cX3_value 37 = .ok (.iaload, 1) := by decide +kernel
theorem dX3_value_38 : decode cX3_value 38 = .ok (.bipush 16, 2) := by decide +kernel
theorem dX3_value_40 : decode cX3_value 40 = .ok (.ishr, 1) := by decide +kernel
theorem dX3_value_41 : decode cX3_value 41 = .ok (.istore 6, 2) := by decide +kernel
theorem dX3_value_43 : decode cX3_value 43 = .ok (.aload_n 1, 1) := by decide +kernel
theorem dX3_value_44 : decode cX3_value 44 = .ok (.getfield 105, 3) := by decide +kernel
theorem dX3_value_47 : decode cX3_value 47 = .ok (.iload 5, 2) := by decide +kernel
theorem dX3_value_49 : decode cX3_value 49 = .ok (.iaload, 1) := by decide +kernel
theorem dX3_value_50 : decode cX3_value 50 = .ok (.ldc 108, 2) := by decide +kernel
theorem dX3_value_52 : decode cX3_value 52 = .ok (.iand, 1) := by decide +kernel
theorem dX3_value_53 : decode cX3_value 53 = .ok (.istore 7, 2) := by decide +kernel
theorem dX3_value_55 : decode cX3_value 55 = .ok (.iload 6, 2) := by decide +kernel
theorem dX3_value_57 : decode cX3_value 57 = .ok (.bipush 21, 2) := by decide +kernel
theorem dX3_value_59 : decode cX3_value 59 = .ok (.if_icmp .lt 14, 3) := by decide +kernel
theorem dX3_value_62 : decode cX3_value 62 = .ok (.iload 6, 2) := by decide +kernel
theorem dX3_value_64 : decode cX3_value 64 = .ok (.bipush 32, 2) := by decide +kernel
theorem dX3_value_66 : decode cX3_value 66 = .ok (.if_icmp .gt 7, 3) := by decide +kernel
theorem dX3_value_69 : decode cX3_value 69 = .ok (.iconst 1, 1) := by decide +kernel
theorem dX3_value_70 : decode cX3_value 70 = .ok (.goto 4, 3) := by decide +kernel
theorem dX3_value_73 : decode cX3_value 73 = .ok (.iconst 0, 1) := by decide +kernel
theorem dX3_value_74 : decode cX3_value 74 = .ok (.istore 8, 2) := by decide +kernel
theorem dX3_value_76 : decode cX3_value 76 = .ok (.iload 8, 2) := by decide +kernel
theorem dX3_value_78 : decode cX3_value 78 = .ok (.ifCond .ne 10, 3) := by decide +kernel
theorem dX3_value_81 : decode cX3_value 81 = .ok (.iload 6, 2) := by decide +kernel
theorem dX3_value_83 : decode cX3_value 83 = .ok (.bipush 40, 2) := by decide +kernel
theorem dX3_value_85 : decode cX3_value 85 = .ok (.if_icmp .ne 39, 3) := by decide +kernel
theorem dX3_value_88 : decode cX3_value 88 = .ok (.iload_n 3, 1) := by decide +kernel
theorem dX3_value_89 : decode cX3_value 89 = .ok (.sipush 300, 3) := by decide +kernel
theorem dX3_value_92 : decode cX3_value 92 = .ok (.if_icmp .ge 231, 3) := by decide +kernel
theorem dX3_value_95 : decode cX3_value 95 = .ok (.aload_n 0, 1) := by decide +kernel
theorem dX3_value_96 : decode cX3_value 96 = .ok (.getfield 26, 3) := by decide +kernel
theorem dX3_value_99 : decode cX3_value 99 = .ok (.iload_n 3, 1) := by decide +kernel
theorem dX3_value_100 : decode cX3_value 100 = .ok (.iload 8, 2) := by decide +kernel
theorem dX3_value_102 : decode cX3_value 102 = .ok (.ifCond .eq 13, 3) := by decide +kernel
theorem dX3_value_105 : decode cX3_value 105 = .ok (.aload_n 0, 1) := by decide +kernel
theorem dX3_value_106 : decode cX3_value 106 = .ok (.getfield 22, 3) := by decide +kernel
theorem dX3_value_109 : decode cX3_value 109 = .ok (.iload 6, 2) := by decide +kernel
theorem dX3_value_111 : decode cX3_value 111 = .ok (.iaload, 1) := by decide +kernel
theorem dX3_value_112 : decode cX3_value 112 = .ok (.goto 5, 3) := by decide +kernel
theorem dX3_value_115 : decode cX3_value 115 = .ok (.iload 7, 2) := by decide +kernel
theorem dX3_value_117 : decode cX3_value 117 = .ok (.iastore, 1) := by decide +kernel
theorem dX3_value_118 : decode cX3_value 118 = .ok (.iinc 3 1, 3) := by decide +kernel
theorem dX3_value_121 : decode cX3_value 121 = .ok (.goto 202, 3) := by decide +kernel
theorem dX3_value_124 : decode cX3_value 124 = .ok (.iload 6, 2) := by decide +kernel
theorem dX3_value_126 : decode cX3_value 126 = .ok (.bipush 71, 2) := by decide +kernel
theorem dX3_value_128 : decode cX3_value 128 = .ok (.if_icmp .ne 17, 3) := by decide +kernel
theorem dX3_value_131 : decode cX3_value 131 = .ok (.iload 5, 2) := by decide +kernel
theorem dX3_value_133 : decode cX3_value 133 = .ok (.iload 7, 2) := by decide +kernel
theorem dX3_value_135 : decode cX3_value 135 = .ok (.iconst 1, 1) := by decide +kernel
theorem dX3_value_136 : decode cX3_value 136 = .ok (.isub, 1) := by decide +kernel
theorem dX3_value_137 : decode cX3_value 137 = .ok (.invokestatic 96, 3) := by decide +kernel
theorem dX3_value_140 : decode cX3_value 140 = .ok (.istore 5, 2) := by decide +kernel
theorem dX3_value_142 : decode cX3_value 142 = .ok (.goto 181, 3) := by decide +kernel
theorem dX3_value_145 : decode cX3_value 145 = .ok (.iload 6, 2) := by decide +kernel
theorem dX3_value_147 : decode cX3_value 147 = .ok (.bipush 72, 2) := by decide +kernel
theorem dX3_value_149 : decode cX3_value 149 = .ok (.if_icmp .ne 39, 3) := by decide +kernel
theorem dX3_value_152 : decode cX3_value 152 = .ok (.iconst 0, 1) := by decide +kernel
theorem dX3_value_153 : decode cX3_value 153 = .ok (.iload_n 3, 1) := by decide +kernel
theorem dX3_value_154 : decode cX3_value 154 = .ok (.iconst 1, 1) := by decide +kernel
theorem dX3_value_155 : decode cX3_value 155 = .ok (.isub, 1) := by decide +kernel
theorem dX3_value_156 : decode cX3_value 156 = .ok (.invokestatic 96, 3) := by decide +kernel
theorem dX3_value_159 : decode cX3_value 159 = .ok (.istore_n 3, 1) := by decide +kernel
theorem dX3_value_160 : decode cX3_value 160 = .ok (.aload_n 0, 1) := by decide +kernel
theorem dX3_value_161 : decode cX3_value 161 = .ok (.getfield 26, 3) := by decide +kernel
theorem dX3_value_164 : decode cX3_value 164 = .ok (.iload_n 3, 1) := by decide +kernel
theorem dX3_value_165 : decode cX3_value 165 = .ok (.iaload, 1) := by decide +kernel
theorem dX3_value_166 : decode cX3_value 166 = .ok (.ifCond .ne 15, 3) := by decide +kernel
theorem dX3_value_169 : decode cX3_value 169 = .ok (.iload 5, 2) := by decide +kernel
theorem dX3_value_171 : decode cX3_value 171 = .ok (.iload 7, 2) := by decide +kernel
theorem dX3_value_173 : decode cX3_value 173 = .ok (.iconst 1, 1) := by decide +kernel
theorem dX3_value_174 : decode cX3_value 174 = .ok (.isub, 1) := by decide +kernel
theorem dX3_value_175 : decode cX3_value 175 = .ok (.invokestatic 96, 3) := by decide +kernel
theorem dX3_value_178 : decode cX3_value 178 = .ok (.goto 5, 3) := by decide +kernel
theorem dX3_value_181 : decode cX3_value 181 = .ok (.iload 5, 2) := by decide +kernel
theorem dX3_value_183 : decode cX3_value 183 = .ok (.istore 5, 2) := by decide +kernel
theorem dX3_value_185 : decode cX3_value 185 = .ok (.goto 138, 3) := by decide +kernel
theorem dX3_value_188 : decode cX3_value 188 = .ok (.iload 6, 2) := by decide +kernel
theorem dX3_value_190 : decode cX3_value 190 = .ok (.bipush 70, 2) := by decide +kernel
theorem dX3_value_192 : decode cX3_value 192 = .ok (.if_icmp .eq 17, 3) := by decide +kernel
theorem dX3_value_195 : decode cX3_value 195 = .ok (.iload 6, 2) := by decide +kernel
theorem dX3_value_197 : decode cX3_value 197 = .ok (.bipush 18, 2) := by decide +kernel
theorem dX3_value_199 : decode cX3_value 199 = .ok (.if_icmp .eq 10, 3) := by decide +kernel
theorem dX3_value_202 : decode cX3_value 202 = .ok (.iload 6, 2) := by decide +kernel
theorem dX3_value_204 : decode cX3_value 204 = .ok (.bipush 13, 2) := by decide +kernel
theorem dX3_value_206 : decode cX3_value 206 = .ok (.if_icmp .ne 32, 3) := by decide +kernel
theorem dX3_value_209 : decode cX3_value 209 = .ok (.iload_n 3, 1) := by decide +kernel
theorem dX3_value_210 : decode cX3_value 210 = .ok (.ifCond .le 113, 3) := by decide +kernel
theorem dX3_value_213 : decode cX3_value 213 = .ok (.aload_n 0, 1) := by decide +kernel
theorem dX3_value_214 : decode cX3_value 214 = .ok (.getfield 26, 3) := by decide +kernel
theorem dX3_value_217 : decode cX3_value 217 = .ok (.iload_n 3, 1) := by decide +kernel
theorem dX3_value_218 : decode cX3_value 218 = .ok (.iconst 1, 1) := by decide +kernel
theorem dX3_value_219 : decode cX3_value 219 = .ok (.isub, 1) := by decide +kernel
theorem dX3_value_220 : decode cX3_value 220 = .ok (.aload_n 0, 1) := by decide +kernel
theorem dX3_value_221 : decode cX3_value 221 = .ok (.iload 6, 2) := by decide +kernel
theorem dX3_value_223 : decode cX3_value 223 = .ok (.aload_n 0, 1) := by decide +kernel
theorem dX3_value_224 : decode cX3_value 224 = .ok (.getfield 26, 3) := by decide +kernel
theorem dX3_value_227 : decode cX3_value 227 = .ok (.iload_n 3, 1) := by decide +kernel
theorem dX3_value_228 : decode cX3_value 228 = .ok (.iconst 1, 1) := by decide +kernel
theorem dX3_value_229 : decode cX3_value 229 = .ok (.isub, 1) := by decide +kernel
theorem dX3_value_230 : decode cX3_value 230 = .ok (.iaload, 1) := by decide +kernel
theorem dX3_value_231 : decode cX3_value 231 = .ok (.invokevirtual 109, 3) := by decide +kernel
theorem dX3_value_234 : decode cX3_value 234 = .ok (.iastore, 1) := by decide +kernel
theorem dX3_value_235 : decode cX3_value 235 = .ok (.goto 88, 3) := by decide +kernel
theorem dX3_value_238 : decode cX3_value 238 = .ok (.iload_n 3, 1) := by decide +kernel
theorem dX3_value_239 : decode cX3_value 239 = .ok (.iconst 1, 1) := by decide +kernel
theorem dX3_value_240 : decode cX3_value 240 = .ok (.if_icmp .le 83, 3) := by decide +kernel
theorem dX3_value_243 : decode cX3_value 243 = .ok (.iinc 3 (-1), 3) := by decide +kernel
theorem dX3_value_246 : decode cX3_value 246 = .ok (.aload_n 0, 1) := by decide +kernel
theorem dX3_value_247 : decode cX3_value 247 = .ok (.getfield 26, 3) := by decide +kernel
theorem dX3_value_250 : decode cX3_value 250 = .ok (.iload_n 3, 1) := by decide +kernel
theorem dX3_value_251 : decode cX3_value 251 = .ok (.iconst 1, 1) := by decide +kernel
theorem dX3_value_252 : decode cX3_value 252 = .ok (.isub, 1) := by decide +kernel
theorem dX3_value_253 : decode cX3_value 253 = .ok (.iaload, 1) := by decide +kernel
theorem dX3_value_254 : decode cX3_value 254 = .ok (.istore 9, 2) := by decide +kernel
theorem dX3_value_256 : decode cX3_value 256 = .ok (.aload_n 0, 1) := by decide +kernel
theorem dX3_value_257 : decode cX3_value 257 = .ok (.getfield 26, 3) := by decide +kernel
theorem dX3_value_260 : decode cX3_value 260 = .ok (.iload_n 3, 1) := by decide +kernel
theorem dX3_value_261 : decode cX3_value 261 = .ok (.iaload, 1) := by decide +kernel
theorem dX3_value_262 : decode cX3_value 262 = .ok (.istore 10, 2) := by decide +kernel
theorem dX3_value_264 : decode cX3_value 264 = .ok (.iload 6, 2) := by decide +kernel
theorem dX3_value_266 : decode cX3_value 266 = .ok (.bipush 54, 2) := by decide +kernel
theorem dX3_value_268 : decode cX3_value 268 = .ok (.if_icmp .lt 30, 3) := by decide +kernel
theorem dX3_value_271 : decode cX3_value 271 = .ok (.iload 6, 2) := by decide +kernel
theorem dX3_value_273 : decode cX3_value 273 = .ok (.bipush 58, 2) := by decide +kernel
theorem dX3_value_275 : decode cX3_value 275 = .ok (.if_icmp .gt 23, 3) := by decide +kernel
theorem dX3_value_278 : decode cX3_value 278 = .ok (.aload_n 0, 1) := by decide +kernel
theorem dX3_value_279 : decode cX3_value 279 = .ok (.getfield 26, 3) := by decide +kernel
theorem dX3_value_282 : decode cX3_value 282 = .ok (.iload_n 3, 1) := by decide +kernel
theorem dX3_value_283 : decode cX3_value 283 = .ok (.iconst 1, 1) := by decide +kernel
theorem dX3_value_284 : decode cX3_value 284 = .ok (.isub, 1) := by decide +kernel
theorem dX3_value_285 : decode cX3_value 285 = .ok (.iload 6, 2) := by decide +kernel
theorem dX3_value_287 : decode cX3_value 287 = .ok (.iload 9, 2) := by decide +kernel
theorem dX3_value_289 : decode cX3_value 289 = .ok (.iload 10, 2) := by decide +kernel
theorem dX3_value_291 : decode cX3_value 291 = .ok (.invokestatic 112, 3) := by decide +kernel
theorem dX3_value_294 : decode cX3_value 294 = .ok (.iastore, 1) := by decide +kernel
theorem dX3_value_295 : decode cX3_value 295 = .ok (.goto 28, 3) := by decide +kernel
theorem dX3_value_298 : decode cX3_value 298 = .ok (.aload_n 0, 1) := by decide +kernel
theorem dX3_value_299 : decode cX3_value 299 = .ok (.getfield 26, 3) := by decide +kernel
theorem dX3_value_302 : decode cX3_value 302 = .ok (.iload_n 3, 1) := by decide +kernel
theorem dX3_value_303 : decode cX3_value 303 = .ok (.iconst 1, 1) := by decide +kernel
theorem dX3_value_304 : decode cX3_value 304 = .ok (.isub, 1) := by decide +kernel
theorem dX3_value_305 : decode cX3_value 305 = .ok (.iload 6, 2) := by decide +kernel
theorem dX3_value_307 : decode cX3_value 307 = .ok (.iload 9, 2) := by decide +kernel
theorem dX3_value_309 : decode cX3_value 309 = .ok (.iload 10, 2) := by decide +kernel
theorem dX3_value_311 : decode cX3_value 311 = .ok (.invokestatic 115, 3) := by decide +kernel
theorem dX3_value_314 : decode cX3_value 314 = .ok (.ifCond .eq 7, 3) := by decide +kernel
theorem dX3_value_317 : decode cX3_value 317 = .ok (.iconst 1, 1) := by decide +kernel
theorem dX3_value_318 : decode cX3_value 318 = .ok (.goto 4, 3) := by decide +kernel
theorem dX3_value_321 : decode cX3_value 321 = .ok (.iconst 0, 1) := by decide +kernel
theorem dX3_value_322 : decode cX3_value 322 = .ok (.iastore, 1) := by decide +kernel
theorem dX3_value_323 : decode cX3_value 323 = .ok (.iinc 5 1, 3) := by decide +kernel
theorem dX3_value_326 : decode cX3_value 326 = .ok (.goto (-302), 3) := by decide +kernel
theorem dX3_value_329 : decode cX3_value 329 = .ok (.iload_n 3, 1) := by decide +kernel
theorem dX3_value_330 : decode cX3_value 330 = .ok (.ifCond .le 14, 3) := by decide +kernel
theorem dX3_value_333 : decode cX3_value 333 = .ok (.aload_n 0, 1) := by decide +kernel
theorem dX3_value_334 : decode cX3_value 334 = .ok (.getfield 26, 3) := by decide +kernel
theorem dX3_value_337 : decode cX3_value 337 = .ok (.iload_n 3, 1) := by decide +kernel
theorem dX3_value_338 : decode cX3_value 338 = .ok (.iconst 1, 1) := by decide +kernel
theorem dX3_value_339 : decode cX3_value 339 = .ok (.isub, 1) := by decide +kernel
theorem dX3_value_340 : decode cX3_value 340 = .ok (.iaload, 1) := by decide +kernel
theorem dX3_value_341 : decode cX3_value 341 = .ok (.goto 4, 3) := by decide +kernel
theorem dX3_value_344 : decode cX3_value 344 = .ok (.iconst 0, 1) := by decide +kernel
theorem dX3_value_345 : decode cX3_value 345 = .ok (.ireturn, 1) := by decide +kernel
theorem dX3_altered_0 : decode cX3_altered 0 = .ok (.iload_n 1, 1) := by decide +kernel
theorem dX3_altered_1 : decode cX3_altered 1 = .ok (.bipush 70, 2) := by decide +kernel
theorem dX3_altered_3 : decode cX3_altered 3 = .ok (.if_icmp .ne 6, 3) := by decide +kernel
theorem dX3_altered_6 : decode cX3_altered 6 = .ok (.iload_n 2, 1) := by decide +kernel
theorem dX3_altered_7 : decode cX3_altered 7 = .ok (.ineg, 1) := by decide +kernel
theorem dX3_altered_8 : decode cX3_altered 8 = .ok (.ireturn, 1) := by decide +kernel
theorem dX3_altered_9 : decode cX3_altered 9 = .ok (.iload_n 1, 1) := by decide +kernel
theorem dX3_altered_10 : decode cX3_altered 10 = .ok (.bipush 18, 2) := by decide +kernel
theorem dX3_altered_12 : decode cX3_altered 12 = .ok (.if_icmp .ne 7, 3) := by decide +kernel
theorem dX3_altered_15 : decode cX3_altered 15 = .ok (.iconst 1, 1) := by decide +kernel
theorem dX3_altered_16 : decode cX3_altered 16 = .ok (.iload_n 2, 1) := by decide +kernel
theorem dX3_altered_17 : decode cX3_altered 17 = .ok (.isub, 1) := by decide +kernel
theorem dX3_altered_18 : decode cX3_altered 18 = .ok (.ireturn, 1) := by decide +kernel
theorem dX3_altered_19 : decode cX3_altered 19 = .ok (.iload_n 2, 1) := by decide +kernel
theorem dX3_altered_20 : decode cX3_altered 20 = .ok (.ifCond .lt 21, 3) := by decide +kernel
theorem dX3_altered_23 : decode cX3_altered 23 = .ok (.iload_n 2, 1) := by decide +kernel
theorem dX3_altered_24 : decode cX3_altered 24 = .ok (.bipush 12, 2) := by decide +kernel
theorem dX3_altered_26 : decode cX3_altered 26 = .ok (.if_icmp .ge 15, 3) := by decide +kernel
theorem dX3_altered_29 : decode cX3_altered 29 = .ok (.aload_n 0, 1) := by decide +kernel
theorem dX3_altered_30 : decode cX3_altered 30 = .ok (.getfield 29, 3) := by decide +kernel
theorem dX3_altered_33 : decode cX3_altered 33 = .ok (.getfield 118, 3) := by decide +kernel
theorem dX3_altered_36 : decode cX3_altered 36 = .ok (.iload_n 2, 1) := by decide +kernel
theorem dX3_altered_37 : decode cX3_altered 37 = .ok (.iaload, 1) := by decide +kernel
theorem dX3_altered_38 : decode cX3_altered 38 = .ok (.goto 4, 3) := by decide +kernel
theorem dX3_altered_41 : decode cX3_altered 41 = .ok (.iconst 0, 1) := by decide +kernel
theorem dX3_altered_42 : decode cX3_altered 42 = .ok (.ireturn, 1) := by decide +kernel
theorem dX3_joined_0 : decode cX3_joined 0 = .ok (.iload_n 0, 1) := by decide +kernel
theorem dX3_joined_1 : decode cX3_joined 1 = .ok (.tableswitch 70 54 57 #[31, 40, 49, 58], 31) := by decide +kernel
theorem dX3_joined_32 : decode cX3_joined 32 = .ok (.iload_n 1, 1) := by decide +kernel
theorem dX3_joined_33 : decode cX3_joined 33 = .ok (.i2l, 1) := by decide +kernel
theorem dX3_joined_34 : decode cX3_joined 34 = .ok (.iload_n 2, 1) := by decide +kernel
theorem dX3_joined_35 : decode cX3_joined 35 = .ok (.i2l, 1) := by decide +kernel
theorem dX3_joined_36 : decode cX3_joined 36 = .ok (.ladd, 1) := by decide +kernel
theorem dX3_joined_37 : decode cX3_joined 37 = .ok (.lstore_n 3, 1) := by decide +kernel
theorem dX3_joined_38 : decode cX3_joined 38 = .ok (.goto 45, 3) := by decide +kernel
theorem dX3_joined_41 : decode cX3_joined 41 = .ok (.iload_n 1, 1) := by decide +kernel
theorem dX3_joined_42 : decode cX3_joined 42 = .ok (.i2l, 1) := by decide +kernel
theorem dX3_joined_43 : decode cX3_joined 43 = .ok (.iload_n 2, 1) := by decide +kernel
theorem dX3_joined_44 : decode cX3_joined 44 = .ok (.i2l, 1) := by decide +kernel
theorem dX3_joined_45 : decode cX3_joined 45 = .ok (.lsub, 1) := by decide +kernel
theorem dX3_joined_46 : decode cX3_joined 46 = .ok (.lstore_n 3, 1) := by decide +kernel
theorem dX3_joined_47 : decode cX3_joined 47 = .ok (.goto 36, 3) := by decide +kernel
theorem dX3_joined_50 : decode cX3_joined 50 = .ok (.iload_n 1, 1) := by decide +kernel
theorem dX3_joined_51 : decode cX3_joined 51 = .ok (.i2l, 1) := by decide +kernel
theorem dX3_joined_52 : decode cX3_joined 52 = .ok (.iload_n 2, 1) := by decide +kernel
theorem dX3_joined_53 : decode cX3_joined 53 = .ok (.i2l, 1) := by decide +kernel
theorem dX3_joined_54 : decode cX3_joined 54 = .ok (.lmul, 1) := by decide +kernel
theorem dX3_joined_55 : decode cX3_joined 55 = .ok (.lstore_n 3, 1) := by decide +kernel
theorem dX3_joined_56 : decode cX3_joined 56 = .ok (.goto 27, 3) := by decide +kernel
theorem dX3_joined_59 : decode cX3_joined 59 = .ok (.iload_n 2, 1) := by decide +kernel
theorem dX3_joined_60 : decode cX3_joined 60 = .ok (.ifCond .ne 7, 3) := by decide +kernel
theorem dX3_joined_63 : decode cX3_joined 63 = .ok (.iconst 0, 1) := by decide +kernel
theorem dX3_joined_64 : decode cX3_joined 64 = .ok (.goto 6, 3) := by decide +kernel
theorem dX3_joined_67 : decode cX3_joined 67 = .ok (.iload_n 1, 1) := by decide +kernel
theorem dX3_joined_68 : decode cX3_joined 68 = .ok (.iload_n 2, 1) := by decide +kernel
theorem dX3_joined_69 : decode cX3_joined 69 = .ok (.idiv, 1) := by decide +kernel
theorem dX3_joined_70 : decode cX3_joined 70 = .ok (.ireturn, 1) := by decide +kernel
theorem dX3_joined_71 : decode cX3_joined 71 = .ok (.iload_n 2, 1) := by decide +kernel
theorem dX3_joined_72 : decode cX3_joined 72 = .ok (.ifCond .ne 7, 3) := by decide +kernel
theorem dX3_joined_75 : decode cX3_joined 75 = .ok (.iconst 0, 1) := by decide +kernel
theorem dX3_joined_76 : decode cX3_joined 76 = .ok (.goto 6, 3) := by decide +kernel
theorem dX3_joined_79 : decode cX3_joined 79 = .ok (.iload_n 1, 1) := by decide +kernel
theorem dX3_joined_80 : decode cX3_joined 80 = .ok (.iload_n 2, 1) := by decide +kernel
theorem dX3_joined_81 : decode cX3_joined 81 = .ok (.irem, 1) := by decide +kernel
theorem dX3_joined_82 : decode cX3_joined 82 = .ok (.ireturn, 1) := by decide +kernel
theorem dX3_joined_83 : decode cX3_joined 83 = .ok (.lload_n 3, 1) := by decide +kernel
theorem dX3_joined_84 : decode cX3_joined 84 = .ok (.ldc2_w 121, 3) := by decide +kernel
theorem dX3_joined_87 : decode cX3_joined 87 = .ok (.lcmp, 1) := by decide +kernel
theorem dX3_joined_88 : decode cX3_joined 88 = .ok (.ifCond .le 6, 3) := by decide +kernel
theorem dX3_joined_91 : decode cX3_joined 91 = .ok (.ldc 123, 2) := by decide +kernel
theorem dX3_joined_93 : decode cX3_joined 93 = .ok (.ireturn, 1) := by decide +kernel
theorem dX3_joined_94 : decode cX3_joined 94 = .ok (.lload_n 3, 1) := by decide +kernel
theorem dX3_joined_95 : decode cX3_joined 95 = .ok (.ldc2_w 124, 3) := by decide +kernel
theorem dX3_joined_98 : decode cX3_joined 98 = .ok (.lcmp, 1) := by decide +kernel
theorem dX3_joined_99 : decode cX3_joined 99 = .ok (.ifCond .ge 8, 3) := by decide +kernel
theorem dX3_joined_102 : decode cX3_joined 102 = .ok (.ldc 126, 2) := by decide +kernel
theorem dX3_joined_104 : decode cX3_joined 104 = .ok (.goto 5, 3) := by decide +kernel
theorem dX3_joined_107 : decode cX3_joined 107 = .ok (.lload_n 3, 1) := by decide +kernel
theorem dX3_joined_108 : decode cX3_joined 108 = .ok (.l2i, 1) := by decide +kernel
theorem dX3_joined_109 : decode cX3_joined 109 = .ok (.ireturn, 1) := by decide +kernel
theorem dX3_asked_0 : decode cX3_asked 0 = .ok (.iload_n 0, 1) := by decide +kernel
theorem dX3_asked_1 : decode cX3_asked 1 = .ok (.lookupswitch 146 #[(19, 67), (20, 79), (50, 91), (51, 113), (52, 135), (62, 102), (63, 124)], 67) := by decide +kernel
theorem dX3_asked_68 : decode cX3_asked 68 = .ok (.iload_n 1, 1) := by decide +kernel
theorem dX3_asked_69 : decode cX3_asked 69 = .ok (.iload_n 2, 1) := by decide +kernel
theorem dX3_asked_70 : decode cX3_asked 70 = .ok (.iand, 1) := by decide +kernel
theorem dX3_asked_71 : decode cX3_asked 71 = .ok (.ifCond .eq 7, 3) := by decide +kernel
theorem dX3_asked_74 : decode cX3_asked 74 = .ok (.iconst 1, 1) := by decide +kernel
theorem dX3_asked_75 : decode cX3_asked 75 = .ok (.goto 4, 3) := by decide +kernel
theorem dX3_asked_78 : decode cX3_asked 78 = .ok (.iconst 0, 1) := by decide +kernel
theorem dX3_asked_79 : decode cX3_asked 79 = .ok (.ireturn, 1) := by decide +kernel
theorem dX3_asked_80 : decode cX3_asked 80 = .ok (.iload_n 1, 1) := by decide +kernel
theorem dX3_asked_81 : decode cX3_asked 81 = .ok (.iload_n 2, 1) := by decide +kernel
theorem dX3_asked_82 : decode cX3_asked 82 = .ok (.ior, 1) := by decide +kernel
theorem dX3_asked_83 : decode cX3_asked 83 = .ok (.ifCond .eq 7, 3) := by decide +kernel
theorem dX3_asked_86 : decode cX3_asked 86 = .ok (.iconst 1, 1) := by decide +kernel
theorem dX3_asked_87 : decode cX3_asked 87 = .ok (.goto 4, 3) := by decide +kernel
theorem dX3_asked_90 : decode cX3_asked 90 = .ok (.iconst 0, 1) := by decide +kernel
theorem dX3_asked_91 : decode cX3_asked 91 = .ok (.ireturn, 1) := by decide +kernel
theorem dX3_asked_92 : decode cX3_asked 92 = .ok (.iload_n 1, 1) := by decide +kernel
theorem dX3_asked_93 : decode cX3_asked 93 = .ok (.iload_n 2, 1) := by decide +kernel
theorem dX3_asked_94 : decode cX3_asked 94 = .ok (.if_icmp .ge 7, 3) := by decide +kernel
theorem dX3_asked_97 : decode cX3_asked 97 = .ok (.iconst 1, 1) := by decide +kernel
theorem dX3_asked_98 : decode cX3_asked 98 = .ok (.goto 4, 3) := by decide +kernel
theorem dX3_asked_101 : decode cX3_asked 101 = .ok (.iconst 0, 1) := by decide +kernel
theorem dX3_asked_102 : decode cX3_asked 102 = .ok (.ireturn, 1) := by decide +kernel
theorem dX3_asked_103 : decode cX3_asked 103 = .ok (.iload_n 1, 1) := by decide +kernel
theorem dX3_asked_104 : decode cX3_asked 104 = .ok (.iload_n 2, 1) := by decide +kernel
theorem dX3_asked_105 : decode cX3_asked 105 = .ok (.if_icmp .gt 7, 3) := by decide +kernel
theorem dX3_asked_108 : decode cX3_asked 108 = .ok (.iconst 1, 1) := by decide +kernel
theorem dX3_asked_109 : decode cX3_asked 109 = .ok (.goto 4, 3) := by decide +kernel
theorem dX3_asked_112 : decode cX3_asked 112 = .ok (.iconst 0, 1) := by decide +kernel
theorem dX3_asked_113 : decode cX3_asked 113 = .ok (.ireturn, 1) := by decide +kernel
theorem dX3_asked_114 : decode cX3_asked 114 = .ok (.iload_n 1, 1) := by decide +kernel
theorem dX3_asked_115 : decode cX3_asked 115 = .ok (.iload_n 2, 1) := by decide +kernel
theorem dX3_asked_116 : decode cX3_asked 116 = .ok (.if_icmp .le 7, 3) := by decide +kernel
theorem dX3_asked_119 : decode cX3_asked 119 = .ok (.iconst 1, 1) := by decide +kernel
theorem dX3_asked_120 : decode cX3_asked 120 = .ok (.goto 4, 3) := by decide +kernel
theorem dX3_asked_123 : decode cX3_asked 123 = .ok (.iconst 0, 1) := by decide +kernel
theorem dX3_asked_124 : decode cX3_asked 124 = .ok (.ireturn, 1) := by decide +kernel
theorem dX3_asked_125 : decode cX3_asked 125 = .ok (.iload_n 1, 1) := by decide +kernel
theorem dX3_asked_126 : decode cX3_asked 126 = .ok (.iload_n 2, 1) := by decide +kernel
theorem dX3_asked_127 : decode cX3_asked 127 = .ok (.if_icmp .lt 7, 3) := by decide +kernel
theorem dX3_asked_130 : decode cX3_asked 130 = .ok (.iconst 1, 1) := by decide +kernel
theorem dX3_asked_131 : decode cX3_asked 131 = .ok (.goto 4, 3) := by decide +kernel
theorem dX3_asked_134 : decode cX3_asked 134 = .ok (.iconst 0, 1) := by decide +kernel
theorem dX3_asked_135 : decode cX3_asked 135 = .ok (.ireturn, 1) := by decide +kernel
theorem dX3_asked_136 : decode cX3_asked 136 = .ok (.iload_n 1, 1) := by decide +kernel
theorem dX3_asked_137 : decode cX3_asked 137 = .ok (.iload_n 2, 1) := by decide +kernel
theorem dX3_asked_138 : decode cX3_asked 138 = .ok (.if_icmp .ne 7, 3) := by decide +kernel
theorem dX3_asked_141 : decode cX3_asked 141 = .ok (.iconst 1, 1) := by decide +kernel
theorem dX3_asked_142 : decode cX3_asked 142 = .ok (.goto 4, 3) := by decide +kernel
theorem dX3_asked_145 : decode cX3_asked 145 = .ok (.iconst 0, 1) := by decide +kernel
theorem dX3_asked_146 : decode cX3_asked 146 = .ok (.ireturn, 1) := by decide +kernel
theorem dX3_asked_147 : decode cX3_asked 147 = .ok (.iload_n 1, 1) := by decide +kernel
theorem dX3_asked_148 : decode cX3_asked 148 = .ok (.iload_n 2, 1) := by decide +kernel
theorem dX3_asked_149 : decode cX3_asked 149 = .ok (.if_icmp .eq 7, 3) := by decide +kernel
theorem dX3_asked_152 : decode cX3_asked 152 = .ok (.iconst 1, 1) := by decide +kernel
theorem dX3_asked_153 : decode cX3_asked 153 = .ok (.goto 4, 3) := by decide +kernel
theorem dX3_asked_156 : decode cX3_asked 156 = .ok (.iconst 0, 1) := by decide +kernel
theorem dX3_asked_157 : decode cX3_asked 157 = .ok (.ireturn, 1) := by decide +kernel
section
variable {p : Program} {l : Launch} {e : Env} {R : Room} {s : State} {m : MethodId} {args : Array Value} {below : List Frame} {meth : Method} {c : Code} {Q : State → Prop} {V : g_V} {nf nl : Nat}
set_option maxRecDepth 100000 in
set_option maxHeartbeats 4000000 in
theorem b_X3_lookAround (C : g_CX xG V p R s m args meth c cX3_lookAround 1 none RX3 3 65) {res : g_M} (hR : g_RetV xG V p l e R s m args below meth c Q cX3_lookAround res)  {M : g_M} {H : Heap} {locs : List Loc} {ls : Array Slot} (h : m_X3_lookAround M = some res) (hp : g_PT xG V M s H locs) (hl : lv_has ls 1 [(0, .ref (V.2.2 31))]) : W p l e R s m args below meth c H locs 0 0 Q (F0 m 0 ls []) := by
  unfold m_X3_lookAround at h
  refine lv_aload_n C.1 C.2.1 dX3_lookAround_0 rfl (lv_at hl 0 rfl) ?_
  refine r_getr (t := 33) C hp xk_31 xs_31 xc_3 xin_3 (j := 3) (by decide) rfl gw_327 rfl dX3_lookAround_1 ?_
  refine r_bipush C dX3_lookAround_4 (by decide +kernel) ?_
  refine lv_aload_n C.1 C.2.1 dX3_lookAround_6 rfl (lv_at hl 0 rfl) ?_
  refine r_getr (t := 1) C hp xk_31 xs_31 xc_3 xin_3 (j := 0) (by decide) rfl gw_324 rfl dX3_lookAround_7 ?_
  refine r_getr (t := 2) C hp xk_1 xs_1 xc_1 xin_1 (j := 0) (by decide) rfl gw_146 rfl dX3_lookAround_10 ?_
  refine r_bipush C dX3_lookAround_13 (by decide +kernel) ?_
  refine r_iald C hp h xk_2 xs_2 dX3_lookAround_15 (fun h => ?_)
  refine r_iast C hp h xk_33 xs_33 dX3_lookAround_16 (fun M11 H locs h hp => ?_)
  refine lv_aload_n C.1 C.2.1 dX3_lookAround_17 rfl (lv_at hl 0 rfl) ?_
  refine r_getr (t := 33) C hp xk_31 xs_31 xc_3 xin_3 (j := 3) (by decide) rfl gw_327 rfl dX3_lookAround_18 ?_
  refine r_bipush C dX3_lookAround_21 (by decide +kernel) ?_
  refine lv_aload_n C.1 C.2.1 dX3_lookAround_23 rfl (lv_at hl 0 rfl) ?_
  refine r_getr (t := 1) C hp xk_31 xs_31 xc_3 xin_3 (j := 0) (by decide) rfl gw_324 rfl dX3_lookAround_24 ?_
  obtain ⟨x12, hr, h⟩ := bd_of h
  refine r_callVI (As := []) (rest := [.int (gI 22), .ref (V.2.2 33)]) C hl.1 hp (c_X1_seenBits l C.2.2.2.2.2.2.2.2.2.2.2 hr) gw_832 gw_833 gw_834 xk_1 xs_1 xc_1 cal_X1_seenBits rfl rfl (Nat.le_of_ble_eq_true rfl) ⟨Nat.le_of_ble_eq_true rfl, Nat.le_of_ble_eq_true rfl⟩ dX3_lookAround_27 (fun H locs hp => ?_)
  obtain ⟨x13, hr, h⟩ := bd_of h
  refine r_callSI (As := [.int (gI x12)]) (rest := [.int (gI 22), .ref (V.2.2 33)]) C hl.1 hp (c_J6_bitCount_0f7a4 l C.2.2.2.2.2.2.2.2.2.2.2 hr) gw_841 gw_842 cal_J6_bitCount_0f7a4 rfl rfl (Nat.le_of_ble_eq_true rfl) ⟨Nat.le_of_ble_eq_true rfl, Nat.le_of_ble_eq_true rfl⟩ dX3_lookAround_30 (fun H locs hp => ?_)
  refine r_iast C hp h xk_33 xs_33 dX3_lookAround_33 (fun M14 H locs h hp => ?_)
  refine lv_aload_n C.1 C.2.1 dX3_lookAround_34 rfl (lv_at hl 0 rfl) ?_
  refine r_getr (t := 33) C hp xk_31 xs_31 xc_3 xin_3 (j := 3) (by decide) rfl gw_327 rfl dX3_lookAround_35 ?_
  refine r_bipush C dX3_lookAround_38 (by decide +kernel) ?_
  refine lv_aload_n C.1 C.2.1 dX3_lookAround_40 rfl (lv_at hl 0 rfl) ?_
  refine r_getr (t := 1) C hp xk_31 xs_31 xc_3 xin_3 (j := 0) (by decide) rfl gw_324 rfl dX3_lookAround_41 ?_
  obtain ⟨x15, hr, h⟩ := bd_of h
  refine r_callVI (As := []) (rest := [.int (gI 23), .ref (V.2.2 33)]) C hl.1 hp (c_X1_plainTogether l C.2.2.2.2.2.2.2.2.2.2.2 hr) gw_847 gw_848 gw_849 xk_1 xs_1 xc_1 cal_X1_plainTogether rfl rfl (Nat.le_of_ble_eq_true rfl) ⟨Nat.le_of_ble_eq_true rfl, Nat.le_of_ble_eq_true rfl⟩ dX3_lookAround_44 (fun H locs hp => ?_)
  refine r_iast C hp h xk_33 xs_33 dX3_lookAround_47 (fun M16 H locs h hp => ?_)
  cases h
  exact hR _ _ _ _ dX3_lookAround_48 hp
theorem c_X3_lookAround (l : Launch) {V : g_V} (hok : g_ok xG V)  {M : g_M} {res : g_M} (h : m_X3_lookAround M = some res) : MetV xG V l yX3_lookAround cX3_lookAround 1 none 3 65 [.ref (V.2.2 31)] M res :=
  g_metV hok cal_X3_lookAround.2.2.2 rfl (Nat.le_of_ble_eq_true rfl) (@fun p e R s m args below meth c Q ls C hR hp hl => b_X3_lookAround C hR h hp hl)
set_option maxRecDepth 100000 in
set_option maxHeartbeats 4000000 in
theorem b_X3_textOf (C : g_CX xG V p R s m args meth c cX3_textOf 3 (some (.object "FilmLooksBack$Text")) RX3 1 22) {res : Nat} {M : g_M} (hR : g_RetR xG V p l e R s m args below meth c Q cX3_textOf res M) {a1 : Int} {H : Heap} {locs : List Loc} {ls : Array Slot} (h : m_X3_textOf a1 M = some res) (hp : g_PT xG V M s H locs) (hl : lv_has ls 3 [(0, .ref (V.2.2 31)), (1, .int (gI a1))]) : W p l e R s m args below meth c H locs 0 0 Q (F0 m 0 ls []) := by
  unfold m_X3_textOf at h
  refine lv_iload_n C.1 C.2.1 dX3_textOf_0 rfl (lv_at hl 1 rfl) ?_
  refine r_iconst C dX3_textOf_1 ?_
  refine r_iconst C dX3_textOf_2 ?_
  obtain ⟨x11, hr, h⟩ := bd_of h
  refine r_callNI (As := [.int (gI a1), .int (gI 0), .int (gI 3)]) (rest := []) C hl.1 hp (c_X8_within l C.2.2.2.2.2.2.2.2.2.2.2 hr) (x_nest C (i := 1) rfl) gw_464 cal_X8_within rfl rfl (Nat.le_of_ble_eq_true rfl) ⟨Nat.le_of_ble_eq_true rfl, Nat.le_of_ble_eq_true rfl⟩ dX3_textOf_3 (fun H locs hp => ?_)
  refine r_if_eq (tgt := 18) C h dX3_textOf_6 (by decide) (fun h => ?_) (fun h => ?_)
  · refine lv_aload_n C.1 C.2.1 dX3_textOf_18 rfl (lv_at hl 0 rfl) ?_
    refine r_getr (t := 35) C hp xk_31 xs_31 xc_3 xin_3 (j := 2) (by decide) rfl gw_326 rfl dX3_textOf_19 ?_
    refine r_jn (P := fun J => ∀  (H : Heap) (locs : List Loc) (ls : Array Slot), J  = some res → g_PT xG V M s H locs → lv_has ls 3 [] → W p l e R s m args below meth c H locs 0 0 Q (F0 m 35 ls [.ref (V.2.2 35)])) h ?_ (fun J12 hJ12 h => ?_)
    · intro  H locs ls h hp hl
      cases h
      exact hR _ _ _ _ dX3_textOf_35 hp
    refine lv_astore_n (lv' := [(2, .ref (V.2.2 35)), (0, .ref (V.2.2 31)), (1, .int (gI a1))]) C.1 C.2.1 dX3_textOf_22 rfl hl (by decide) rfl (fun ls hl => ?_)
    refine lv_aload_n C.1 C.2.1 dX3_textOf_23 rfl (lv_at hl 0 rfl) ?_
    refine lv_ifnonnull (tgt := 34) C.1 C.2.1 dX3_textOf_24 (by decide) ?_
    refine lv_aload_n C.1 C.2.1 dX3_textOf_34 rfl (lv_at hl 0 rfl) ?_
    exact hJ12  _ _ _ h hp (lv_sub hl [] rfl)
  · refine lv_aload_n C.1 C.2.1 dX3_textOf_9 rfl (lv_at hl 0 rfl) ?_
    refine r_getr (t := 32) C hp xk_31 xs_31 xc_3 xin_3 (j := 1) (by decide) rfl gw_325 rfl dX3_textOf_10 ?_
    refine lv_iload_n C.1 C.2.1 dX3_textOf_13 rfl (lv_at hl 1 rfl) ?_
    refine r_aald C hp h xk_32 xs_32 dX3_textOf_14 (fun h => ?_)
    refine r_goto (tgt := 22) C dX3_textOf_15 (by decide) ?_
    refine r_jn (P := fun J => ∀ (t14 : Nat) (H : Heap) (locs : List Loc) (ls : Array Slot), J t14 = some res → g_PT xG V M s H locs → lv_has ls 3 [] → W p l e R s m args below meth c H locs 0 0 Q (F0 m 35 ls [.ref (V.2.2 t14)])) h ?_ (fun J13 hJ13 h => ?_)
    · intro t14 H locs ls h hp hl
      cases h
      exact hR _ _ _ _ dX3_textOf_35 hp
    refine lv_astore_n (lv' := [(2, .ref (V.2.2 (x_txt (gs a1).toNat))), (0, .ref (V.2.2 31)), (1, .int (gI a1))]) C.1 C.2.1 dX3_textOf_22 rfl hl (by decide) rfl (fun ls hl => ?_)
    refine lv_aload_n C.1 C.2.1 dX3_textOf_23 rfl (lv_at hl 0 rfl) ?_
    refine lv_ifnonnull (tgt := 34) C.1 C.2.1 dX3_textOf_24 (by decide) ?_
    refine lv_aload_n C.1 C.2.1 dX3_textOf_34 rfl (lv_at hl 0 rfl) ?_
    exact hJ13 _ _ _ _ h hp (lv_sub hl [] rfl)
theorem c_X3_textOf (l : Launch) {V : g_V} (hok : g_ok xG V) {a1 : Int} {M : g_M} {x : Nat} (h : m_X3_textOf a1 M = some x) : MetR xG V l yX3_textOf cX3_textOf 3 (some (.object "FilmLooksBack$Text")) 1 22 [.ref (V.2.2 31), .int (gI a1)] M x M :=
  g_metR hok cal_X3_textOf.2.2.2 rfl (Nat.le_of_ble_eq_true rfl) (@fun p e R s m args below meth c Q ls C hR hp hl => b_X3_textOf C hR h hp hl)
set_option maxRecDepth 100000 in
set_option maxHeartbeats 4000000 in
theorem b_X3_joined (C : g_CX xG V p R s m args meth c cX3_joined 5 (some .int) RX3 0 0) {res : Int} {M : g_M} (hR : g_RetI xG V p l e R s m args below meth c Q cX3_joined .int res M) {a1 : Int} {a2 : Int} {a3 : Int} {H : Heap} {locs : List Loc} {ls : Array Slot} (h : m_X3_joined a1 a2 a3 = some res) (hp : g_PT xG V M s H locs) (hl : lv_has ls 5 [(0, .int (gI a1)), (1, .int (gI a2)), (2, .int (gI a3))]) : W p l e R s m args below meth c H locs 0 0 Q (F0 m 0 ls []) := by
  unfold m_X3_joined at h
  refine r_jn (P := fun J => ∀ (x15 : Int) (H : Heap) (locs : List Loc) (ls : Array Slot), J x15 = some res → g_PT xG V M s H locs → lv_has ls 5 [(3, .long (gJ x15))] → W p l e R s m args below meth c H locs 0 0 Q (F0 m 83 ls [])) h ?_ (fun J11 hJ11 h => ?_)
  · intro x15 H locs ls h hp hl
    refine lv_lload_n C.1 C.2.1 dX3_joined_83 rfl (lv_at hl 0 rfl) ?_
    refine r_ldc2 (n := 1000000) C gw_879 (by decide +kernel) dX3_joined_84 ?_
    refine r_lcmp C dX3_joined_87 ?_
    refine r_if_le (tgt := 94) C h dX3_joined_88 (by decide) (fun h => ?_) (fun h => ?_)
    · refine lv_lload_n C.1 C.2.1 dX3_joined_94 rfl (lv_at hl 0 rfl) ?_
      refine r_ldc2 (n := (-1000000)) C gw_881 (by decide +kernel) dX3_joined_95 ?_
      refine r_lcmp C dX3_joined_98 ?_
      refine r_if_ge (tgt := 107) C h dX3_joined_99 (by decide) (fun h => ?_) (fun h => ?_)
      · refine lv_lload_n C.1 C.2.1 dX3_joined_107 rfl (lv_at hl 0 rfl) ?_
        refine r_l2i C dX3_joined_108 ?_
        cases h
        exact hR _ _ _ _ dX3_joined_109 rfl hp
      · refine r_ldc (n := (-1000000)) C gw_882 (by decide +kernel) dX3_joined_102 ?_
        refine r_goto (tgt := 109) C dX3_joined_104 (by decide) ?_
        cases h
        exact hR _ _ _ _ dX3_joined_109 rfl hp
    · refine r_ldc (n := 1000000) C gw_880 (by decide +kernel) dX3_joined_91 ?_
      cases h
      exact hR _ _ _ _ dX3_joined_93 rfl hp
  refine lv_iload_n C.1 C.2.1 dX3_joined_0 rfl (lv_at hl 0 rfl) ?_
  refine r_ite h (fun hv h => ?_) (fun hv54 h => ?_)
  · refine r_tswIn (tgt := 32) (v := 54) C hv dX3_joined_1 (by decide) rfl (by decide) ?_
    refine lv_iload_n C.1 C.2.1 dX3_joined_32 rfl (lv_at hl 1 rfl) ?_
    refine r_i2l C dX3_joined_33 ?_
    refine lv_iload_n C.1 C.2.1 dX3_joined_34 rfl (lv_at hl 2 rfl) ?_
    refine r_i2l C dX3_joined_35 ?_
    refine r_ladd C dX3_joined_36 ?_
    refine r_lstore_n (lv' := fun x12 => [(3, .long (gJ x12)), (0, .int (gI a1)), (1, .int (gI a2)), (2, .int (gI a3))]) C h dX3_joined_37 rfl hl (by decide) (fun _ => rfl) (fun x12 ls h hl => ?_)
    refine r_goto (tgt := 83) C dX3_joined_38 (by decide) ?_
    exact hJ11 _ _ _ _ h hp (lv_sub hl [0] rfl)
  refine r_ite h (fun hv h => ?_) (fun hv55 h => ?_)
  · refine r_tswIn (tgt := 41) (v := 55) C hv dX3_joined_1 (by decide) rfl (by decide) ?_
    refine lv_iload_n C.1 C.2.1 dX3_joined_41 rfl (lv_at hl 1 rfl) ?_
    refine r_i2l C dX3_joined_42 ?_
    refine lv_iload_n C.1 C.2.1 dX3_joined_43 rfl (lv_at hl 2 rfl) ?_
    refine r_i2l C dX3_joined_44 ?_
    refine r_lsub C dX3_joined_45 ?_
    refine r_lstore_n (lv' := fun x13 => [(3, .long (gJ x13)), (0, .int (gI a1)), (1, .int (gI a2)), (2, .int (gI a3))]) C h dX3_joined_46 rfl hl (by decide) (fun _ => rfl) (fun x13 ls h hl => ?_)
    refine r_goto (tgt := 83) C dX3_joined_47 (by decide) ?_
    exact hJ11 _ _ _ _ h hp (lv_sub hl [0] rfl)
  refine r_ite h (fun hv h => ?_) (fun hv56 h => ?_)
  · refine r_tswIn (tgt := 50) (v := 56) C hv dX3_joined_1 (by decide) rfl (by decide) ?_
    refine lv_iload_n C.1 C.2.1 dX3_joined_50 rfl (lv_at hl 1 rfl) ?_
    refine r_i2l C dX3_joined_51 ?_
    refine lv_iload_n C.1 C.2.1 dX3_joined_52 rfl (lv_at hl 2 rfl) ?_
    refine r_i2l C dX3_joined_53 ?_
    refine r_lmul C dX3_joined_54 ?_
    refine r_lstore_n (lv' := fun x14 => [(3, .long (gJ x14)), (0, .int (gI a1)), (1, .int (gI a2)), (2, .int (gI a3))]) C h dX3_joined_55 rfl hl (by decide) (fun _ => rfl) (fun x14 ls h hl => ?_)
    refine r_goto (tgt := 83) C dX3_joined_56 (by decide) ?_
    exact hJ11 _ _ _ _ h hp (lv_sub hl [0] rfl)
  refine r_ite h (fun hv h => ?_) (fun hv57 h => ?_)
  · refine r_tswIn (tgt := 59) (v := 57) C hv dX3_joined_1 (by decide) rfl (by decide) ?_
    refine lv_iload_n C.1 C.2.1 dX3_joined_59 rfl (lv_at hl 2 rfl) ?_
    refine r_if_ne (tgt := 67) C h dX3_joined_60 (by decide) (fun h => ?_) (fun h => ?_)
    · refine lv_iload_n C.1 C.2.1 dX3_joined_67 rfl (lv_at hl 1 rfl) ?_
      refine lv_iload_n C.1 C.2.1 dX3_joined_68 rfl (lv_at hl 2 rfl) ?_
      refine r_idiv C h dX3_joined_69 (fun h => ?_)
      cases h
      exact hR _ _ _ _ dX3_joined_70 rfl hp
    · refine r_iconst C dX3_joined_63 ?_
      refine r_goto (tgt := 70) C dX3_joined_64 (by decide) ?_
      cases h
      exact hR _ _ _ _ dX3_joined_70 rfl hp
  have hd : W p l e R s m args below meth c H locs 0 0 Q (F0 m 71 ls []) := by
    refine lv_iload_n C.1 C.2.1 dX3_joined_71 rfl (lv_at hl 2 rfl) ?_
    refine r_if_ne (tgt := 79) C h dX3_joined_72 (by decide) (fun h => ?_) (fun h => ?_)
    · refine lv_iload_n C.1 C.2.1 dX3_joined_79 rfl (lv_at hl 1 rfl) ?_
      refine lv_iload_n C.1 C.2.1 dX3_joined_80 rfl (lv_at hl 2 rfl) ?_
      refine r_irem C h dX3_joined_81 (fun h => ?_)
      cases h
      exact hR _ _ _ _ dX3_joined_82 rfl hp
    · refine r_iconst C dX3_joined_75 ?_
      refine r_goto (tgt := 82) C dX3_joined_76 (by decide) ?_
      cases h
      exact hR _ _ _ _ dX3_joined_82 rfl hp
  exact r_tswOut (tgt := 71) C dX3_joined_1 (by omega) (by decide) hd
theorem c_X3_joined (l : Launch) {V : g_V} (hok : g_ok xG V) {a1 : Int} {a2 : Int} {a3 : Int} {M : g_M} {x : Int} (h : m_X3_joined a1 a2 a3 = some x) : MetI xG V l yX3_joined cX3_joined 5 (some .int) 0 0 [.int (gI a1), .int (gI a2), .int (gI a3)] M x M :=
  g_metI hok cal_X3_joined.2.2.2 rfl (Nat.le_of_ble_eq_true rfl) (@fun p e R s m args below meth c Q ls C hR hp hl => b_X3_joined C hR h hp hl)
set_option maxRecDepth 100000 in
set_option maxHeartbeats 4000000 in
theorem b_X3_asked (C : g_CX xG V p R s m args meth c cX3_asked 3 (some .boolean) RX3 0 0) {res : Int} {M : g_M} (hR : g_RetI xG V p l e R s m args below meth c Q cX3_asked .boolean res M) {a1 : Int} {a2 : Int} {a3 : Int} {H : Heap} {locs : List Loc} {ls : Array Slot} (h : m_X3_asked a1 a2 a3 = some res) (hp : g_PT xG V M s H locs) (hl : lv_has ls 3 [(0, .int (gI a1)), (1, .int (gI a2)), (2, .int (gI a3))]) : W p l e R s m args below meth c H locs 0 0 Q (F0 m 0 ls []) := by
  unfold m_X3_asked at h
  refine lv_iload_n C.1 C.2.1 dX3_asked_0 rfl (lv_at hl 0 rfl) ?_
  refine r_ite h (fun hv h => ?_) (fun hv19 h => ?_)
  · refine r_lsw (off := 67) (tgt := 68) C dX3_asked_1 (by decide +kernel) (by rw [hv]; decide +kernel) (by decide) ?_
    refine lv_iload_n C.1 C.2.1 dX3_asked_68 rfl (lv_at hl 1 rfl) ?_
    refine lv_iload_n C.1 C.2.1 dX3_asked_69 rfl (lv_at hl 2 rfl) ?_
    refine r_iand C dX3_asked_70 ?_
    refine r_if_eq (tgt := 78) C h dX3_asked_71 (by decide) (fun h => ?_) (fun h => ?_)
    · refine r_iconst C dX3_asked_78 ?_
      cases h
      exact hR _ _ _ _ dX3_asked_79 g_nz0 hp
    · refine r_iconst C dX3_asked_74 ?_
      refine r_goto (tgt := 79) C dX3_asked_75 (by decide) ?_
      cases h
      exact hR _ _ _ _ dX3_asked_79 g_nz1 hp
  refine r_ite h (fun hv h => ?_) (fun hv20 h => ?_)
  · refine r_lsw (off := 79) (tgt := 80) C dX3_asked_1 (by decide +kernel) (by rw [hv]; decide +kernel) (by decide) ?_
    refine lv_iload_n C.1 C.2.1 dX3_asked_80 rfl (lv_at hl 1 rfl) ?_
    refine lv_iload_n C.1 C.2.1 dX3_asked_81 rfl (lv_at hl 2 rfl) ?_
    refine r_ior C dX3_asked_82 ?_
    refine r_if_eq (tgt := 90) C h dX3_asked_83 (by decide) (fun h => ?_) (fun h => ?_)
    · refine r_iconst C dX3_asked_90 ?_
      cases h
      exact hR _ _ _ _ dX3_asked_91 g_nz0 hp
    · refine r_iconst C dX3_asked_86 ?_
      refine r_goto (tgt := 91) C dX3_asked_87 (by decide) ?_
      cases h
      exact hR _ _ _ _ dX3_asked_91 g_nz1 hp
  refine r_ite h (fun hv h => ?_) (fun hv50 h => ?_)
  · refine r_lsw (off := 91) (tgt := 92) C dX3_asked_1 (by decide +kernel) (by rw [hv]; decide +kernel) (by decide) ?_
    refine lv_iload_n C.1 C.2.1 dX3_asked_92 rfl (lv_at hl 1 rfl) ?_
    refine lv_iload_n C.1 C.2.1 dX3_asked_93 rfl (lv_at hl 2 rfl) ?_
    refine r_icmp_ge (tgt := 101) C h dX3_asked_94 (by decide) (fun h => ?_) (fun h => ?_)
    · refine r_iconst C dX3_asked_101 ?_
      cases h
      exact hR _ _ _ _ dX3_asked_102 g_nz0 hp
    · refine r_iconst C dX3_asked_97 ?_
      refine r_goto (tgt := 102) C dX3_asked_98 (by decide) ?_
      cases h
      exact hR _ _ _ _ dX3_asked_102 g_nz1 hp
  refine r_ite h (fun hv h => ?_) (fun hv51 h => ?_)
  · refine r_lsw (off := 113) (tgt := 114) C dX3_asked_1 (by decide +kernel) (by rw [hv]; decide +kernel) (by decide) ?_
    refine lv_iload_n C.1 C.2.1 dX3_asked_114 rfl (lv_at hl 1 rfl) ?_
    refine lv_iload_n C.1 C.2.1 dX3_asked_115 rfl (lv_at hl 2 rfl) ?_
    refine r_icmp_le (tgt := 123) C h dX3_asked_116 (by decide) (fun h => ?_) (fun h => ?_)
    · refine r_iconst C dX3_asked_123 ?_
      cases h
      exact hR _ _ _ _ dX3_asked_124 g_nz0 hp
    · refine r_iconst C dX3_asked_119 ?_
      refine r_goto (tgt := 124) C dX3_asked_120 (by decide) ?_
      cases h
      exact hR _ _ _ _ dX3_asked_124 g_nz1 hp
  refine r_ite h (fun hv h => ?_) (fun hv52 h => ?_)
  · refine r_lsw (off := 135) (tgt := 136) C dX3_asked_1 (by decide +kernel) (by rw [hv]; decide +kernel) (by decide) ?_
    refine lv_iload_n C.1 C.2.1 dX3_asked_136 rfl (lv_at hl 1 rfl) ?_
    refine lv_iload_n C.1 C.2.1 dX3_asked_137 rfl (lv_at hl 2 rfl) ?_
    refine r_icmp_ne (tgt := 145) C h dX3_asked_138 (by decide) (fun h => ?_) (fun h => ?_)
    · refine r_iconst C dX3_asked_145 ?_
      cases h
      exact hR _ _ _ _ dX3_asked_146 g_nz0 hp
    · refine r_iconst C dX3_asked_141 ?_
      refine r_goto (tgt := 146) C dX3_asked_142 (by decide) ?_
      cases h
      exact hR _ _ _ _ dX3_asked_146 g_nz1 hp
  refine r_ite h (fun hv h => ?_) (fun hv62 h => ?_)
  · refine r_lsw (off := 102) (tgt := 103) C dX3_asked_1 (by decide +kernel) (by rw [hv]; decide +kernel) (by decide) ?_
    refine lv_iload_n C.1 C.2.1 dX3_asked_103 rfl (lv_at hl 1 rfl) ?_
    refine lv_iload_n C.1 C.2.1 dX3_asked_104 rfl (lv_at hl 2 rfl) ?_
    refine r_icmp_gt (tgt := 112) C h dX3_asked_105 (by decide) (fun h => ?_) (fun h => ?_)
    · refine r_iconst C dX3_asked_112 ?_
      cases h
      exact hR _ _ _ _ dX3_asked_113 g_nz0 hp
    · refine r_iconst C dX3_asked_108 ?_
      refine r_goto (tgt := 113) C dX3_asked_109 (by decide) ?_
      cases h
      exact hR _ _ _ _ dX3_asked_113 g_nz1 hp
  refine r_ite h (fun hv h => ?_) (fun hv63 h => ?_)
  · refine r_lsw (off := 124) (tgt := 125) C dX3_asked_1 (by decide +kernel) (by rw [hv]; decide +kernel) (by decide) ?_
    refine lv_iload_n C.1 C.2.1 dX3_asked_125 rfl (lv_at hl 1 rfl) ?_
    refine lv_iload_n C.1 C.2.1 dX3_asked_126 rfl (lv_at hl 2 rfl) ?_
    refine r_icmp_lt (tgt := 134) C h dX3_asked_127 (by decide) (fun h => ?_) (fun h => ?_)
    · refine r_iconst C dX3_asked_134 ?_
      cases h
      exact hR _ _ _ _ dX3_asked_135 g_nz0 hp
    · refine r_iconst C dX3_asked_130 ?_
      refine r_goto (tgt := 135) C dX3_asked_131 (by decide) ?_
      cases h
      exact hR _ _ _ _ dX3_asked_135 g_nz1 hp
  have hd : W p l e R s m args below meth c H locs 0 0 Q (F0 m 147 ls []) := by
    refine lv_iload_n C.1 C.2.1 dX3_asked_147 rfl (lv_at hl 1 rfl) ?_
    refine lv_iload_n C.1 C.2.1 dX3_asked_148 rfl (lv_at hl 2 rfl) ?_
    refine r_icmp_eq (tgt := 156) C h dX3_asked_149 (by decide) (fun h => ?_) (fun h => ?_)
    · refine r_iconst C dX3_asked_156 ?_
      cases h
      exact hR _ _ _ _ dX3_asked_157 g_nz0 hp
    · refine r_iconst C dX3_asked_152 ?_
      refine r_goto (tgt := 157) C dX3_asked_153 (by decide) ?_
      cases h
      exact hR _ _ _ _ dX3_asked_157 g_nz1 hp
  exact r_lsw (off := 146) (tgt := 147) C dX3_asked_1 (by decide +kernel) (by simp [Op.lookupswitch.offset, Ne.symm hv19, Ne.symm hv20, Ne.symm hv50, Ne.symm hv51, Ne.symm hv52, Ne.symm hv62, Ne.symm hv63]) (by decide) hd
theorem c_X3_asked (l : Launch) {V : g_V} (hok : g_ok xG V) {a1 : Int} {a2 : Int} {a3 : Int} {M : g_M} {x : Int} (h : m_X3_asked a1 a2 a3 = some x) : MetI xG V l yX3_asked cX3_asked 3 (some .boolean) 0 0 [.int (gI a1), .int (gI a2), .int (gI a3)] M x M :=
  g_metI hok cal_X3_asked.2.2.2 rfl (Nat.le_of_ble_eq_true rfl) (@fun p e R s m args below meth c Q ls C hR hp hl => b_X3_asked C hR h hp hl)
set_option maxRecDepth 100000 in
set_option maxHeartbeats 4000000 in
theorem b_X3_altered (C : g_CX xG V p R s m args meth c cX3_altered 3 (some .int) RX3 0 0) {res : Int} {M : g_M} (hR : g_RetI xG V p l e R s m args below meth c Q cX3_altered .int res M) {a1 : Int} {a2 : Int} {H : Heap} {locs : List Loc} {ls : Array Slot} (h : m_X3_altered a1 a2 M = some res) (hp : g_PT xG V M s H locs) (hl : lv_has ls 3 [(0, .ref (V.2.2 31)), (1, .int (gI a1)), (2, .int (gI a2))]) : W p l e R s m args below meth c H locs 0 0 Q (F0 m 0 ls []) := by
  unfold m_X3_altered at h
  refine lv_iload_n C.1 C.2.1 dX3_altered_0 rfl (lv_at hl 1 rfl) ?_
  refine r_bipush C dX3_altered_1 (by decide +kernel) ?_
  refine r_icmp_ne (tgt := 9) C h dX3_altered_3 (by decide) (fun h => ?_) (fun h => ?_)
  · refine lv_iload_n C.1 C.2.1 dX3_altered_9 rfl (lv_at hl 1 rfl) ?_
    refine r_bipush C dX3_altered_10 (by decide +kernel) ?_
    refine r_icmp_ne (tgt := 19) C h dX3_altered_12 (by decide) (fun h => ?_) (fun h => ?_)
    · refine r_jn (P := fun J => ∀  (H : Heap) (locs : List Loc) (ls : Array Slot), J  = some res → g_PT xG V M s H locs → lv_has ls 3 [] → W p l e R s m args below meth c H locs 0 0 Q (F0 m 41 ls [])) h ?_ (fun J11 hJ11 h => ?_)
      · intro  H locs ls h hp hl
        refine r_iconst C dX3_altered_41 ?_
        cases h
        exact hR _ _ _ _ dX3_altered_42 rfl hp
      refine lv_iload_n C.1 C.2.1 dX3_altered_19 rfl (lv_at hl 2 rfl) ?_
      refine r_if_lt (tgt := 41) C h dX3_altered_20 (by decide) (fun h => ?_) (fun h => ?_)
      · exact hJ11  _ _ _ h hp (lv_sub hl [] rfl)
      · refine lv_iload_n C.1 C.2.1 dX3_altered_23 rfl (lv_at hl 2 rfl) ?_
        refine r_bipush C dX3_altered_24 (by decide +kernel) ?_
        refine r_icmp_ge (tgt := 41) C h dX3_altered_26 (by decide) (fun h => ?_) (fun h => ?_)
        · exact hJ11  _ _ _ h hp (lv_sub hl [] rfl)
        · refine lv_aload_n C.1 C.2.1 dX3_altered_29 rfl (lv_at hl 0 rfl) ?_
          refine r_getr (t := 1) C hp xk_31 xs_31 xc_3 xin_3 (j := 0) (by decide) rfl gw_324 rfl dX3_altered_30 ?_
          refine r_getr (t := 5) C hp xk_1 xs_1 xc_1 xin_1 (j := 5) (by decide) rfl gw_158 rfl dX3_altered_33 ?_
          refine lv_iload_n C.1 C.2.1 dX3_altered_36 rfl (lv_at hl 2 rfl) ?_
          refine r_iald C hp h xk_5 xs_5 dX3_altered_37 (fun h => ?_)
          refine r_goto (tgt := 42) C dX3_altered_38 (by decide) ?_
          cases h
          exact hR _ _ _ _ dX3_altered_42 rfl hp
    · refine r_iconst C dX3_altered_15 ?_
      refine lv_iload_n C.1 C.2.1 dX3_altered_16 rfl (lv_at hl 2 rfl) ?_
      refine r_isub C dX3_altered_17 ?_
      cases h
      exact hR _ _ _ _ dX3_altered_18 rfl hp
  · refine lv_iload_n C.1 C.2.1 dX3_altered_6 rfl (lv_at hl 2 rfl) ?_
    refine r_ineg C dX3_altered_7 ?_
    cases h
    exact hR _ _ _ _ dX3_altered_8 rfl hp
theorem c_X3_altered (l : Launch) {V : g_V} (hok : g_ok xG V) {a1 : Int} {a2 : Int} {M : g_M} {x : Int} (h : m_X3_altered a1 a2 M = some x) : MetI xG V l yX3_altered cX3_altered 3 (some .int) 0 0 [.ref (V.2.2 31), .int (gI a1), .int (gI a2)] M x M :=
  g_metI hok cal_X3_altered.2.2.2 rfl (Nat.le_of_ble_eq_true rfl) (@fun p e R s m args below meth c Q ls C hR hp hl => b_X3_altered C hR h hp hl)
set_option maxRecDepth 100000 in
set_option maxHeartbeats 4000000 in
theorem w_X3_value_L24 (C : g_CX xG V p R s m args meth c cX3_value 11 (some .int) RX3 1 24) {res : Int × g_M} (hR : g_RetI xG V p l e R s m args below meth c Q cX3_value .int res.1 res.2) (t14 : Nat) (x16 : Int) (ht14 : xT t14) (k19 : Int → g_M → Option (Int × g_M)) (hk19 : ∀ (x65 : Int) (M66 : g_M) (H : Heap) (locs : List Loc) (ls : Array Slot), k19 x65 M66 = some res → g_PT xG V M66 s H locs → lv_has ls 11 [(0, .ref (V.2.2 31)), (3, .int (gI x65))] → W p l e R s m args below meth c H locs 0 0 Q (F0 m 329 ls [])) : ∀ (f : Nat) (x15 : Int) (x17 : Int) (M18 : g_M) (H : Heap) (locs : List Loc) (ls : Array Slot), m_X3_value_L24 t14 x16 k19 f x15 x17 M18 = some res → g_PT xG V M18 s H locs → lv_has ls 11 [(0, .ref (V.2.2 31)), (1, .ref (V.2.2 t14)), (3, .int (gI x15)), (4, .int (gI x16)), (5, .int (gI x17))] → W p l e R s m args below meth c H locs 0 0 Q (F0 m 24 ls []) := by
  intro f
  induction f with
  | zero => intro x15 x17 M18 H locs ls h hp hl; cases h
  | succ f ih =>
    intro x15 x17 M18 H locs ls h hp hl
    rw [m_X3_value_L24] at h
    refine lv_iload C.1 C.2.1 dX3_value_24 (lv_at hl 4 rfl) ?_
    refine lv_iload C.1 C.2.1 dX3_value_26 (lv_at hl 3 rfl) ?_
    refine r_icmp_ge (tgt := 329) C h dX3_value_28 (by decide) (fun h => ?_) (fun h => ?_)
    · exact hk19 _ _ _ _ _ h hp (lv_sub hl [0, 2] rfl)
    · refine r_jn (P := fun J => ∀ (x26 : Int) (x27 : Int) (x28 : Int) (H : Heap) (locs : List Loc) (ls : Array Slot), J x26 x27 x28 = some res → g_PT xG V M18 s H locs → lv_has ls 11 [(0, .ref (V.2.2 31)), (1, .ref (V.2.2 t14)), (3, .int (gI x15)), (4, .int (gI x16)), (5, .int (gI x17)), (6, .int (gI x26)), (7, .int (gI x27))] → W p l e R s m args below meth c H locs 0 0 Q (F0 m 74 ls [.int (gI x28)])) h ?_ (fun J21 hJ21 h => ?_)
      · intro x26 x27 x28 H locs ls h hp hl
        refine r_jn (P := fun J => ∀ (x56 : Int) (x57 : Int) (M58 : g_M) (H : Heap) (locs : List Loc) (ls : Array Slot), J x56 x57 M58 = some res → g_PT xG V M58 s H locs → lv_has ls 11 [(0, .ref (V.2.2 31)), (1, .ref (V.2.2 t14)), (3, .int (gI x56)), (4, .int (gI x16)), (5, .int (gI x57))] → W p l e R s m args below meth c H locs 0 0 Q (F0 m 323 ls [])) h ?_ (fun J30 hJ30 h => ?_)
        · intro x56 x57 M58 H locs ls h hp hl
          refine r_iinc (lv' := fun x64 => [(5, .int (gI x64)), (0, .ref (V.2.2 31)), (1, .ref (V.2.2 t14)), (3, .int (gI x56)), (4, .int (gI x16))]) C h dX3_value_323 hl (j := 4) rfl (by decide) (fun _ => rfl) (fun x64 ls h hl => ?_)
          refine r_goto (tgt := 24) C dX3_value_326 (by decide) ?_
          exact ih _ _ _ _ _ _ h hp (lv_sub hl [1, 2, 3, 4, 0] rfl)
        refine r_jn (P := fun J => ∀ (x55 : Int) (H : Heap) (locs : List Loc) (ls : Array Slot), J x55 = some res → g_PT xG V M18 s H locs → lv_has ls 11 [(0, .ref (V.2.2 31)), (1, .ref (V.2.2 t14)), (3, .int (gI x15)), (4, .int (gI x16)), (5, .int (gI x17)), (6, .int (gI x26)), (7, .int (gI x27)), (8, .int (gI x55))] → W p l e R s m args below meth c H locs 0 0 Q (F0 m 88 ls [])) h ?_ (fun J29 hJ29 h => ?_)
        · intro x55 H locs ls h hp hl
          refine lv_iload_n C.1 C.2.1 dX3_value_88 rfl (lv_at hl 2 rfl) ?_
          refine r_sipush C dX3_value_89 (by decide +kernel) ?_
          refine r_icmp_ge (tgt := 323) C h dX3_value_92 (by decide) (fun h => ?_) (fun h => ?_)
          · exact hJ30 _ _ _ _ _ _ h hp (lv_sub hl [0, 1, 2, 3, 4] rfl)
          · refine r_jn (P := fun J => ∀ (x60 : Int) (x61 : Int) (H : Heap) (locs : List Loc) (ls : Array Slot), J x60 x61 = some res → g_PT xG V M18 s H locs → lv_has ls 11 [(0, .ref (V.2.2 31)), (1, .ref (V.2.2 t14)), (3, .int (gI x15)), (4, .int (gI x16)), (5, .int (gI x17))] → W p l e R s m args below meth c H locs 0 0 Q (F0 m 117 ls [.int (gI x60), .int (gI x61), .ref (V.2.2 34)])) h ?_ (fun J59 hJ59 h => ?_)
            · intro x60 x61 H locs ls h hp hl
              refine r_iast C hp h xk_34 xs_34 dX3_value_117 (fun M62 H locs h hp => ?_)
              refine r_iinc (lv' := fun x63 => [(3, .int (gI x63)), (0, .ref (V.2.2 31)), (1, .ref (V.2.2 t14)), (4, .int (gI x16)), (5, .int (gI x17))]) C h dX3_value_118 hl (j := 2) rfl (by decide) (fun _ => rfl) (fun x63 ls h hl => ?_)
              refine r_goto (tgt := 323) C dX3_value_121 (by decide) ?_
              exact hJ30 _ _ _ _ _ _ h hp (lv_sub hl [1, 2, 0, 3, 4] rfl)
            refine lv_aload_n C.1 C.2.1 dX3_value_95 rfl (lv_at hl 0 rfl) ?_
            refine r_getr (t := 34) C hp xk_31 xs_31 xc_3 xin_3 (j := 4) (by decide) rfl gw_328 rfl dX3_value_96 ?_
            refine lv_iload_n C.1 C.2.1 dX3_value_99 rfl (lv_at hl 2 rfl) ?_
            refine lv_iload C.1 C.2.1 dX3_value_100 (lv_at hl 7 rfl) ?_
            refine r_if_eq (tgt := 115) C h dX3_value_102 (by decide) (fun h => ?_) (fun h => ?_)
            · refine lv_iload C.1 C.2.1 dX3_value_115 (lv_at hl 6 rfl) ?_
              exact hJ59 _ _ _ _ _ h hp (lv_sub hl [0, 1, 2, 3, 4] rfl)
            · refine lv_aload_n C.1 C.2.1 dX3_value_105 rfl (lv_at hl 0 rfl) ?_
              refine r_getr (t := 33) C hp xk_31 xs_31 xc_3 xin_3 (j := 3) (by decide) rfl gw_327 rfl dX3_value_106 ?_
              refine lv_iload C.1 C.2.1 dX3_value_109 (lv_at hl 5 rfl) ?_
              refine r_iald C hp h xk_33 xs_33 dX3_value_111 (fun h => ?_)
              refine r_goto (tgt := 117) C dX3_value_112 (by decide) ?_
              exact hJ59 _ _ _ _ _ h hp (lv_sub hl [0, 1, 2, 3, 4] rfl)
        refine r_istore (lv' := fun x31 => [(8, .int (gI x31)), (0, .ref (V.2.2 31)), (1, .ref (V.2.2 t14)), (3, .int (gI x15)), (4, .int (gI x16)), (5, .int (gI x17)), (6, .int (gI x26)), (7, .int (gI x27))]) C h dX3_value_74 hl (by decide) (fun _ => rfl) (fun x31 ls h hl => ?_)
        refine lv_iload C.1 C.2.1 dX3_value_76 (lv_at hl 0 rfl) ?_
        refine r_if_ne (tgt := 88) C h dX3_value_78 (by decide) (fun h => ?_) (fun h => ?_)
        · exact hJ29 _ _ _ _ h hp (lv_sub hl [1, 2, 3, 4, 5, 6, 7, 0] rfl)
        · refine lv_iload C.1 C.2.1 dX3_value_81 (lv_at hl 6 rfl) ?_
          refine r_bipush C dX3_value_83 (by decide +kernel) ?_
          refine r_icmp_ne (tgt := 124) C h dX3_value_85 (by decide) (fun h => ?_) (fun h => ?_)
          · refine lv_iload C.1 C.2.1 dX3_value_124 (lv_at hl 6 rfl) ?_
            refine r_bipush C dX3_value_126 (by decide +kernel) ?_
            refine r_icmp_ne (tgt := 145) C h dX3_value_128 (by decide) (fun h => ?_) (fun h => ?_)
            · refine lv_iload C.1 C.2.1 dX3_value_145 (lv_at hl 6 rfl) ?_
              refine r_bipush C dX3_value_147 (by decide +kernel) ?_
              refine r_icmp_ne (tgt := 188) C h dX3_value_149 (by decide) (fun h => ?_) (fun h => ?_)
              · refine r_jn (P := fun J => ∀  (H : Heap) (locs : List Loc) (ls : Array Slot), J  = some res → g_PT xG V M18 s H locs → lv_has ls 11 [(0, .ref (V.2.2 31)), (1, .ref (V.2.2 t14)), (3, .int (gI x15)), (4, .int (gI x16)), (5, .int (gI x17)), (6, .int (gI x26))] → W p l e R s m args below meth c H locs 0 0 Q (F0 m 209 ls [])) h ?_ (fun J32 hJ32 h => ?_)
                · intro  H locs ls h hp hl
                  refine lv_iload_n C.1 C.2.1 dX3_value_209 rfl (lv_at hl 2 rfl) ?_
                  refine r_if_le (tgt := 323) C h dX3_value_210 (by decide) (fun h => ?_) (fun h => ?_)
                  · exact hJ30 _ _ _ _ _ _ h hp (lv_sub hl [0, 1, 2, 3, 4] rfl)
                  · refine lv_aload_n C.1 C.2.1 dX3_value_213 rfl (lv_at hl 0 rfl) ?_
                    refine r_getr (t := 34) C hp xk_31 xs_31 xc_3 xin_3 (j := 4) (by decide) rfl gw_328 rfl dX3_value_214 ?_
                    refine lv_iload_n C.1 C.2.1 dX3_value_217 rfl (lv_at hl 2 rfl) ?_
                    refine r_iconst C dX3_value_218 ?_
                    refine r_isub C dX3_value_219 ?_
                    refine lv_aload_n C.1 C.2.1 dX3_value_220 rfl (lv_at hl 0 rfl) ?_
                    refine lv_iload C.1 C.2.1 dX3_value_221 (lv_at hl 5 rfl) ?_
                    refine lv_aload_n C.1 C.2.1 dX3_value_223 rfl (lv_at hl 0 rfl) ?_
                    refine r_getr (t := 34) C hp xk_31 xs_31 xc_3 xin_3 (j := 4) (by decide) rfl gw_328 rfl dX3_value_224 ?_
                    refine lv_iload_n C.1 C.2.1 dX3_value_227 rfl (lv_at hl 2 rfl) ?_
                    refine r_iconst C dX3_value_228 ?_
                    refine r_isub C dX3_value_229 ?_
                    refine r_iald C hp h xk_34 xs_34 dX3_value_230 (fun h => ?_)
                    obtain ⟨x47, hr, h⟩ := bd_of h
                    refine r_callVI (As := [.int (gI x26), .int (gI (M18 34 (gs (x15 - 1)).toNat))]) (rest := [.int (gI (x15 - 1)), .ref (V.2.2 34)]) C hl.1 hp (c_X3_altered l C.2.2.2.2.2.2.2.2.2.2.2 hr) gw_872 gw_874 gw_24 xk_31 xs_31 xc_3 cal_X3_altered rfl rfl (Nat.le_of_ble_eq_true rfl) ⟨Nat.le_of_ble_eq_true rfl, Nat.le_of_ble_eq_true rfl⟩ dX3_value_231 (fun H locs hp => ?_)
                    refine r_iast C hp h xk_34 xs_34 dX3_value_234 (fun M48 H locs h hp => ?_)
                    refine r_goto (tgt := 323) C dX3_value_235 (by decide) ?_
                    exact hJ30 _ _ _ _ _ _ h hp (lv_sub hl [0, 1, 2, 3, 4] rfl)
                refine lv_iload C.1 C.2.1 dX3_value_188 (lv_at hl 6 rfl) ?_
                refine r_bipush C dX3_value_190 (by decide +kernel) ?_
                refine r_icmp_eq (tgt := 209) C h dX3_value_192 (by decide) (fun h => ?_) (fun h => ?_)
                · exact hJ32  _ _ _ h hp (lv_sub hl [1, 2, 3, 4, 5, 6] rfl)
                · refine lv_iload C.1 C.2.1 dX3_value_195 (lv_at hl 6 rfl) ?_
                  refine r_bipush C dX3_value_197 (by decide +kernel) ?_
                  refine r_icmp_eq (tgt := 209) C h dX3_value_199 (by decide) (fun h => ?_) (fun h => ?_)
                  · exact hJ32  _ _ _ h hp (lv_sub hl [1, 2, 3, 4, 5, 6] rfl)
                  · refine lv_iload C.1 C.2.1 dX3_value_202 (lv_at hl 6 rfl) ?_
                    refine r_bipush C dX3_value_204 (by decide +kernel) ?_
                    refine r_icmp_ne (tgt := 238) C h dX3_value_206 (by decide) (fun h => ?_) (fun h => ?_)
                    · refine lv_iload_n C.1 C.2.1 dX3_value_238 rfl (lv_at hl 3 rfl) ?_
                      refine r_iconst C dX3_value_239 ?_
                      refine r_icmp_le (tgt := 323) C h dX3_value_240 (by decide) (fun h => ?_) (fun h => ?_)
                      · exact hJ30 _ _ _ _ _ _ h hp (lv_sub hl [1, 2, 3, 4, 5] rfl)
                      · refine r_jn (P := fun J => ∀ (x39 : Int) (x40 : Int) (x41 : Int) (H : Heap) (locs : List Loc) (ls : Array Slot), J x39 x40 x41 = some res → g_PT xG V M18 s H locs → lv_has ls 11 [(0, .ref (V.2.2 31)), (1, .ref (V.2.2 t14)), (3, .int (gI x39)), (4, .int (gI x16)), (5, .int (gI x17)), (6, .int (gI x26)), (9, .int (gI x40)), (10, .int (gI x41))] → W p l e R s m args below meth c H locs 0 0 Q (F0 m 298 ls [])) h ?_ (fun J33 hJ33 h => ?_)
                        · intro x39 x40 x41 H locs ls h hp hl
                          refine r_jn (P := fun J => ∀ (x44 : Int) (x45 : Int) (H : Heap) (locs : List Loc) (ls : Array Slot), J x44 x45 = some res → g_PT xG V M18 s H locs → lv_has ls 11 [(0, .ref (V.2.2 31)), (1, .ref (V.2.2 t14)), (3, .int (gI x39)), (4, .int (gI x16)), (5, .int (gI x17))] → W p l e R s m args below meth c H locs 0 0 Q (F0 m 322 ls [.int (gI x44), .int (gI x45), .ref (V.2.2 34)])) h ?_ (fun J42 hJ42 h => ?_)
                          · intro x44 x45 H locs ls h hp hl
                            refine r_iast C hp h xk_34 xs_34 dX3_value_322 (fun M46 H locs h hp => ?_)
                            exact hJ30 _ _ _ _ _ _ h hp hl
                          refine lv_aload_n C.1 C.2.1 dX3_value_298 rfl (lv_at hl 0 rfl) ?_
                          refine r_getr (t := 34) C hp xk_31 xs_31 xc_3 xin_3 (j := 4) (by decide) rfl gw_328 rfl dX3_value_299 ?_
                          refine lv_iload_n C.1 C.2.1 dX3_value_302 rfl (lv_at hl 2 rfl) ?_
                          refine r_iconst C dX3_value_303 ?_
                          refine r_isub C dX3_value_304 ?_
                          refine lv_iload C.1 C.2.1 dX3_value_305 (lv_at hl 5 rfl) ?_
                          refine lv_iload C.1 C.2.1 dX3_value_307 (lv_at hl 6 rfl) ?_
                          refine lv_iload C.1 C.2.1 dX3_value_309 (lv_at hl 7 rfl) ?_
                          obtain ⟨x43, hr, h⟩ := bd_of h
                          refine r_callSI (As := [.int (gI x26), .int (gI x40), .int (gI x41)]) (rest := [.int (gI (x39 - 1)), .ref (V.2.2 34)]) C hl.1 hp (c_X3_asked l C.2.2.2.2.2.2.2.2.2.2.2 hr) gw_883 gw_884 cal_X3_asked rfl rfl (Nat.le_of_ble_eq_true rfl) ⟨Nat.le_of_ble_eq_true rfl, Nat.le_of_ble_eq_true rfl⟩ dX3_value_311 (fun H locs hp => ?_)
                          refine r_if_eq (tgt := 321) C h dX3_value_314 (by decide) (fun h => ?_) (fun h => ?_)
                          · refine r_iconst C dX3_value_321 ?_
                            exact hJ42 _ _ _ _ _ h hp (lv_sub hl [0, 1, 2, 3, 4] rfl)
                          · refine r_iconst C dX3_value_317 ?_
                            refine r_goto (tgt := 322) C dX3_value_318 (by decide) ?_
                            exact hJ42 _ _ _ _ _ h hp (lv_sub hl [0, 1, 2, 3, 4] rfl)
                        refine r_iinc (lv' := fun x34 => [(3, .int (gI x34)), (8, .int (gI x31)), (0, .ref (V.2.2 31)), (1, .ref (V.2.2 t14)), (4, .int (gI x16)), (5, .int (gI x17)), (6, .int (gI x26)), (7, .int (gI x27))]) C h dX3_value_243 hl (j := 3) rfl (by decide) (fun _ => rfl) (fun x34 ls h hl => ?_)
                        refine lv_aload_n C.1 C.2.1 dX3_value_246 rfl (lv_at hl 2 rfl) ?_
                        refine r_getr (t := 34) C hp xk_31 xs_31 xc_3 xin_3 (j := 4) (by decide) rfl gw_328 rfl dX3_value_247 ?_
                        refine lv_iload_n C.1 C.2.1 dX3_value_250 rfl (lv_at hl 0 rfl) ?_
                        refine r_iconst C dX3_value_251 ?_
                        refine r_isub C dX3_value_252 ?_
                        refine r_iald C hp h xk_34 xs_34 dX3_value_253 (fun h => ?_)
                        refine r_istore (lv' := fun x35 => [(9, .int (gI x35)), (3, .int (gI x34)), (8, .int (gI x31)), (0, .ref (V.2.2 31)), (1, .ref (V.2.2 t14)), (4, .int (gI x16)), (5, .int (gI x17)), (6, .int (gI x26)), (7, .int (gI x27))]) C h dX3_value_254 hl (by decide) (fun _ => rfl) (fun x35 ls h hl => ?_)
                        refine lv_aload_n C.1 C.2.1 dX3_value_256 rfl (lv_at hl 3 rfl) ?_
                        refine r_getr (t := 34) C hp xk_31 xs_31 xc_3 xin_3 (j := 4) (by decide) rfl gw_328 rfl dX3_value_257 ?_
                        refine lv_iload_n C.1 C.2.1 dX3_value_260 rfl (lv_at hl 1 rfl) ?_
                        refine r_iald C hp h xk_34 xs_34 dX3_value_261 (fun h => ?_)
                        refine r_istore (lv' := fun x36 => [(10, .int (gI x36)), (9, .int (gI x35)), (3, .int (gI x34)), (8, .int (gI x31)), (0, .ref (V.2.2 31)), (1, .ref (V.2.2 t14)), (4, .int (gI x16)), (5, .int (gI x17)), (6, .int (gI x26)), (7, .int (gI x27))]) C h dX3_value_262 hl (by decide) (fun _ => rfl) (fun x36 ls h hl => ?_)
                        refine lv_iload C.1 C.2.1 dX3_value_264 (lv_at hl 8 rfl) ?_
                        refine r_bipush C dX3_value_266 (by decide +kernel) ?_
                        refine r_icmp_lt (tgt := 298) C h dX3_value_268 (by decide) (fun h => ?_) (fun h => ?_)
                        · exact hJ33 _ _ _ _ _ _ h hp (lv_sub hl [4, 5, 2, 6, 7, 8, 1, 0] rfl)
                        · refine lv_iload C.1 C.2.1 dX3_value_271 (lv_at hl 8 rfl) ?_
                          refine r_bipush C dX3_value_273 (by decide +kernel) ?_
                          refine r_icmp_gt (tgt := 298) C h dX3_value_275 (by decide) (fun h => ?_) (fun h => ?_)
                          · exact hJ33 _ _ _ _ _ _ h hp (lv_sub hl [4, 5, 2, 6, 7, 8, 1, 0] rfl)
                          · refine lv_aload_n C.1 C.2.1 dX3_value_278 rfl (lv_at hl 4 rfl) ?_
                            refine r_getr (t := 34) C hp xk_31 xs_31 xc_3 xin_3 (j := 4) (by decide) rfl gw_328 rfl dX3_value_279 ?_
                            refine lv_iload_n C.1 C.2.1 dX3_value_282 rfl (lv_at hl 2 rfl) ?_
                            refine r_iconst C dX3_value_283 ?_
                            refine r_isub C dX3_value_284 ?_
                            refine lv_iload C.1 C.2.1 dX3_value_285 (lv_at hl 8 rfl) ?_
                            refine lv_iload C.1 C.2.1 dX3_value_287 (lv_at hl 1 rfl) ?_
                            refine lv_iload C.1 C.2.1 dX3_value_289 (lv_at hl 0 rfl) ?_
                            obtain ⟨x37, hr, h⟩ := bd_of h
                            refine r_callSI (As := [.int (gI x26), .int (gI x35), .int (gI x36)]) (rest := [.int (gI (x34 - 1)), .ref (V.2.2 34)]) C hl.1 hp (c_X3_joined l C.2.2.2.2.2.2.2.2.2.2.2 hr) gw_876 gw_877 cal_X3_joined rfl rfl (Nat.le_of_ble_eq_true rfl) ⟨Nat.le_of_ble_eq_true rfl, Nat.le_of_ble_eq_true rfl⟩ dX3_value_291 (fun H locs hp => ?_)
                            refine r_iast C hp h xk_34 xs_34 dX3_value_294 (fun M38 H locs h hp => ?_)
                            refine r_goto (tgt := 323) C dX3_value_295 (by decide) ?_
                            exact hJ30 _ _ _ _ _ _ h hp (lv_sub hl [4, 5, 2, 6, 7] rfl)
                    · exact hJ32  _ _ _ h hp (lv_sub hl [1, 2, 3, 4, 5, 6] rfl)
              · refine r_jn (P := fun J => ∀ (x51 : Int) (x52 : Int) (H : Heap) (locs : List Loc) (ls : Array Slot), J x51 x52 = some res → g_PT xG V M18 s H locs → lv_has ls 11 [(0, .ref (V.2.2 31)), (1, .ref (V.2.2 t14)), (3, .int (gI x51)), (4, .int (gI x16))] → W p l e R s m args below meth c H locs 0 0 Q (F0 m 183 ls [.int (gI x52)])) h ?_ (fun J49 hJ49 h => ?_)
                · intro x51 x52 H locs ls h hp hl
                  refine r_istore (lv' := fun x53 => [(5, .int (gI x53)), (0, .ref (V.2.2 31)), (1, .ref (V.2.2 t14)), (3, .int (gI x51)), (4, .int (gI x16))]) C h dX3_value_183 hl (by decide) (fun _ => rfl) (fun x53 ls h hl => ?_)
                  refine r_goto (tgt := 323) C dX3_value_185 (by decide) ?_
                  exact hJ30 _ _ _ _ _ _ h hp (lv_sub hl [1, 2, 3, 4, 0] rfl)
                refine r_iconst C dX3_value_152 ?_
                refine lv_iload_n C.1 C.2.1 dX3_value_153 rfl (lv_at hl 3 rfl) ?_
                refine r_iconst C dX3_value_154 ?_
                refine r_isub C dX3_value_155 ?_
                refine r_mmax C hl.1 gw_871 gw_610 gw_126 gw_611 (Nat.le_of_ble_eq_true rfl) (Nat.le_of_ble_eq_true rfl) dX3_value_156 ?_
                refine r_istore_n (lv' := fun x50 => [(3, .int (gI x50)), (8, .int (gI x31)), (0, .ref (V.2.2 31)), (1, .ref (V.2.2 t14)), (4, .int (gI x16)), (5, .int (gI x17)), (6, .int (gI x26)), (7, .int (gI x27))]) C h dX3_value_159 rfl hl (by decide) (fun _ => rfl) (fun x50 ls h hl => ?_)
                refine lv_aload_n C.1 C.2.1 dX3_value_160 rfl (lv_at hl 2 rfl) ?_
                refine r_getr (t := 34) C hp xk_31 xs_31 xc_3 xin_3 (j := 4) (by decide) rfl gw_328 rfl dX3_value_161 ?_
                refine lv_iload_n C.1 C.2.1 dX3_value_164 rfl (lv_at hl 0 rfl) ?_
                refine r_iald C hp h xk_34 xs_34 dX3_value_165 (fun h => ?_)
                refine r_if_ne (tgt := 181) C h dX3_value_166 (by decide) (fun h => ?_) (fun h => ?_)
                · refine lv_iload C.1 C.2.1 dX3_value_181 (lv_at hl 5 rfl) ?_
                  exact hJ49 _ _ _ _ _ h hp (lv_sub hl [2, 3, 0, 4] rfl)
                · refine lv_iload C.1 C.2.1 dX3_value_169 (lv_at hl 5 rfl) ?_
                  refine lv_iload C.1 C.2.1 dX3_value_171 (lv_at hl 7 rfl) ?_
                  refine r_iconst C dX3_value_173 ?_
                  refine r_isub C dX3_value_174 ?_
                  refine r_mmax C hl.1 gw_871 gw_610 gw_126 gw_611 (Nat.le_of_ble_eq_true rfl) (Nat.le_of_ble_eq_true rfl) dX3_value_175 ?_
                  refine r_goto (tgt := 183) C dX3_value_178 (by decide) ?_
                  exact hJ49 _ _ _ _ _ h hp (lv_sub hl [2, 3, 0, 4] rfl)
            · refine lv_iload C.1 C.2.1 dX3_value_131 (lv_at hl 5 rfl) ?_
              refine lv_iload C.1 C.2.1 dX3_value_133 (lv_at hl 7 rfl) ?_
              refine r_iconst C dX3_value_135 ?_
              refine r_isub C dX3_value_136 ?_
              refine r_mmax C hl.1 gw_871 gw_610 gw_126 gw_611 (Nat.le_of_ble_eq_true rfl) (Nat.le_of_ble_eq_true rfl) dX3_value_137 ?_
              refine r_istore (lv' := fun x54 => [(5, .int (gI x54)), (8, .int (gI x31)), (0, .ref (V.2.2 31)), (1, .ref (V.2.2 t14)), (3, .int (gI x15)), (4, .int (gI x16)), (6, .int (gI x26)), (7, .int (gI x27))]) C h dX3_value_140 hl (by decide) (fun _ => rfl) (fun x54 ls h hl => ?_)
              refine r_goto (tgt := 323) C dX3_value_142 (by decide) ?_
              exact hJ30 _ _ _ _ _ _ h hp (lv_sub hl [2, 3, 4, 5, 0] rfl)
          · exact hJ29 _ _ _ _ h hp (lv_sub hl [1, 2, 3, 4, 5, 6, 7, 0] rfl)
      refine r_jn (P := fun J => ∀ (x24 : Int) (x25 : Int) (H : Heap) (locs : List Loc) (ls : Array Slot), J x24 x25 = some res → g_PT xG V M18 s H locs → lv_has ls 11 [(0, .ref (V.2.2 31)), (1, .ref (V.2.2 t14)), (3, .int (gI x15)), (4, .int (gI x16)), (5, .int (gI x17)), (6, .int (gI x24)), (7, .int (gI x25))] → W p l e R s m args below meth c H locs 0 0 Q (F0 m 73 ls [])) h ?_ (fun J20 hJ20 h => ?_)
      · intro x24 x25 H locs ls h hp hl
        refine r_iconst C dX3_value_73 ?_
        exact hJ21 _ _ _ _ _ _ h hp hl
      refine lv_aload_n C.1 C.2.1 dX3_value_31 rfl (lv_at hl 1 rfl) ?_
      refine r_getr (t := (t14 + 1)) C hp (xT_k0 ht14) (xT_s0 ht14) xc_7 xin_7 (j := 0) (by decide) rfl gw_247 rfl dX3_value_32 ?_
      refine lv_iload C.1 C.2.1 dX3_value_35 (lv_at hl 4 rfl) ?_
      refine r_iald C hp h (xT_k1 ht14) (xT_s1 ht14) dX3_value_37 (fun h => ?_)
      refine r_bipush C dX3_value_38 (by decide +kernel) ?_
      refine r_ishr C dX3_value_40 ?_
      refine r_istore (lv' := fun x22 => [(6, .int (gI x22)), (0, .ref (V.2.2 31)), (1, .ref (V.2.2 t14)), (3, .int (gI x15)), (4, .int (gI x16)), (5, .int (gI x17))]) C h dX3_value_41 hl (by decide) (fun _ => rfl) (fun x22 ls h hl => ?_)
      refine lv_aload_n C.1 C.2.1 dX3_value_43 rfl (lv_at hl 2 rfl) ?_
      refine r_getr (t := (t14 + 1)) C hp (xT_k0 ht14) (xT_s0 ht14) xc_7 xin_7 (j := 0) (by decide) rfl gw_247 rfl dX3_value_44 ?_
      refine lv_iload C.1 C.2.1 dX3_value_47 (lv_at hl 5 rfl) ?_
      refine r_iald C hp h (xT_k1 ht14) (xT_s1 ht14) dX3_value_49 (fun h => ?_)
      refine r_ldc (n := 65535) C gw_870 (by decide +kernel) dX3_value_50 ?_
      refine r_iand C dX3_value_52 ?_
      refine r_istore (lv' := fun x23 => [(7, .int (gI x23)), (6, .int (gI x22)), (0, .ref (V.2.2 31)), (1, .ref (V.2.2 t14)), (3, .int (gI x15)), (4, .int (gI x16)), (5, .int (gI x17))]) C h dX3_value_53 hl (by decide) (fun _ => rfl) (fun x23 ls h hl => ?_)
      refine lv_iload C.1 C.2.1 dX3_value_55 (lv_at hl 1 rfl) ?_
      refine r_bipush C dX3_value_57 (by decide +kernel) ?_
      refine r_icmp_lt (tgt := 73) C h dX3_value_59 (by decide) (fun h => ?_) (fun h => ?_)
      · exact hJ20 _ _ _ _ _ h hp (lv_sub hl [2, 3, 4, 5, 6, 1, 0] rfl)
      · refine lv_iload C.1 C.2.1 dX3_value_62 (lv_at hl 1 rfl) ?_
        refine r_bipush C dX3_value_64 (by decide +kernel) ?_
        refine r_icmp_gt (tgt := 73) C h dX3_value_66 (by decide) (fun h => ?_) (fun h => ?_)
        · exact hJ20 _ _ _ _ _ h hp (lv_sub hl [2, 3, 4, 5, 6, 1, 0] rfl)
        · refine r_iconst C dX3_value_69 ?_
          refine r_goto (tgt := 74) C dX3_value_70 (by decide) ?_
          exact hJ21 _ _ _ _ _ _ h hp (lv_sub hl [2, 3, 4, 5, 6, 1, 0] rfl)
set_option maxRecDepth 100000 in
set_option maxHeartbeats 4000000 in
theorem b_X3_value (C : g_CX xG V p R s m args meth c cX3_value 11 (some .int) RX3 1 24) {res : Int × g_M} (hR : g_RetI xG V p l e R s m args below meth c Q cX3_value .int res.1 res.2) {t1 : Nat} {a2 : Int} {M : g_M} (ht1 : xT t1) {H : Heap} {locs : List Loc} {ls : Array Slot} (h : m_X3_value t1 a2 M = some res) (hp : g_PT xG V M s H locs) (hl : lv_has ls 11 [(0, .ref (V.2.2 31)), (1, .ref (V.2.2 t1)), (2, .int (gI a2))]) : W p l e R s m args below meth c H locs 0 0 Q (F0 m 0 ls []) := by
  unfold m_X3_value at h
  refine r_iconst C dX3_value_0 ?_
  refine r_istore_n (lv' := fun x11 => [(3, .int (gI x11)), (0, .ref (V.2.2 31)), (1, .ref (V.2.2 t1)), (2, .int (gI a2))]) C h dX3_value_1 rfl hl (by decide) (fun _ => rfl) (fun x11 ls h hl => ?_)
  refine lv_aload_n C.1 C.2.1 dX3_value_2 rfl (lv_at hl 2 rfl) ?_
  refine r_getr (t := (t1 + 3)) C hp (xT_k0 ht1) (xT_s0 ht1) xc_7 xin_7 (j := 3) (by decide) rfl gw_254 rfl dX3_value_3 ?_
  refine lv_iload_n C.1 C.2.1 dX3_value_6 rfl (lv_at hl 3 rfl) ?_
  refine r_iald C hp h (xT_k3 ht1) (xT_s3 ht1) dX3_value_7 (fun h => ?_)
  refine r_sipush C dX3_value_8 (by decide +kernel) ?_
  refine r_mmin C hl.1 gw_869 gw_587 gw_126 gw_588 (Nat.le_of_ble_eq_true rfl) (Nat.le_of_ble_eq_true rfl) dX3_value_11 ?_
  refine r_istore (lv' := fun x12 => [(4, .int (gI x12)), (3, .int (gI x11)), (0, .ref (V.2.2 31)), (1, .ref (V.2.2 t1)), (2, .int (gI a2))]) C h dX3_value_14 hl (by decide) (fun _ => rfl) (fun x12 ls h hl => ?_)
  refine lv_aload_n C.1 C.2.1 dX3_value_16 rfl (lv_at hl 3 rfl) ?_
  refine r_getr (t := (t1 + 2)) C hp (xT_k0 ht1) (xT_s0 ht1) xc_7 xin_7 (j := 2) (by decide) rfl gw_251 rfl dX3_value_17 ?_
  refine lv_iload_n C.1 C.2.1 dX3_value_20 rfl (lv_at hl 4 rfl) ?_
  refine r_iald C hp h (xT_k2 ht1) (xT_s2 ht1) dX3_value_21 (fun h => ?_)
  refine r_istore (lv' := fun x13 => [(5, .int (gI x13)), (4, .int (gI x12)), (3, .int (gI x11)), (0, .ref (V.2.2 31)), (1, .ref (V.2.2 t1)), (2, .int (gI a2))]) C h dX3_value_22 hl (by decide) (fun _ => rfl) (fun x13 ls h hl => ?_)
  refine w_X3_value_L24 C hR _ _ ht1 _ ?_ _ _ _ _ H locs ls h hp (lv_sub hl [3, 4, 2, 1, 0] rfl)
  · intro x67 M68 H locs ls h hp hl
    refine lv_iload_n C.1 C.2.1 dX3_value_329 rfl (lv_at hl 1 rfl) ?_
    refine r_if_le (tgt := 344) C h dX3_value_330 (by decide) (fun h => ?_) (fun h => ?_)
    · refine r_iconst C dX3_value_344 ?_
      cases h
      exact hR _ _ _ _ dX3_value_345 rfl hp
    · refine lv_aload_n C.1 C.2.1 dX3_value_333 rfl (lv_at hl 0 rfl) ?_
      refine r_getr (t := 34) C hp xk_31 xs_31 xc_3 xin_3 (j := 4) (by decide) rfl gw_328 rfl dX3_value_334 ?_
      refine lv_iload_n C.1 C.2.1 dX3_value_337 rfl (lv_at hl 1 rfl) ?_
      refine r_iconst C dX3_value_338 ?_
      refine r_isub C dX3_value_339 ?_
      refine r_iald C hp h xk_34 xs_34 dX3_value_340 (fun h => ?_)
      refine r_goto (tgt := 345) C dX3_value_341 (by decide) ?_
      cases h
      exact hR _ _ _ _ dX3_value_345 rfl hp
theorem c_X3_value (l : Launch) {V : g_V} (hok : g_ok xG V) {t1 : Nat} {a2 : Int} {M : g_M} {x : Int} {M2 : g_M} (ht1 : xT t1) (h : m_X3_value t1 a2 M = some (x, M2)) : MetI xG V l yX3_value cX3_value 11 (some .int) 1 24 [.ref (V.2.2 31), .ref (V.2.2 t1), .int (gI a2)] M x M2 :=
  g_metI hok cal_X3_value.2.2.2 rfl (Nat.le_of_ble_eq_true rfl) (@fun p e R s m args below meth c Q ls C hR hp hl => b_X3_value C hR ht1 h hp hl)
set_option maxRecDepth 100000 in
set_option maxHeartbeats 4000000 in
theorem b_X3_bounded (C : g_CX xG V p R s m args meth c cX3_bounded 2 (some .int) RX3 1 14) {res : Int} {M : g_M} (hR : g_RetI xG V p l e R s m args below meth c Q cX3_bounded .int res M) {a1 : Int} {a2 : Int} {H : Heap} {locs : List Loc} {ls : Array Slot} (h : m_X3_bounded a1 a2 = some res) (hp : g_PT xG V M s H locs) (hl : lv_has ls 2 [(0, .int (gI a1)), (1, .int (gI a2))]) : W p l e R s m args below meth c H locs 0 0 Q (F0 m 0 ls []) := by
  unfold m_X3_bounded at h
  refine r_iconst C dX3_bounded_0 ?_
  refine lv_iload_n C.1 C.2.1 dX3_bounded_1 rfl (lv_at hl 1 rfl) ?_
  refine lv_iload_n C.1 C.2.1 dX3_bounded_2 rfl (lv_at hl 0 rfl) ?_
  refine r_mmin C hl.1 gw_869 gw_587 gw_126 gw_588 (Nat.le_of_ble_eq_true rfl) (Nat.le_of_ble_eq_true rfl) dX3_bounded_3 ?_
  refine r_mmax C hl.1 gw_871 gw_610 gw_126 gw_611 (Nat.le_of_ble_eq_true rfl) (Nat.le_of_ble_eq_true rfl) dX3_bounded_6 ?_
  cases h
  exact hR _ _ _ _ dX3_bounded_9 rfl hp
theorem c_X3_bounded (l : Launch) {V : g_V} (hok : g_ok xG V) {a1 : Int} {a2 : Int} {M : g_M} {x : Int} (h : m_X3_bounded a1 a2 = some x) : MetI xG V l yX3_bounded cX3_bounded 2 (some .int) 1 14 [.int (gI a1), .int (gI a2)] M x M :=
  g_metI hok cal_X3_bounded.2.2.2 rfl (Nat.le_of_ble_eq_true rfl) (@fun p e R s m args below meth c Q ls C hR hp hl => b_X3_bounded C hR h hp hl)
set_option maxRecDepth 100000 in
set_option maxHeartbeats 4000000 in
theorem b_X3_cueSaid (C : g_CX xG V p R s m args meth c cX3_cueSaid 5 (some .int) RX3 2 54) {res : Int × g_M} (hR : g_RetI xG V p l e R s m args below meth c Q cX3_cueSaid .int res.1 res.2) {a1 : Int} {a2 : Int} {a3 : Int} {M : g_M} {H : Heap} {locs : List Loc} {ls : Array Slot} (h : m_X3_cueSaid a1 a2 a3 M = some res) (hp : g_PT xG V M s H locs) (hl : lv_has ls 5 [(0, .ref (V.2.2 31)), (1, .int (gI a1)), (2, .int (gI a2)), (3, .int (gI a3))]) : W p l e R s m args below meth c H locs 0 0 Q (F0 m 0 ls []) := by
  unfold m_X3_cueSaid at h
  refine lv_aload_n C.1 C.2.1 dX3_cueSaid_0 rfl (lv_at hl 0 rfl) ?_
  refine lv_aload_n C.1 C.2.1 dX3_cueSaid_1 rfl (lv_at hl 0 rfl) ?_
  refine r_getr (t := 1) C hp xk_31 xs_31 xc_3 xin_3 (j := 0) (by decide) rfl gw_324 rfl dX3_cueSaid_2 ?_
  refine r_geti (t := 0) C hp xk_1 xs_1 xc_1 xin_1 (j := 9) (by decide) rfl gw_171 rfl dX3_cueSaid_5 ?_
  obtain ⟨t11, hr, h⟩ := bd_of h
  refine r_callVR (As := [.int (gI (M 1 9))]) (rest := []) C hl.1 hp (c_X3_textOf l C.2.2.2.2.2.2.2.2.2.2.2 hr) gw_863 gw_736 gw_737 xk_31 xs_31 xc_3 cal_X3_textOf rfl rfl (Nat.le_of_ble_eq_true rfl) ⟨Nat.le_of_ble_eq_true rfl, Nat.le_of_ble_eq_true rfl⟩ dX3_cueSaid_8 (fun H locs hp => ?_)
  obtain ⟨ht11, h⟩ := gd_of h
  refine lv_astore (lv' := [(4, .ref (V.2.2 t11)), (0, .ref (V.2.2 31)), (1, .int (gI a1)), (2, .int (gI a2)), (3, .int (gI a3))]) C.1 C.2.1 dX3_cueSaid_11 hl (by decide) rfl (fun ls hl => ?_)
  refine lv_aload C.1 C.2.1 dX3_cueSaid_13 (lv_at hl 0 rfl) ?_
  refine r_iconst C dX3_cueSaid_15 ?_
  obtain ⟨x12, hr, h⟩ := bd_of h
  refine r_callVI (As := [.int (gI 0)]) (rest := []) C hl.1 hp (c_X7_has l C.2.2.2.2.2.2.2.2.2.2.2 ht11 hr) gw_864 gw_661 gw_662 (xT_k0 ht11) (xT_s0 ht11) xc_7 cal_X7_has rfl rfl (Nat.le_of_ble_eq_true rfl) ⟨Nat.le_of_ble_eq_true rfl, Nat.le_of_ble_eq_true rfl⟩ dX3_cueSaid_16 (fun H locs hp => ?_)
  refine r_if_ne (tgt := 43) C h dX3_cueSaid_19 (by decide) (fun h => ?_) (fun h => ?_)
  · refine lv_aload_n C.1 C.2.1 dX3_cueSaid_43 rfl (lv_at hl 1 rfl) ?_
    refine r_getr (t := 33) C hp xk_31 xs_31 xc_3 xin_3 (j := 3) (by decide) rfl gw_327 rfl dX3_cueSaid_44 ?_
    refine r_bipush C dX3_cueSaid_47 (by decide +kernel) ?_
    refine lv_iload_n C.1 C.2.1 dX3_cueSaid_49 rfl (lv_at hl 2 rfl) ?_
    refine r_iast C hp h xk_33 xs_33 dX3_cueSaid_50 (fun M13 H locs h hp => ?_)
    refine lv_aload_n C.1 C.2.1 dX3_cueSaid_51 rfl (lv_at hl 1 rfl) ?_
    refine r_getr (t := 33) C hp xk_31 xs_31 xc_3 xin_3 (j := 3) (by decide) rfl gw_327 rfl dX3_cueSaid_52 ?_
    refine r_bipush C dX3_cueSaid_55 (by decide +kernel) ?_
    refine lv_iload_n C.1 C.2.1 dX3_cueSaid_57 rfl (lv_at hl 3 rfl) ?_
    refine r_iast C hp h xk_33 xs_33 dX3_cueSaid_58 (fun M14 H locs h hp => ?_)
    refine lv_aload_n C.1 C.2.1 dX3_cueSaid_59 rfl (lv_at hl 1 rfl) ?_
    refine r_getr (t := 33) C hp xk_31 xs_31 xc_3 xin_3 (j := 3) (by decide) rfl gw_327 rfl dX3_cueSaid_60 ?_
    refine r_bipush C dX3_cueSaid_63 (by decide +kernel) ?_
    refine lv_iload_n C.1 C.2.1 dX3_cueSaid_65 rfl (lv_at hl 4 rfl) ?_
    refine r_iast C hp h xk_33 xs_33 dX3_cueSaid_66 (fun M15 H locs h hp => ?_)
    refine lv_aload_n C.1 C.2.1 dX3_cueSaid_67 rfl (lv_at hl 1 rfl) ?_
    refine lv_aload C.1 C.2.1 dX3_cueSaid_68 (lv_at hl 0 rfl) ?_
    refine r_iconst C dX3_cueSaid_70 ?_
    obtain ⟨x16, M17, hr, h⟩ := bW_of h
    refine r_callVI (As := [.ref (V.2.2 t11), .int (gI 0)]) (rest := []) C hl.1 hp (c_X3_value l C.2.2.2.2.2.2.2.2.2.2.2 ht11 hr) gw_865 gw_867 gw_23 xk_31 xs_31 xc_3 cal_X3_value rfl rfl (Nat.le_of_ble_eq_true rfl) ⟨Nat.le_of_ble_eq_true rfl, Nat.le_of_ble_eq_true rfl⟩ dX3_cueSaid_71 (fun H locs hp => ?_)
    refine r_iconst C dX3_cueSaid_74 ?_
    obtain ⟨x18, hr, h⟩ := bd_of h
    refine r_callSI (As := [.int (gI x16), .int (gI 3)]) (rest := []) C hl.1 hp (c_X3_bounded l C.2.2.2.2.2.2.2.2.2.2.2 hr) gw_886 gw_887 cal_X3_bounded rfl rfl (Nat.le_of_ble_eq_true rfl) ⟨Nat.le_of_ble_eq_true rfl, Nat.le_of_ble_eq_true rfl⟩ dX3_cueSaid_75 (fun H locs hp => ?_)
    cases h
    exact hR _ _ _ _ dX3_cueSaid_78 rfl hp
  · refine r_jn (P := fun J => ∀  (H : Heap) (locs : List Loc) (ls : Array Slot), J  = some res → g_PT xG V M s H locs → lv_has ls 5 [] → W p l e R s m args below meth c H locs 0 0 Q (F0 m 37 ls [])) h ?_ (fun J19 hJ19 h => ?_)
    · intro  H locs ls h hp hl
      refine r_iconst C dX3_cueSaid_37 ?_
      refine r_goto (tgt := 42) C dX3_cueSaid_38 (by decide) ?_
      cases h
      exact hR _ _ _ _ dX3_cueSaid_42 rfl hp
    refine lv_iload_n C.1 C.2.1 dX3_cueSaid_22 rfl (lv_at hl 4 rfl) ?_
    refine r_iconst C dX3_cueSaid_23 ?_
    refine r_icmp_ge (tgt := 37) C h dX3_cueSaid_24 (by decide) (fun h => ?_) (fun h => ?_)
    · exact hJ19  _ _ _ h hp (lv_sub hl [] rfl)
    · refine lv_aload_n C.1 C.2.1 dX3_cueSaid_27 rfl (lv_at hl 1 rfl) ?_
      refine r_getr (t := 33) C hp xk_31 xs_31 xc_3 xin_3 (j := 3) (by decide) rfl gw_327 rfl dX3_cueSaid_28 ?_
      refine r_bipush C dX3_cueSaid_31 (by decide +kernel) ?_
      refine r_iald C hp h xk_33 xs_33 dX3_cueSaid_33 (fun h => ?_)
      refine r_if_ne (tgt := 41) C h dX3_cueSaid_34 (by decide) (fun h => ?_) (fun h => ?_)
      · refine lv_iload_n C.1 C.2.1 dX3_cueSaid_41 rfl (lv_at hl 4 rfl) ?_
        cases h
        exact hR _ _ _ _ dX3_cueSaid_42 rfl hp
      · exact hJ19  _ _ _ h hp (lv_sub hl [] rfl)
theorem c_X3_cueSaid (l : Launch) {V : g_V} (hok : g_ok xG V) {a1 : Int} {a2 : Int} {a3 : Int} {M : g_M} {x : Int} {M2 : g_M} (h : m_X3_cueSaid a1 a2 a3 M = some (x, M2)) : MetI xG V l yX3_cueSaid cX3_cueSaid 5 (some .int) 2 54 [.ref (V.2.2 31), .int (gI a1), .int (gI a2), .int (gI a3)] M x M2 :=
  g_metI hok cal_X3_cueSaid.2.2.2 rfl (Nat.le_of_ble_eq_true rfl) (@fun p e R s m args below meth c Q ls C hR hp hl => b_X3_cueSaid C hR h hp hl)
set_option maxRecDepth 100000 in
set_option maxHeartbeats 4000000 in
theorem b_X3_staysSaid (C : g_CX xG V p R s m args meth c cX3_staysSaid 5 (some .boolean) RX3 2 54) {res : Int × g_M} (hR : g_RetI xG V p l e R s m args below meth c Q cX3_staysSaid .boolean res.1 res.2) {a1 : Int} {a2 : Int} {a3 : Int} {M : g_M} {H : Heap} {locs : List Loc} {ls : Array Slot} (h : m_X3_staysSaid a1 a2 a3 M = some res) (hp : g_PT xG V M s H locs) (hl : lv_has ls 5 [(0, .ref (V.2.2 31)), (1, .int (gI a1)), (2, .int (gI a2)), (3, .int (gI a3))]) : W p l e R s m args below meth c H locs 0 0 Q (F0 m 0 ls []) := by
  unfold m_X3_staysSaid at h
  refine lv_aload_n C.1 C.2.1 dX3_staysSaid_0 rfl (lv_at hl 0 rfl) ?_
  refine lv_aload_n C.1 C.2.1 dX3_staysSaid_1 rfl (lv_at hl 0 rfl) ?_
  refine r_getr (t := 1) C hp xk_31 xs_31 xc_3 xin_3 (j := 0) (by decide) rfl gw_324 rfl dX3_staysSaid_2 ?_
  refine r_geti (t := 0) C hp xk_1 xs_1 xc_1 xin_1 (j := 9) (by decide) rfl gw_171 rfl dX3_staysSaid_5 ?_
  obtain ⟨t11, hr, h⟩ := bd_of h
  refine r_callVR (As := [.int (gI (M 1 9))]) (rest := []) C hl.1 hp (c_X3_textOf l C.2.2.2.2.2.2.2.2.2.2.2 hr) gw_863 gw_736 gw_737 xk_31 xs_31 xc_3 cal_X3_textOf rfl rfl (Nat.le_of_ble_eq_true rfl) ⟨Nat.le_of_ble_eq_true rfl, Nat.le_of_ble_eq_true rfl⟩ dX3_staysSaid_8 (fun H locs hp => ?_)
  obtain ⟨ht11, h⟩ := gd_of h
  refine lv_astore (lv' := [(4, .ref (V.2.2 t11)), (0, .ref (V.2.2 31)), (1, .int (gI a1)), (2, .int (gI a2)), (3, .int (gI a3))]) C.1 C.2.1 dX3_staysSaid_11 hl (by decide) rfl (fun ls hl => ?_)
  refine lv_aload C.1 C.2.1 dX3_staysSaid_13 (lv_at hl 0 rfl) ?_
  refine r_iconst C dX3_staysSaid_15 ?_
  obtain ⟨x12, hr, h⟩ := bd_of h
  refine r_callVI (As := [.int (gI 1)]) (rest := []) C hl.1 hp (c_X7_has l C.2.2.2.2.2.2.2.2.2.2.2 ht11 hr) gw_864 gw_661 gw_662 (xT_k0 ht11) (xT_s0 ht11) xc_7 cal_X7_has rfl rfl (Nat.le_of_ble_eq_true rfl) ⟨Nat.le_of_ble_eq_true rfl, Nat.le_of_ble_eq_true rfl⟩ dX3_staysSaid_16 (fun H locs hp => ?_)
  refine r_if_ne (tgt := 33) C h dX3_staysSaid_19 (by decide) (fun h => ?_) (fun h => ?_)
  · refine lv_aload_n C.1 C.2.1 dX3_staysSaid_33 rfl (lv_at hl 1 rfl) ?_
    refine r_getr (t := 33) C hp xk_31 xs_31 xc_3 xin_3 (j := 3) (by decide) rfl gw_327 rfl dX3_staysSaid_34 ?_
    refine r_bipush C dX3_staysSaid_37 (by decide +kernel) ?_
    refine lv_iload_n C.1 C.2.1 dX3_staysSaid_39 rfl (lv_at hl 2 rfl) ?_
    refine r_iast C hp h xk_33 xs_33 dX3_staysSaid_40 (fun M13 H locs h hp => ?_)
    refine lv_aload_n C.1 C.2.1 dX3_staysSaid_41 rfl (lv_at hl 1 rfl) ?_
    refine r_getr (t := 33) C hp xk_31 xs_31 xc_3 xin_3 (j := 3) (by decide) rfl gw_327 rfl dX3_staysSaid_42 ?_
    refine r_bipush C dX3_staysSaid_45 (by decide +kernel) ?_
    refine lv_iload_n C.1 C.2.1 dX3_staysSaid_47 rfl (lv_at hl 3 rfl) ?_
    refine r_iast C hp h xk_33 xs_33 dX3_staysSaid_48 (fun M14 H locs h hp => ?_)
    refine lv_aload_n C.1 C.2.1 dX3_staysSaid_49 rfl (lv_at hl 1 rfl) ?_
    refine r_getr (t := 33) C hp xk_31 xs_31 xc_3 xin_3 (j := 3) (by decide) rfl gw_327 rfl dX3_staysSaid_50 ?_
    refine r_bipush C dX3_staysSaid_53 (by decide +kernel) ?_
    refine lv_iload_n C.1 C.2.1 dX3_staysSaid_55 rfl (lv_at hl 4 rfl) ?_
    refine r_iast C hp h xk_33 xs_33 dX3_staysSaid_56 (fun M15 H locs h hp => ?_)
    refine lv_aload_n C.1 C.2.1 dX3_staysSaid_57 rfl (lv_at hl 1 rfl) ?_
    refine lv_aload C.1 C.2.1 dX3_staysSaid_58 (lv_at hl 0 rfl) ?_
    refine r_iconst C dX3_staysSaid_60 ?_
    obtain ⟨x16, M17, hr, h⟩ := bW_of h
    refine r_callVI (As := [.ref (V.2.2 t11), .int (gI 1)]) (rest := []) C hl.1 hp (c_X3_value l C.2.2.2.2.2.2.2.2.2.2.2 ht11 hr) gw_865 gw_867 gw_23 xk_31 xs_31 xc_3 cal_X3_value rfl rfl (Nat.le_of_ble_eq_true rfl) ⟨Nat.le_of_ble_eq_true rfl, Nat.le_of_ble_eq_true rfl⟩ dX3_staysSaid_61 (fun H locs hp => ?_)
    refine r_if_le (tgt := 71) C h dX3_staysSaid_64 (by decide) (fun h => ?_) (fun h => ?_)
    · refine r_iconst C dX3_staysSaid_71 ?_
      cases h
      exact hR _ _ _ _ dX3_staysSaid_72 g_nz0 hp
    · refine r_iconst C dX3_staysSaid_67 ?_
      refine r_goto (tgt := 72) C dX3_staysSaid_68 (by decide) ?_
      cases h
      exact hR _ _ _ _ dX3_staysSaid_72 g_nz1 hp
  · refine lv_iload_n C.1 C.2.1 dX3_staysSaid_22 rfl (lv_at hl 3 rfl) ?_
    refine r_iconst C dX3_staysSaid_23 ?_
    refine r_icmp_ne (tgt := 31) C h dX3_staysSaid_24 (by decide) (fun h => ?_) (fun h => ?_)
    · refine r_iconst C dX3_staysSaid_31 ?_
      cases h
      exact hR _ _ _ _ dX3_staysSaid_32 g_nz0 hp
    · refine r_iconst C dX3_staysSaid_27 ?_
      refine r_goto (tgt := 32) C dX3_staysSaid_28 (by decide) ?_
      cases h
      exact hR _ _ _ _ dX3_staysSaid_32 g_nz1 hp
theorem c_X3_staysSaid (l : Launch) {V : g_V} (hok : g_ok xG V) {a1 : Int} {a2 : Int} {a3 : Int} {M : g_M} {x : Int} {M2 : g_M} (h : m_X3_staysSaid a1 a2 a3 M = some (x, M2)) : MetI xG V l yX3_staysSaid cX3_staysSaid 5 (some .boolean) 2 54 [.ref (V.2.2 31), .int (gI a1), .int (gI a2), .int (gI a3)] M x M2 :=
  g_metI hok cal_X3_staysSaid.2.2.2 rfl (Nat.le_of_ble_eq_true rfl) (@fun p e R s m args below meth c Q ls C hR hp hl => b_X3_staysSaid C hR h hp hl)
set_option maxRecDepth 100000 in
set_option maxHeartbeats 4000000 in
theorem b_X3_gladdensSaid (C : g_CX xG V p R s m args meth c cX3_gladdensSaid 5 (some .int) RX3 2 54) {res : Int × g_M} (hR : g_RetI xG V p l e R s m args below meth c Q cX3_gladdensSaid .int res.1 res.2) {a1 : Int} {a2 : Int} {a3 : Int} {M : g_M} {H : Heap} {locs : List Loc} {ls : Array Slot} (h : m_X3_gladdensSaid a1 a2 a3 M = some res) (hp : g_PT xG V M s H locs) (hl : lv_has ls 5 [(0, .ref (V.2.2 31)), (1, .int (gI a1)), (2, .int (gI a2)), (3, .int (gI a3))]) : W p l e R s m args below meth c H locs 0 0 Q (F0 m 0 ls []) := by
  unfold m_X3_gladdensSaid at h
  refine lv_aload_n C.1 C.2.1 dX3_gladdensSaid_0 rfl (lv_at hl 0 rfl) ?_
  refine lv_iload_n C.1 C.2.1 dX3_gladdensSaid_1 rfl (lv_at hl 1 rfl) ?_
  obtain ⟨t11, hr, h⟩ := bd_of h
  refine r_callVR (As := [.int (gI a1)]) (rest := []) C hl.1 hp (c_X3_textOf l C.2.2.2.2.2.2.2.2.2.2.2 hr) gw_863 gw_736 gw_737 xk_31 xs_31 xc_3 cal_X3_textOf rfl rfl (Nat.le_of_ble_eq_true rfl) ⟨Nat.le_of_ble_eq_true rfl, Nat.le_of_ble_eq_true rfl⟩ dX3_gladdensSaid_2 (fun H locs hp => ?_)
  obtain ⟨ht11, h⟩ := gd_of h
  refine lv_astore (lv' := [(4, .ref (V.2.2 t11)), (0, .ref (V.2.2 31)), (1, .int (gI a1)), (2, .int (gI a2)), (3, .int (gI a3))]) C.1 C.2.1 dX3_gladdensSaid_5 hl (by decide) rfl (fun ls hl => ?_)
  refine lv_aload C.1 C.2.1 dX3_gladdensSaid_7 (lv_at hl 0 rfl) ?_
  refine r_iconst C dX3_gladdensSaid_9 ?_
  obtain ⟨x12, hr, h⟩ := bd_of h
  refine r_callVI (As := [.int (gI 2)]) (rest := []) C hl.1 hp (c_X7_has l C.2.2.2.2.2.2.2.2.2.2.2 ht11 hr) gw_864 gw_661 gw_662 (xT_k0 ht11) (xT_s0 ht11) xc_7 cal_X7_has rfl rfl (Nat.le_of_ble_eq_true rfl) ⟨Nat.le_of_ble_eq_true rfl, Nat.le_of_ble_eq_true rfl⟩ dX3_gladdensSaid_10 (fun H locs hp => ?_)
  refine r_if_ne (tgt := 26) C h dX3_gladdensSaid_13 (by decide) (fun h => ?_) (fun h => ?_)
  · refine lv_aload_n C.1 C.2.1 dX3_gladdensSaid_26 rfl (lv_at hl 1 rfl) ?_
    refine r_getr (t := 33) C hp xk_31 xs_31 xc_3 xin_3 (j := 3) (by decide) rfl gw_327 rfl dX3_gladdensSaid_27 ?_
    refine r_bipush C dX3_gladdensSaid_30 (by decide +kernel) ?_
    refine lv_iload_n C.1 C.2.1 dX3_gladdensSaid_32 rfl (lv_at hl 3 rfl) ?_
    refine r_iast C hp h xk_33 xs_33 dX3_gladdensSaid_33 (fun M13 H locs h hp => ?_)
    refine lv_aload_n C.1 C.2.1 dX3_gladdensSaid_34 rfl (lv_at hl 1 rfl) ?_
    refine r_getr (t := 33) C hp xk_31 xs_31 xc_3 xin_3 (j := 3) (by decide) rfl gw_327 rfl dX3_gladdensSaid_35 ?_
    refine r_bipush C dX3_gladdensSaid_38 (by decide +kernel) ?_
    refine lv_aload_n C.1 C.2.1 dX3_gladdensSaid_40 rfl (lv_at hl 1 rfl) ?_
    refine r_getr (t := 1) C hp xk_31 xs_31 xc_3 xin_3 (j := 0) (by decide) rfl gw_324 rfl dX3_gladdensSaid_41 ?_
    refine r_getr (t := 2) C hp xk_1 xs_1 xc_1 xin_1 (j := 0) (by decide) rfl gw_146 rfl dX3_gladdensSaid_44 ?_
    refine r_bipush C dX3_gladdensSaid_47 (by decide +kernel) ?_
    refine lv_iload_n C.1 C.2.1 dX3_gladdensSaid_49 rfl (lv_at hl 3 rfl) ?_
    refine r_iadd C dX3_gladdensSaid_50 ?_
    refine r_iald C hp h xk_2 xs_2 dX3_gladdensSaid_51 (fun h => ?_)
    refine r_iast C hp h xk_33 xs_33 dX3_gladdensSaid_52 (fun M14 H locs h hp => ?_)
    refine lv_aload_n C.1 C.2.1 dX3_gladdensSaid_53 rfl (lv_at hl 1 rfl) ?_
    refine r_getr (t := 33) C hp xk_31 xs_31 xc_3 xin_3 (j := 3) (by decide) rfl gw_327 rfl dX3_gladdensSaid_54 ?_
    refine r_bipush C dX3_gladdensSaid_57 (by decide +kernel) ?_
    refine lv_aload_n C.1 C.2.1 dX3_gladdensSaid_59 rfl (lv_at hl 1 rfl) ?_
    refine r_getr (t := 1) C hp xk_31 xs_31 xc_3 xin_3 (j := 0) (by decide) rfl gw_324 rfl dX3_gladdensSaid_60 ?_
    refine r_getr (t := 2) C hp xk_1 xs_1 xc_1 xin_1 (j := 0) (by decide) rfl gw_146 rfl dX3_gladdensSaid_63 ?_
    refine r_iconst C dX3_gladdensSaid_66 ?_
    refine lv_iload_n C.1 C.2.1 dX3_gladdensSaid_67 rfl (lv_at hl 3 rfl) ?_
    refine r_iadd C dX3_gladdensSaid_68 ?_
    refine r_iald C hp h xk_2 xs_2 dX3_gladdensSaid_69 (fun h => ?_)
    refine r_iast C hp h xk_33 xs_33 dX3_gladdensSaid_70 (fun M15 H locs h hp => ?_)
    refine lv_aload_n C.1 C.2.1 dX3_gladdensSaid_71 rfl (lv_at hl 1 rfl) ?_
    refine r_getr (t := 33) C hp xk_31 xs_31 xc_3 xin_3 (j := 3) (by decide) rfl gw_327 rfl dX3_gladdensSaid_72 ?_
    refine r_bipush C dX3_gladdensSaid_75 (by decide +kernel) ?_
    refine lv_iload_n C.1 C.2.1 dX3_gladdensSaid_77 rfl (lv_at hl 4 rfl) ?_
    refine r_iast C hp h xk_33 xs_33 dX3_gladdensSaid_78 (fun M16 H locs h hp => ?_)
    refine lv_aload_n C.1 C.2.1 dX3_gladdensSaid_79 rfl (lv_at hl 1 rfl) ?_
    refine lv_aload C.1 C.2.1 dX3_gladdensSaid_80 (lv_at hl 0 rfl) ?_
    refine r_iconst C dX3_gladdensSaid_82 ?_
    obtain ⟨x17, M18, hr, h⟩ := bW_of h
    refine r_callVI (As := [.ref (V.2.2 t11), .int (gI 2)]) (rest := []) C hl.1 hp (c_X3_value l C.2.2.2.2.2.2.2.2.2.2.2 ht11 hr) gw_865 gw_867 gw_23 xk_31 xs_31 xc_3 cal_X3_value rfl rfl (Nat.le_of_ble_eq_true rfl) ⟨Nat.le_of_ble_eq_true rfl, Nat.le_of_ble_eq_true rfl⟩ dX3_gladdensSaid_83 (fun H locs hp => ?_)
    refine r_bipush C dX3_gladdensSaid_86 (by decide +kernel) ?_
    obtain ⟨x19, hr, h⟩ := bd_of h
    refine r_callSI (As := [.int (gI x17), .int (gI 99)]) (rest := []) C hl.1 hp (c_X3_bounded l C.2.2.2.2.2.2.2.2.2.2.2 hr) gw_886 gw_887 cal_X3_bounded rfl rfl (Nat.le_of_ble_eq_true rfl) ⟨Nat.le_of_ble_eq_true rfl, Nat.le_of_ble_eq_true rfl⟩ dX3_gladdensSaid_88 (fun H locs hp => ?_)
    cases h
    exact hR _ _ _ _ dX3_gladdensSaid_91 rfl hp
  · refine lv_aload_n C.1 C.2.1 dX3_gladdensSaid_16 rfl (lv_at hl 1 rfl) ?_
    refine r_getr (t := 1) C hp xk_31 xs_31 xc_3 xin_3 (j := 0) (by decide) rfl gw_324 rfl dX3_gladdensSaid_17 ?_
    refine r_getr (t := 6) C hp xk_1 xs_1 xc_1 xin_1 (j := 6) (by decide) rfl gw_162 rfl dX3_gladdensSaid_20 ?_
    refine lv_iload_n C.1 C.2.1 dX3_gladdensSaid_23 rfl (lv_at hl 3 rfl) ?_
    refine r_iald C hp h xk_6 xs_6 dX3_gladdensSaid_24 (fun h => ?_)
    cases h
    exact hR _ _ _ _ dX3_gladdensSaid_25 rfl hp
theorem c_X3_gladdensSaid (l : Launch) {V : g_V} (hok : g_ok xG V) {a1 : Int} {a2 : Int} {a3 : Int} {M : g_M} {x : Int} {M2 : g_M} (h : m_X3_gladdensSaid a1 a2 a3 M = some (x, M2)) : MetI xG V l yX3_gladdensSaid cX3_gladdensSaid 5 (some .int) 2 54 [.ref (V.2.2 31), .int (gI a1), .int (gI a2), .int (gI a3)] M x M2 :=
  g_metI hok cal_X3_gladdensSaid.2.2.2 rfl (Nat.le_of_ble_eq_true rfl) (@fun p e R s m args below meth c Q ls C hR hp hl => b_X3_gladdensSaid C hR h hp hl)
set_option maxRecDepth 100000 in
set_option maxHeartbeats 4000000 in
theorem w_X3_explains_L2 (C : g_CX xG V p R s m args meth c cX3_explains 3 (some .boolean) RX3 3 78) {res : Int × g_M} (hR : g_RetI xG V p l e R s m args below meth c Q cX3_explains .boolean res.1 res.2) (x12 : Int)   : ∀ (f : Nat) (x13 : Int) (M14 : g_M) (H : Heap) (locs : List Loc) (ls : Array Slot), m_X3_explains_L2 x12  f x13 M14 = some res → g_PT xG V M14 s H locs → lv_has ls 3 [(0, .ref (V.2.2 31)), (1, .int (gI x12)), (2, .int (gI x13))] → W p l e R s m args below meth c H locs 0 0 Q (F0 m 2 ls []) := by
  intro f
  induction f with
  | zero => intro x13 M14 H locs ls h hp hl; cases h
  | succ f ih =>
    intro x13 M14 H locs ls h hp hl
    rw [m_X3_explains_L2] at h
    refine lv_iload_n C.1 C.2.1 dX3_explains_2 rfl (lv_at hl 2 rfl) ?_
    refine lv_aload_n C.1 C.2.1 dX3_explains_3 rfl (lv_at hl 0 rfl) ?_
    refine r_getr (t := 1) C hp xk_31 xs_31 xc_3 xin_3 (j := 0) (by decide) rfl gw_324 rfl dX3_explains_4 ?_
    refine r_geti (t := 0) C hp xk_1 xs_1 xc_1 xin_1 (j := 17) (by decide) rfl gw_194 rfl dX3_explains_7 ?_
    refine r_icmp_ge (tgt := 48) C h dX3_explains_10 (by decide) (fun h => ?_) (fun h => ?_)
    · refine r_iconst C dX3_explains_48 ?_
      cases h
      exact hR _ _ _ _ dX3_explains_49 g_nz1 hp
    · refine lv_aload_n C.1 C.2.1 dX3_explains_13 rfl (lv_at hl 0 rfl) ?_
      refine lv_iload_n C.1 C.2.1 dX3_explains_14 rfl (lv_at hl 1 rfl) ?_
      refine lv_aload_n C.1 C.2.1 dX3_explains_15 rfl (lv_at hl 0 rfl) ?_
      refine r_getr (t := 1) C hp xk_31 xs_31 xc_3 xin_3 (j := 0) (by decide) rfl gw_324 rfl dX3_explains_16 ?_
      refine r_getr (t := 10) C hp xk_1 xs_1 xc_1 xin_1 (j := 15) (by decide) rfl gw_188 rfl dX3_explains_19 ?_
      refine lv_iload_n C.1 C.2.1 dX3_explains_22 rfl (lv_at hl 2 rfl) ?_
      refine r_iald C hp h xk_10 xs_10 dX3_explains_23 (fun h => ?_)
      refine r_iconst C dX3_explains_24 ?_
      obtain ⟨x15, M16, hr, h⟩ := bW_of h
      refine r_callVI (As := [.int (gI x12), .int (gI (M14 10 (gs x13).toNat)), .int (gI 1)]) (rest := []) C hl.1 hp (c_X3_gladdensSaid l C.2.2.2.2.2.2.2.2.2.2.2 hr) gw_1209 gw_899 gw_900 xk_31 xs_31 xc_3 cal_X3_gladdensSaid rfl rfl (Nat.le_of_ble_eq_true rfl) ⟨Nat.le_of_ble_eq_true rfl, Nat.le_of_ble_eq_true rfl⟩ dX3_explains_25 (fun H locs hp => ?_)
      refine lv_aload_n C.1 C.2.1 dX3_explains_28 rfl (lv_at hl 0 rfl) ?_
      refine r_getr (t := 1) C hp xk_31 xs_31 xc_3 xin_3 (j := 0) (by decide) rfl gw_324 rfl dX3_explains_29 ?_
      refine r_getr (t := 11) C hp xk_1 xs_1 xc_1 xin_1 (j := 16) (by decide) rfl gw_191 rfl dX3_explains_32 ?_
      refine lv_iload_n C.1 C.2.1 dX3_explains_35 rfl (lv_at hl 2 rfl) ?_
      refine r_iald C hp h xk_11 xs_11 dX3_explains_36 (fun h => ?_)
      refine r_icmp_eq (tgt := 42) C h dX3_explains_37 (by decide) (fun h => ?_) (fun h => ?_)
      · refine r_iinc (lv' := fun x17 => [(2, .int (gI x17)), (0, .ref (V.2.2 31)), (1, .int (gI x12))]) C h dX3_explains_42 hl (j := 2) rfl (by decide) (fun _ => rfl) (fun x17 ls h hl => ?_)
        refine r_goto (tgt := 2) C dX3_explains_45 (by decide) ?_
        exact ih _ _ _ _ _ h hp (lv_sub hl [1, 2, 0] rfl)
      · refine r_iconst C dX3_explains_40 ?_
        cases h
        exact hR _ _ _ _ dX3_explains_41 g_nz0 hp
set_option maxRecDepth 100000 in
set_option maxHeartbeats 4000000 in
theorem b_X3_explains (C : g_CX xG V p R s m args meth c cX3_explains 3 (some .boolean) RX3 3 78) {res : Int × g_M} (hR : g_RetI xG V p l e R s m args below meth c Q cX3_explains .boolean res.1 res.2) {a1 : Int} {M : g_M} {H : Heap} {locs : List Loc} {ls : Array Slot} (h : m_X3_explains a1 M = some res) (hp : g_PT xG V M s H locs) (hl : lv_has ls 3 [(0, .ref (V.2.2 31)), (1, .int (gI a1))]) : W p l e R s m args below meth c H locs 0 0 Q (F0 m 0 ls []) := by
  unfold m_X3_explains at h
  refine r_iconst C dX3_explains_0 ?_
  refine r_istore_n (lv' := fun x11 => [(2, .int (gI x11)), (0, .ref (V.2.2 31)), (1, .int (gI a1))]) C h dX3_explains_1 rfl hl (by decide) (fun _ => rfl) (fun x11 ls h hl => ?_)
  refine w_X3_explains_L2 C hR _ _ _ _ H locs ls h hp (lv_sub hl [1, 2, 0] rfl)
theorem c_X3_explains (l : Launch) {V : g_V} (hok : g_ok xG V) {a1 : Int} {M : g_M} {x : Int} {M2 : g_M} (h : m_X3_explains a1 M = some (x, M2)) : MetI xG V l yX3_explains cX3_explains 3 (some .boolean) 3 78 [.ref (V.2.2 31), .int (gI a1)] M x M2 :=
  g_metI hok cal_X3_explains.2.2.2 rfl (Nat.le_of_ble_eq_true rfl) (@fun p e R s m args below meth c Q ls C hR hp hl => b_X3_explains C hR h hp hl)
end
