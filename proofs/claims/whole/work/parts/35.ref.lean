theorem dX9_happens_0 : decode cX9_happens 0 = .ok (.iload_n 1, 1) := by decide +kernel
theorem dX9_happens_1 : decode cX9_happens 1 = .ok (.bipush 12, 2) := by decide +kernel
theorem dX9_happens_3 : decode cX9_happens 3 = .ok (.irem, 1) := by decide +kernel
theorem dX9_happens_4 : decode cX9_happens 4 = .ok (.istore_n 2, 1) := by decide +kernel
theorem dX9_happens_5 : decode cX9_happens 5 = .ok (.iload_n 1, 1) := by decide +kernel
theorem dX9_happens_6 : decode cX9_happens 6 = .ok (.iconst 5, 1) := by decide +kernel
theorem dX9_happens_7 : decode cX9_happens 7 = .ok (.irem, 1) := by decide +kernel
theorem dX9_happens_8 : decode cX9_happens 8 = .ok (.tableswitch 104 0 2 #[28, 59, 81], 28) := by decide +kernel
theorem dX9_happens_36 : decode cX9_happens 36 = .ok (.aload_n 0, 1) := by decide +kernel
theorem dX9_happens_37 : decode cX9_happens 37 = .ok (.getfield 7, 3) := by decide +kernel
theorem dX9_happens_40 : decode cX9_happens 40 = .ok (.iconst 0, 1) := by decide +kernel
theorem dX9_happens_41 : decode cX9_happens 41 = .ok (.iaload, 1) := by decide +kernel
theorem dX9_happens_42 : decode cX9_happens 42 = .ok (.ifCond .le 87, 3) := by decide +kernel
theorem dX9_happens_45 : decode cX9_happens 45 = .ok (.aload_n 0, 1) := by decide +kernel
theorem dX9_happens_46 : decode cX9_happens 46 = .ok (.iload_n 1, 1) := by decide +kernel
theorem dX9_happens_47 : decode cX9_happens 47 = .ok (.aload_n 0, 1) := by decide +kernel
theorem dX9_happens_48 : decode cX9_happens 48 = .ok (.getfield 7, 3) := by decide +kernel
theorem dX9_happens_51 : decode cX9_happens 51 = .ok (.iconst 0, 1) := by decide +kernel
theorem dX9_happens_52 : decode cX9_happens 52 = .ok (.iaload, 1) := by decide +kernel
theorem dX9_happens_53 : decode cX9_happens 53 = .ok (.irem, 1) := by decide +kernel
theorem dX9_happens_54 : decode cX9_happens 54 = .ok (.iconst 0, 1) := by decide +kernel
theorem dX9_happens_55 : decode cX9_happens 55 = .ok (.iload_n 1, 1) := by decide +kernel
theorem dX9_happens_56 : decode cX9_happens 56 = .ok (.iconst 5, 1) := by decide +kernel
theorem dX9_happens_57 : decode cX9_happens 57 = .ok (.idiv, 1) := by decide +kernel
theorem dX9_happens_58 : decode cX9_happens 58 = .ok (.bipush 10, 2) := by decide +kernel
theorem dX9_happens_60 : decode cX9_happens 60 = .ok (.irem, 1) := by decide +kernel
theorem dX9_happens_61 : decode cX9_happens 61 = .ok (.invokevirtual 96, 3) := by decide +kernel
theorem dX9_happens_64 : decode cX9_happens 64 = .ok (.goto 65, 3) := by decide +kernel
theorem dX9_happens_67 : decode cX9_happens 67 = .ok (.aload_n 0, 1) := by decide +kernel
theorem dX9_happens_68 : decode cX9_happens 68 = .ok (.getfield 7, 3) := by decide +kernel
theorem dX9_happens_71 : decode cX9_happens 71 = .ok (.bipush 22, 2) := by decide +kernel
theorem dX9_happens_73 : decode cX9_happens 73 = .ok (.iload_n 2, 1) := by decide +kernel
theorem dX9_happens_74 : decode cX9_happens 74 = .ok (.iadd, 1) := by decide +kernel
theorem dX9_happens_75 : decode cX9_happens 75 = .ok (.aload_n 0, 1) := by decide +kernel
theorem dX9_happens_76 : decode cX9_happens 76 = .ok (.iload_n 2, 1) := by decide +kernel
theorem dX9_happens_77 : decode cX9_happens 77 = .ok (.iconst 1, 1) := by decide +kernel
theorem dX9_happens_78 : decode cX9_happens 78 = .ok (.iload_n 1, 1) := by decide +kernel
theorem dX9_happens_79 : decode cX9_happens 79 = .ok (.iconst 3, 1) := by decide +kernel
theorem dX9_happens_80 : decode cX9_happens 80 = .ok (.irem, 1) := by decide +kernel
theorem dX9_happens_81 : decode cX9_happens 81 = .ok (.iadd, 1) := by decide +kernel
theorem dX9_happens_82 : decode cX9_happens 82 = .ok (.invokevirtual 343, 3) := by decide +kernel
theorem dX9_happens_85 : decode cX9_happens 85 = .ok (.iastore, 1) := by decide +kernel
theorem dX9_happens_86 : decode cX9_happens 86 = .ok (.goto 43, 3) := by decide +kernel
theorem dX9_happens_89 : decode cX9_happens 89 = .ok (.aload_n 0, 1) := by decide +kernel
theorem dX9_happens_90 : decode cX9_happens 90 = .ok (.getfield 7, 3) := by decide +kernel
theorem dX9_happens_93 : decode cX9_happens 93 = .ok (.bipush 22, 2) := by decide +kernel
theorem dX9_happens_95 : decode cX9_happens 95 = .ok (.iload_n 2, 1) := by decide +kernel
theorem dX9_happens_96 : decode cX9_happens 96 = .ok (.iadd, 1) := by decide +kernel
theorem dX9_happens_97 : decode cX9_happens 97 = .ok (.aload_n 0, 1) := by decide +kernel
theorem dX9_happens_98 : decode cX9_happens 98 = .ok (.getfield 7, 3) := by decide +kernel
theorem dX9_happens_101 : decode cX9_happens 101 = .ok (.bipush 66, 2) := by decide +kernel
theorem dX9_happens_103 : decode cX9_happens 103 = .ok (.iconst 4, 1) := by decide +kernel
theorem dX9_happens_104 : decode cX9_happens 104 = .ok (.iload_n 2, 1) := by decide +kernel
theorem dX9_happens_105 : decode cX9_happens 105 = .ok (.imul, 1) := by decide +kernel
theorem dX9_happens_106 : decode cX9_happens 106 = .ok (.iadd, 1) := by decide +kernel
theorem dX9_happens_107 : decode cX9_happens 107 = .ok (.iaload, 1) := by decide +kernel
theorem dX9_happens_108 : decode cX9_happens 108 = .ok (.iastore, 1) := by decide +kernel
theorem dX9_happens_109 : decode cX9_happens 109 = .ok (.goto 20, 3) := by decide +kernel
theorem dX9_happens_112 : decode cX9_happens 112 = .ok (.aload_n 0, 1) := by decide +kernel
theorem dX9_happens_113 : decode cX9_happens 113 = .ok (.getfield 7, 3) := by decide +kernel
theorem dX9_happens_116 : decode cX9_happens 116 = .ok (.bipush 6, 2) := by decide +kernel
theorem dX9_happens_118 : decode cX9_happens 118 = .ok (.iaload, 1) := by decide +kernel
theorem dX9_happens_119 : decode cX9_happens 119 = .ok (.sipush 9999, 3) := by decide +kernel
theorem dX9_happens_122 : decode cX9_happens 122 = .ok (.if_icmp .ge 7, 3) := by decide +kernel
theorem dX9_happens_125 : decode cX9_happens 125 = .ok (.aload_n 0, 1) := by decide +kernel
theorem dX9_happens_126 : decode cX9_happens 126 = .ok (.invokevirtual 385, 3) := by decide +kernel
theorem dX9_happens_129 : decode cX9_happens 129 = .ok (.return_, 1) := by decide +kernel
theorem dX9_years_0 : decode cX9_years 0 = .ok (.iload_n 1, 1) := by decide +kernel
theorem dX9_years_1 : decode cX9_years 1 = .ok (.iconst 0, 1) := by decide +kernel
theorem dX9_years_2 : decode cX9_years 2 = .ok (.sipush 9999, 3) := by decide +kernel
theorem dX9_years_5 : decode cX9_years 5 = .ok (.invokestatic 78, 3) := by decide +kernel
theorem dX9_years_8 : decode cX9_years 8 = .ok (.ifCond .eq 13, 3) := by decide +kernel
theorem dX9_years_11 : decode cX9_years 11 = .ok (.iload_n 2, 1) := by decide +kernel
theorem dX9_years_12 : decode cX9_years 12 = .ok (.iconst 1, 1) := by decide +kernel
theorem dX9_years_13 : decode cX9_years 13 = .ok (.bipush 40, 2) := by decide +kernel
theorem dX9_years_15 : decode cX9_years 15 = .ok (.invokestatic 78, 3) := by decide +kernel
theorem dX9_years_18 : decode cX9_years 18 = .ok (.ifCond .ne 5, 3) := by decide +kernel
theorem dX9_years_21 : decode cX9_years 21 = .ok (.iconst (-1), 1) := by decide +kernel
theorem dX9_years_22 : decode cX9_years 22 = .ok (.ireturn, 1) := by decide +kernel
theorem dX9_years_23 : decode cX9_years 23 = .ok (.aload_n 0, 1) := by decide +kernel
theorem dX9_years_24 : decode cX9_years 24 = .ok (.invokevirtual 376, 3) := by decide +kernel
theorem dX9_years_27 : decode cX9_years 27 = .ok (.aload_n 0, 1) := by decide +kernel
theorem dX9_years_28 : decode cX9_years 28 = .ok (.getfield 7, 3) := by decide +kernel
theorem dX9_years_31 : decode cX9_years 31 = .ok (.bipush 7, 2) := by decide +kernel
theorem dX9_years_33 : decode cX9_years 33 = .ok (.iload_n 1, 1) := by decide +kernel
theorem dX9_years_34 : decode cX9_years 34 = .ok (.iconst 2, 1) := by decide +kernel
theorem dX9_years_35 : decode cX9_years 35 = .ok (.imul, 1) := by decide +kernel
theorem dX9_years_36 : decode cX9_years 36 = .ok (.sipush 199, 3) := by decide +kernel
theorem dX9_years_39 : decode cX9_years 39 = .ok (.iadd, 1) := by decide +kernel
theorem dX9_years_40 : decode cX9_years 40 = .ok (.iastore, 1) := by decide +kernel
theorem dX9_years_41 : decode cX9_years 41 = .ok (.iconst 0, 1) := by decide +kernel
theorem dX9_years_42 : decode cX9_years 42 = .ok (.istore_n 3, 1) := by decide +kernel
theorem dX9_years_43 : decode cX9_years 43 = .ok (.iload_n 3, 1) := by decide +kernel
theorem dX9_years_44 : decode cX9_years 44 = .ok (.iload_n 2, 1) := by decide +kernel
theorem dX9_years_45 : decode cX9_years 45 = .ok (.if_icmp .ge 28, 3) := by decide +kernel
theorem dX9_years_48 : decode cX9_years 48 = .ok (.aload_n 0, 1) := by decide +kernel
theorem dX9_years_49 : decode cX9_years 49 = .ok (.getfield 7, 3) := by decide +kernel
theorem dX9_years_52 : decode cX9_years 52 = .ok (.bipush 7, 2) := by decide +kernel
theorem dX9_years_54 : decode cX9_years 54 = .ok (.iaload, 1) := by decide +kernel
theorem dX9_years_55 : decode cX9_years 55 = .ok (.istore 4, 2) := by decide +kernel
theorem dX9_years_57 : decode cX9_years 57 = .ok (.aload_n 0, 1) := by decide +kernel
theorem dX9_years_58 : decode cX9_years 58 = .ok (.invokevirtual 340, 3) := by decide +kernel
theorem dX9_years_61 : decode cX9_years 61 = .ok (.aload_n 0, 1) := by decide +kernel
theorem dX9_years_62 : decode cX9_years 62 = .ok (.iload 4, 2) := by decide +kernel
theorem dX9_years_64 : decode cX9_years 64 = .ok (.invokevirtual 412, 3) := by decide +kernel
theorem dX9_years_67 : decode cX9_years 67 = .ok (.iinc 3 1, 3) := by decide +kernel
theorem dX9_years_70 : decode cX9_years 70 = .ok (.goto (-27), 3) := by decide +kernel
theorem dX9_years_73 : decode cX9_years 73 = .ok (.aload_n 0, 1) := by decide +kernel
theorem dX9_years_74 : decode cX9_years 74 = .ok (.getfield 7, 3) := by decide +kernel
theorem dX9_years_77 : decode cX9_years 77 = .ok (.bipush 6, 2) := by decide +kernel
theorem dX9_years_79 : decode cX9_years 79 = .ok (.iaload, 1) := by decide +kernel
theorem dX9_years_80 : decode cX9_years 80 = .ok (.ireturn, 1) := by decide +kernel
theorem dX9_of_0 : decode cX9_of 0 = .ok (.aload_n 0, 1) := by decide +kernel
theorem dX9_of_1 : decode cX9_of 1 = .ok (.iload_n 1, 1) := by decide +kernel
theorem dX9_of_2 : decode cX9_of 2 = .ok (.invokevirtual 370, 3) := by decide +kernel
theorem dX9_of_5 : decode cX9_of 5 = .ok (.ifCond .ne 5, 3) := by decide +kernel
theorem dX9_of_8 : decode cX9_of 8 = .ok (.iconst (-1), 1) := by decide +kernel
theorem dX9_of_9 : decode cX9_of 9 = .ok (.ireturn, 1) := by decide +kernel
theorem dX9_of_10 : decode cX9_of 10 = .ok (.iload_n 2, 1) := by decide +kernel
theorem dX9_of_11 : decode cX9_of 11 = .ok (.tableswitch 63 0 3 #[29, 36, 43, 50], 29) := by decide +kernel
theorem dX9_of_40 : decode cX9_of 40 = .ok (.aload_n 0, 1) := by decide +kernel
theorem dX9_of_41 : decode cX9_of 41 = .ok (.iload_n 1, 1) := by decide +kernel
theorem dX9_of_42 : decode cX9_of 42 = .ok (.iconst 2, 1) := by decide +kernel
theorem dX9_of_43 : decode cX9_of 43 = .ok (.invokevirtual 82, 3) := by decide +kernel
theorem dX9_of_46 : decode cX9_of 46 = .ok (.ireturn, 1) := by decide +kernel
theorem dX9_of_47 : decode cX9_of 47 = .ok (.aload_n 0, 1) := by decide +kernel
theorem dX9_of_48 : decode cX9_of 48 = .ok (.iload_n 1, 1) := by decide +kernel
theorem dX9_of_49 : decode cX9_of 49 = .ok (.iconst 0, 1) := by decide +kernel
theorem dX9_of_50 : decode cX9_of 50 = .ok (.invokevirtual 82, 3) := by decide +kernel
theorem dX9_of_53 : decode cX9_of 53 = .ok (.ireturn, 1) := by decide +kernel
theorem dX9_of_54 : decode cX9_of 54 = .ok (.aload_n 0, 1) := by decide +kernel
theorem dX9_of_55 : decode cX9_of 55 = .ok (.iload_n 1, 1) := by decide +kernel
theorem dX9_of_56 : decode cX9_of 56 = .ok (.iconst 1, 1) := by decide +kernel
theorem dX9_of_57 : decode cX9_of 57 = .ok (.invokevirtual 82, 3) := by decide +kernel
theorem dX9_of_60 : decode cX9_of 60 = .ok (.ireturn, 1) := by decide +kernel
theorem dX9_of_61 : decode cX9_of 61 = .ok (.aload_n 0, 1) := by decide +kernel
theorem dX9_of_62 : decode cX9_of 62 = .ok (.aload_n 0, 1) := by decide +kernel
theorem dX9_of_63 : decode cX9_of 63 = .ok (.getfield 7, 3) := by decide +kernel
theorem dX9_of_66 : decode cX9_of 66 = .ok (.iconst 2, 1) := by decide +kernel
theorem dX9_of_67 : decode cX9_of 67 = .ok (.iaload, 1) := by decide +kernel
theorem dX9_of_68 : decode cX9_of 68 = .ok (.iload_n 1, 1) := by decide +kernel
theorem dX9_of_69 : decode cX9_of 69 = .ok (.iconst 1, 1) := by decide +kernel
theorem dX9_of_70 : decode cX9_of 70 = .ok (.invokevirtual 352, 3) := by decide +kernel
theorem dX9_of_73 : decode cX9_of 73 = .ok (.ireturn, 1) := by decide +kernel
theorem dX9_of_74 : decode cX9_of 74 = .ok (.iconst (-1), 1) := by decide +kernel
theorem dX9_of_75 : decode cX9_of 75 = .ok (.ireturn, 1) := by decide +kernel
theorem dX9_ofScene_0 : decode cX9_ofScene 0 = .ok (.iload_n 1, 1) := by decide +kernel
theorem dX9_ofScene_1 : decode cX9_ofScene 1 = .ok (.invokestatic 90, 3) := by decide +kernel
theorem dX9_ofScene_4 : decode cX9_ofScene 4 = .ok (.ifCond .ne 5, 3) := by decide +kernel
theorem dX9_ofScene_7 : decode cX9_ofScene 7 = .ok (.iconst (-1), 1) := by decide +kernel
theorem dX9_ofScene_8 : decode cX9_ofScene 8 = .ok (.ireturn, 1) := by decide +kernel
theorem dX9_ofScene_9 : decode cX9_ofScene 9 = .ok (.iload_n 2, 1) := by decide +kernel
theorem dX9_ofScene_10 : decode cX9_ofScene 10 = .ok (.tableswitch 69 4 7 #[30, 42, 52, 62], 30) := by decide +kernel
theorem dX9_ofScene_40 : decode cX9_ofScene 40 = .ok (.aload_n 0, 1) := by decide +kernel
theorem dX9_ofScene_41 : decode cX9_ofScene 41 = .ok (.getfield 7, 3) := by decide +kernel
theorem dX9_ofScene_44 : decode cX9_ofScene 44 = .ok (.bipush 66, 2) := by decide +kernel
theorem dX9_ofScene_46 : decode cX9_ofScene 46 = .ok (.iconst 4, 1) := by decide +kernel
theorem dX9_ofScene_47 : decode cX9_ofScene 47 = .ok (.iload_n 1, 1) := by decide +kernel
theorem dX9_ofScene_48 : decode cX9_ofScene 48 = .ok (.imul, 1) := by decide +kernel
theorem dX9_ofScene_49 : decode cX9_ofScene 49 = .ok (.iadd, 1) := by decide +kernel
theorem dX9_ofScene_50 : decode cX9_ofScene 50 = .ok (.iaload, 1) := by decide +kernel
theorem dX9_ofScene_51 : decode cX9_ofScene 51 = .ok (.ireturn, 1) := by decide +kernel
theorem dX9_ofScene_52 : decode cX9_ofScene 52 = .ok (.aload_n 0, 1) := by decide +kernel
theorem dX9_ofScene_53 : decode cX9_ofScene 53 = .ok (.getfield 7, 3) := by decide +kernel
theorem dX9_ofScene_56 : decode cX9_ofScene 56 = .ok (.bipush 114, 2) := by decide +kernel
theorem dX9_ofScene_58 : decode cX9_ofScene 58 = .ok (.iload_n 1, 1) := by decide +kernel
theorem dX9_ofScene_59 : decode cX9_ofScene 59 = .ok (.iadd, 1) := by decide +kernel
theorem dX9_ofScene_60 : decode cX9_ofScene 60 = .ok (.iaload, 1) := by decide +kernel
theorem dX9_ofScene_61 : decode cX9_ofScene 61 = .ok (.ireturn, 1) := by decide +kernel
theorem dX9_ofScene_62 : decode cX9_ofScene 62 = .ok (.aload_n 0, 1) := by decide +kernel
theorem dX9_ofScene_63 : decode cX9_ofScene 63 = .ok (.getfield 7, 3) := by decide +kernel
theorem dX9_ofScene_66 : decode cX9_ofScene 66 = .ok (.bipush 10, 2) := by decide +kernel
theorem dX9_ofScene_68 : decode cX9_ofScene 68 = .ok (.iload_n 1, 1) := by decide +kernel
theorem dX9_ofScene_69 : decode cX9_ofScene 69 = .ok (.iadd, 1) := by decide +kernel
theorem dX9_ofScene_70 : decode cX9_ofScene 70 = .ok (.iaload, 1) := by decide +kernel
theorem dX9_ofScene_71 : decode cX9_ofScene 71 = .ok (.ireturn, 1) := by decide +kernel
theorem dX9_ofScene_72 : decode cX9_ofScene 72 = .ok (.aload_n 0, 1) := by decide +kernel
theorem dX9_ofScene_73 : decode cX9_ofScene 73 = .ok (.iload_n 1, 1) := by decide +kernel
theorem dX9_ofScene_74 : decode cX9_ofScene 74 = .ok (.iconst 0, 1) := by decide +kernel
theorem dX9_ofScene_75 : decode cX9_ofScene 75 = .ok (.invokevirtual 337, 3) := by decide +kernel
theorem dX9_ofScene_78 : decode cX9_ofScene 78 = .ok (.ireturn, 1) := by decide +kernel
theorem dX9_ofScene_79 : decode cX9_ofScene 79 = .ok (.iload_n 2, 1) := by decide +kernel
theorem dX9_ofScene_80 : decode cX9_ofScene 80 = .ok (.iconst 0, 1) := by decide +kernel
theorem dX9_ofScene_81 : decode cX9_ofScene 81 = .ok (.iconst 3, 1) := by decide +kernel
theorem dX9_ofScene_82 : decode cX9_ofScene 82 = .ok (.invokestatic 78, 3) := by decide +kernel
theorem dX9_ofScene_85 : decode cX9_ofScene 85 = .ok (.ifCond .eq 12, 3) := by decide +kernel
theorem dX9_ofScene_88 : decode cX9_ofScene 88 = .ok (.aload_n 0, 1) := by decide +kernel
theorem dX9_ofScene_89 : decode cX9_ofScene 89 = .ok (.iload_n 1, 1) := by decide +kernel
theorem dX9_ofScene_90 : decode cX9_ofScene 90 = .ok (.iload_n 2, 1) := by decide +kernel
theorem dX9_ofScene_91 : decode cX9_ofScene 91 = .ok (.invokevirtual 343, 3) := by decide +kernel
theorem dX9_ofScene_94 : decode cX9_ofScene 94 = .ok (.goto 4, 3) := by decide +kernel
theorem dX9_ofScene_97 : decode cX9_ofScene 97 = .ok (.iconst (-1), 1) := by decide +kernel
theorem dX9_ofScene_98 : decode cX9_ofScene 98 = .ok (.ireturn, 1) := by decide +kernel
theorem dX9_is_0 : decode cX9_is 0 = .ok (.iload_n 1, 1) := by decide +kernel
theorem dX9_is_1 : decode cX9_is 1 = .ok (.ifCond .ne 13, 3) := by decide +kernel
theorem dX9_is_4 : decode cX9_is 4 = .ok (.aload_n 0, 1) := by decide +kernel
theorem dX9_is_5 : decode cX9_is 5 = .ok (.getfield 7, 3) := by decide +kernel
theorem dX9_is_8 : decode cX9_is 8 = .ok (.bipush 6, 2) := by decide +kernel
theorem dX9_is_10 : decode cX9_is 10 = .ok (.iaload, 1) := by decide +kernel
theorem dX9_is_11 : decode cX9_is 11 = .ok (.goto 47, 3) := by decide +kernel
theorem dX9_is_14 : decode cX9_is 14 = .ok (.iload_n 1, 1) := by decide +kernel
theorem dX9_is_15 : decode cX9_is 15 = .ok (.iconst 1, 1) := by decide +kernel
theorem dX9_is_16 : decode cX9_is 16 = .ok (.if_icmp .ne 13, 3) := by decide +kernel
theorem dX9_is_19 : decode cX9_is 19 = .ok (.aload_n 0, 1) := by decide +kernel
theorem dX9_is_20 : decode cX9_is 20 = .ok (.getfield 7, 3) := by decide +kernel
theorem dX9_is_23 : decode cX9_is 23 = .ok (.bipush 7, 2) := by decide +kernel
theorem dX9_is_25 : decode cX9_is 25 = .ok (.iaload, 1) := by decide +kernel
theorem dX9_is_26 : decode cX9_is 26 = .ok (.goto 32, 3) := by decide +kernel
theorem dX9_is_29 : decode cX9_is 29 = .ok (.iload_n 1, 1) := by decide +kernel
theorem dX9_is_30 : decode cX9_is 30 = .ok (.iconst 2, 1) := by decide +kernel
theorem dX9_is_31 : decode cX9_is 31 = .ok (.if_icmp .ne 10, 3) := by decide +kernel
theorem dX9_is_34 : decode cX9_is 34 = .ok (.aload_n 0, 1) := by decide +kernel
theorem dX9_is_35 : decode cX9_is 35 = .ok (.invokevirtual 315, 3) := by decide +kernel
theorem dX9_is_38 : decode cX9_is 38 = .ok (.goto 20, 3) := by decide +kernel
theorem dX9_is_41 : decode cX9_is 41 = .ok (.iload_n 1, 1) := by decide +kernel
theorem dX9_is_42 : decode cX9_is 42 = .ok (.iconst 3, 1) := by decide +kernel
theorem dX9_is_43 : decode cX9_is 43 = .ok (.if_icmp .ne 13, 3) := by decide +kernel
theorem dX9_is_46 : decode cX9_is 46 = .ok (.aload_n 0, 1) := by decide +kernel
theorem dX9_is_47 : decode cX9_is 47 = .ok (.getfield 7, 3) := by decide +kernel
theorem dX9_is_50 : decode cX9_is 50 = .ok (.bipush 8, 2) := by decide +kernel
theorem dX9_is_52 : decode cX9_is 52 = .ok (.iaload, 1) := by decide +kernel
theorem dX9_is_53 : decode cX9_is 53 = .ok (.goto 5, 3) := by decide +kernel
theorem dX9_is_56 : decode cX9_is 56 = .ok (.bipush (-2), 2) := by decide +kernel
theorem dX9_is_58 : decode cX9_is 58 = .ok (.ireturn, 1) := by decide +kernel
theorem dX9_book_0 : decode cX9_book 0 = .ok (.iload_n 1, 1) := by decide +kernel
theorem dX9_book_1 : decode cX9_book 1 = .ok (.iconst (-1), 1) := by decide +kernel
theorem dX9_book_2 : decode cX9_book 2 = .ok (.if_icmp .ne 11, 3) := by decide +kernel
theorem dX9_book_5 : decode cX9_book 5 = .ok (.aload_n 0, 1) := by decide +kernel
theorem dX9_book_6 : decode cX9_book 6 = .ok (.getfield 7, 3) := by decide +kernel
theorem dX9_book_9 : decode cX9_book 9 = .ok (.bipush 9, 2) := by decide +kernel
theorem dX9_book_11 : decode cX9_book 11 = .ok (.iaload, 1) := by decide +kernel
theorem dX9_book_12 : decode cX9_book 12 = .ok (.ireturn, 1) := by decide +kernel
theorem dX9_book_13 : decode cX9_book 13 = .ok (.iload_n 1, 1) := by decide +kernel
theorem dX9_book_14 : decode cX9_book 14 = .ok (.iconst 0, 1) := by decide +kernel
theorem dX9_book_15 : decode cX9_book 15 = .ok (.aload_n 0, 1) := by decide +kernel
theorem dX9_book_16 : decode cX9_book 16 = .ok (.getfield 7, 3) := by decide +kernel
theorem dX9_book_19 : decode cX9_book 19 = .ok (.bipush 9, 2) := by decide +kernel
theorem dX9_book_21 : decode cX9_book 21 = .ok (.iaload, 1) := by decide +kernel
theorem dX9_book_22 : decode cX9_book 22 = .ok (.iconst 1, 1) := by decide +kernel
theorem dX9_book_23 : decode cX9_book 23 = .ok (.isub, 1) := by decide +kernel
theorem dX9_book_24 : decode cX9_book 24 = .ok (.invokestatic 78, 3) := by decide +kernel
theorem dX9_book_27 : decode cX9_book 27 = .ok (.ifCond .ne 6, 3) := by decide +kernel
theorem dX9_book_30 : decode cX9_book 30 = .ok (.bipush (-2), 2) := by decide +kernel
theorem dX9_book_32 : decode cX9_book 32 = .ok (.ireturn, 1) := by decide +kernel
theorem dX9_book_33 : decode cX9_book 33 = .ok (.aload_n 0, 1) := by decide +kernel
theorem dX9_book_34 : decode cX9_book 34 = .ok (.getfield 7, 3) := by decide +kernel
theorem dX9_book_37 : decode cX9_book 37 = .ok (.sipush 3349, 3) := by decide +kernel
theorem dX9_book_40 : decode cX9_book 40 = .ok (.iconst 2, 1) := by decide +kernel
theorem dX9_book_41 : decode cX9_book 41 = .ok (.iload_n 1, 1) := by decide +kernel
theorem dX9_book_42 : decode cX9_book 42 = .ok (.imul, 1) := by decide +kernel
theorem dX9_book_43 : decode cX9_book 43 = .ok (.iadd, 1) := by decide +kernel
theorem dX9_book_44 : decode cX9_book 44 = .ok (.iconst 1, 1) := by decide +kernel
theorem dX9_book_45 : decode cX9_book 45 = .ok (.iadd, 1) := by decide +kernel
theorem dX9_book_46 : decode cX9_book 46 = .ok (.iaload, 1) := by decide +kernel
theorem dX9_book_47 : decode cX9_book 47 = .ok (.istore_n 3, 1) := by decide +kernel
theorem dX9_book_48 : decode cX9_book 48 = .ok (.iload_n 2, 1) := by decide +kernel
theorem dX9_book_49 : decode cX9_book 49 = .ok (.ifCond .ne 18, 3) := by decide +kernel
theorem dX9_book_52 : decode cX9_book 52 = .ok (.aload_n 0, 1) := by decide +kernel
theorem dX9_book_53 : decode cX9_book 53 = .ok (.getfield 7, 3) := by decide +kernel
theorem dX9_book_56 : decode cX9_book 56 = .ok (.sipush 3349, 3) := by decide +kernel
theorem dX9_book_59 : decode cX9_book 59 = .ok (.iconst 2, 1) := by decide +kernel
theorem dX9_book_60 : decode cX9_book 60 = .ok (.iload_n 1, 1) := by decide +kernel
theorem dX9_book_61 : decode cX9_book 61 = .ok (.imul, 1) := by decide +kernel
theorem dX9_book_62 : decode cX9_book 62 = .ok (.iadd, 1) := by decide +kernel
theorem dX9_book_63 : decode cX9_book 63 = .ok (.iaload, 1) := by decide +kernel
theorem dX9_book_64 : decode cX9_book 64 = .ok (.goto 44, 3) := by decide +kernel
theorem dX9_book_67 : decode cX9_book 67 = .ok (.iload_n 2, 1) := by decide +kernel
theorem dX9_book_68 : decode cX9_book 68 = .ok (.iconst 1, 1) := by decide +kernel
theorem dX9_book_69 : decode cX9_book 69 = .ok (.if_icmp .ne 11, 3) := by decide +kernel
theorem dX9_book_72 : decode cX9_book 72 = .ok (.iload_n 3, 1) := by decide +kernel
theorem dX9_book_73 : decode cX9_book 73 = .ok (.sipush 128, 3) := by decide +kernel
theorem dX9_book_76 : decode cX9_book 76 = .ok (.idiv, 1) := by decide +kernel
theorem dX9_book_77 : decode cX9_book 77 = .ok (.goto 31, 3) := by decide +kernel
theorem dX9_book_80 : decode cX9_book 80 = .ok (.iload_n 2, 1) := by decide +kernel
theorem dX9_book_81 : decode cX9_book 81 = .ok (.iconst 2, 1) := by decide +kernel
theorem dX9_book_82 : decode cX9_book 82 = .ok (.if_icmp .ne 12, 3) := by decide +kernel
theorem dX9_book_85 : decode cX9_book 85 = .ok (.iload_n 3, 1) := by decide +kernel
theorem dX9_book_86 : decode cX9_book 86 = .ok (.bipush 64, 2) := by decide +kernel
theorem dX9_book_88 : decode cX9_book 88 = .ok (.idiv, 1) := by decide +kernel
theorem dX9_book_89 : decode cX9_book 89 = .ok (.iconst 2, 1) := by decide +kernel
theorem dX9_book_90 : decode cX9_book 90 = .ok (.irem, 1) := by decide +kernel
theorem dX9_book_91 : decode cX9_book 91 = .ok (.goto 17, 3) := by decide +kernel
theorem dX9_book_94 : decode cX9_book 94 = .ok (.iload_n 2, 1) := by decide +kernel
theorem dX9_book_95 : decode cX9_book 95 = .ok (.iconst 3, 1) := by decide +kernel
theorem dX9_book_96 : decode cX9_book 96 = .ok (.if_icmp .ne 10, 3) := by decide +kernel
theorem dX9_book_99 : decode cX9_book 99 = .ok (.iload_n 3, 1) := by decide +kernel
theorem dX9_book_100 : decode cX9_book 100 = .ok (.bipush 64, 2) := by decide +kernel
theorem dX9_book_102 : decode cX9_book 102 = .ok (.irem, 1) := by decide +kernel
theorem dX9_book_103 : decode cX9_book 103 = .ok (.goto 5, 3) := by decide +kernel
theorem dX9_book_106 : decode cX9_book 106 = .ok (.bipush (-2), 2) := by decide +kernel
theorem dX9_book_108 : decode cX9_book 108 = .ok (.ireturn, 1) := by decide +kernel
theorem dX9_ledger_0 : decode cX9_ledger 0 = .ok (.iconst 0, 1) := by decide +kernel
theorem dX9_ledger_1 : decode cX9_ledger 1 = .ok (.istore_n 2, 1) := by decide +kernel
theorem dX9_ledger_2 : decode cX9_ledger 2 = .ok (.iconst 0, 1) := by decide +kernel
theorem dX9_ledger_3 : decode cX9_ledger 3 = .ok (.istore_n 3, 1) := by decide +kernel
theorem dX9_ledger_4 : decode cX9_ledger 4 = .ok (.iload_n 3, 1) := by decide +kernel
theorem dX9_ledger_5 : decode cX9_ledger 5 = .ok (.aload_n 0, 1) := by decide +kernel
theorem dX9_ledger_6 : decode cX9_ledger 6 = .ok (.getfield 7, 3) := by decide +kernel
theorem dX9_ledger_9 : decode cX9_ledger 9 = .ok (.bipush 9, 2) := by decide +kernel
theorem dX9_ledger_11 : decode cX9_ledger 11 = .ok (.iaload, 1) := by decide +kernel
theorem dX9_ledger_12 : decode cX9_ledger 12 = .ok (.if_icmp .ge 36, 3) := by decide +kernel
theorem dX9_ledger_15 : decode cX9_ledger 15 = .ok (.iload_n 2, 1) := by decide +kernel
theorem dX9_ledger_16 : decode cX9_ledger 16 = .ok (.aload_n 0, 1) := by decide +kernel
theorem dX9_ledger_17 : decode cX9_ledger 17 = .ok (.iload_n 3, 1) := by decide +kernel
theorem dX9_ledger_18 : decode cX9_ledger 18 = .ok (.iconst 2, 1) := by decide +kernel
theorem dX9_ledger_19 : decode cX9_ledger 19 = .ok (.invokevirtual 415, 3) := by decide +kernel
theorem dX9_ledger_22 : decode cX9_ledger 22 = .ok (.iconst 1, 1) := by decide +kernel
theorem dX9_ledger_23 : decode cX9_ledger 23 = .ok (.if_icmp .ne 7, 3) := by decide +kernel
theorem dX9_ledger_26 : decode cX9_ledger 26 = .ok (.iconst 1, 1) := by decide +kernel
theorem dX9_ledger_27 : decode cX9_ledger 27 = .ok (.goto 4, 3) := by decide +kernel
theorem dX9_ledger_30 : decode cX9_ledger 30 = .ok (.iconst 0, 1) := by decide +kernel
theorem dX9_ledger_31 : decode cX9_ledger 31 = .ok (.iload_n 1, 1) := by decide +kernel
theorem dX9_ledger_32 : decode cX9_ledger 32 = .ok (.if_icmp .ne 7, 3) := by decide +kernel
theorem dX9_ledger_35 : decode cX9_ledger 35 = .ok (.iconst 1, 1) := by decide +kernel
theorem dX9_ledger_36 : decode cX9_ledger 36 = .ok (.goto 4, 3) := by decide +kernel
theorem dX9_ledger_39 : decode cX9_ledger 39 = .ok (.iconst 0, 1) := by decide +kernel
theorem dX9_ledger_40 : decode cX9_ledger 40 = .ok (.iadd, 1) := by decide +kernel
theorem dX9_ledger_41 : decode cX9_ledger 41 = .ok (.istore_n 2, 1) := by decide +kernel
theorem dX9_ledger_42 : decode cX9_ledger 42 = .ok (.iinc 3 1, 3) := by decide +kernel
theorem dX9_ledger_45 : decode cX9_ledger 45 = .ok (.goto (-41), 3) := by decide +kernel
theorem dX9_ledger_48 : decode cX9_ledger 48 = .ok (.iload_n 2, 1) := by decide +kernel
theorem dX9_ledger_49 : decode cX9_ledger 49 = .ok (.ireturn, 1) := by decide +kernel
theorem dX9_gladdest_0 : decode cX9_gladdest 0 = .ok (.iconst (-1), 1) := by decide +kernel
theorem dX9_gladdest_1 : decode cX9_gladdest 1 = .ok (.istore_n 1, 1) := by decide +kernel
theorem dX9_gladdest_2 : decode cX9_gladdest 2 = .ok (.iconst 0, 1) := by decide +kernel
theorem dX9_gladdest_3 : decode cX9_gladdest 3 = .ok (.istore_n 2, 1) := by decide +kernel
theorem dX9_gladdest_4 : decode cX9_gladdest 4 = .ok (.iload_n 2, 1) := by decide +kernel
theorem dX9_gladdest_5 : decode cX9_gladdest 5 = .ok (.aload_n 0, 1) := by decide +kernel
theorem dX9_gladdest_6 : decode cX9_gladdest 6 = .ok (.getfield 7, 3) := by decide +kernel
theorem dX9_gladdest_9 : decode cX9_gladdest 9 = .ok (.iconst 0, 1) := by decide +kernel
theorem dX9_gladdest_10 : decode cX9_gladdest 10 = .ok (.iaload, 1) := by decide +kernel
theorem dX9_gladdest_11 : decode cX9_gladdest 11 = .ok (.if_icmp .ge 31, 3) := by decide +kernel
theorem dX9_gladdest_14 : decode cX9_gladdest 14 = .ok (.iload_n 1, 1) := by decide +kernel
theorem dX9_gladdest_15 : decode cX9_gladdest 15 = .ok (.iconst (-1), 1) := by decide +kernel
theorem dX9_gladdest_16 : decode cX9_gladdest 16 = .ok (.if_icmp .eq 18, 3) := by decide +kernel
theorem dX9_gladdest_19 : decode cX9_gladdest 19 = .ok (.aload_n 0, 1) := by decide +kernel
theorem dX9_gladdest_20 : decode cX9_gladdest 20 = .ok (.iload_n 2, 1) := by decide +kernel
theorem dX9_gladdest_21 : decode cX9_gladdest 21 = .ok (.iconst 1, 1) := by decide +kernel
theorem dX9_gladdest_22 : decode cX9_gladdest 22 = .ok (.invokevirtual 82, 3) := by decide +kernel
theorem dX9_gladdest_25 : decode cX9_gladdest 25 = .ok (.aload_n 0, 1) := by decide +kernel
theorem dX9_gladdest_26 : decode cX9_gladdest 26 = .ok (.iload_n 1, 1) := by decide +kernel
theorem dX9_gladdest_27 : decode cX9_gladdest 27 = .ok (.iconst 1, 1) := by decide +kernel
theorem dX9_gladdest_28 : decode cX9_gladdest 28 = .ok (.invokevirtual 82, 3) := by decide +kernel
theorem dX9_gladdest_31 : decode cX9_gladdest 31 = .ok (.if_icmp .le 5, 3) := by decide +kernel
theorem dX9_gladdest_34 : decode cX9_gladdest 34 = .ok (.iload_n 2, 1) := by decide +kernel
theorem dX9_gladdest_35 : decode cX9_gladdest 35 = .ok (.istore_n 1, 1) := by decide +kernel
theorem dX9_gladdest_36 : decode cX9_gladdest 36 = .ok (.iinc 2 1, 3) := by decide +kernel
theorem dX9_gladdest_39 : decode cX9_gladdest 39 = .ok (.goto (-35), 3) := by decide +kernel
theorem dX9_gladdest_42 : decode cX9_gladdest 42 = .ok (.iload_n 1, 1) := by decide +kernel
theorem dX9_gladdest_43 : decode cX9_gladdest 43 = .ok (.ireturn, 1) := by decide +kernel
theorem dX9_often_0 : decode cX9_often 0 = .ok (.iconst 0, 1) := by decide +kernel
theorem dX9_often_1 : decode cX9_often 1 = .ok (.istore_n 1, 1) := by decide +kernel
theorem dX9_often_2 : decode cX9_often 2 = .ok (.iconst 1, 1) := by decide +kernel
theorem dX9_often_3 : decode cX9_often 3 = .ok (.istore_n 2, 1) := by decide +kernel
theorem dX9_often_4 : decode cX9_often 4 = .ok (.iload_n 2, 1) := by decide +kernel
theorem dX9_often_5 : decode cX9_often 5 = .ok (.bipush 12, 2) := by decide +kernel
theorem dX9_often_7 : decode cX9_often 7 = .ok (.if_icmp .ge 32, 3) := by decide +kernel
theorem dX9_often_10 : decode cX9_often 10 = .ok (.aload_n 0, 1) := by decide +kernel
theorem dX9_often_11 : decode cX9_often 11 = .ok (.getfield 7, 3) := by decide +kernel
theorem dX9_often_14 : decode cX9_often 14 = .ok (.bipush 10, 2) := by decide +kernel
theorem dX9_often_16 : decode cX9_often 16 = .ok (.iload_n 2, 1) := by decide +kernel
theorem dX9_often_17 : decode cX9_often 17 = .ok (.iadd, 1) := by decide +kernel
theorem dX9_often_18 : decode cX9_often 18 = .ok (.iaload, 1) := by decide +kernel
theorem dX9_often_19 : decode cX9_often 19 = .ok (.aload_n 0, 1) := by decide +kernel
theorem dX9_often_20 : decode cX9_often 20 = .ok (.getfield 7, 3) := by decide +kernel
theorem dX9_often_23 : decode cX9_often 23 = .ok (.bipush 10, 2) := by decide +kernel
theorem dX9_often_25 : decode cX9_often 25 = .ok (.iload_n 1, 1) := by decide +kernel
theorem dX9_often_26 : decode cX9_often 26 = .ok (.iadd, 1) := by decide +kernel
theorem dX9_often_27 : decode cX9_often 27 = .ok (.iaload, 1) := by decide +kernel
theorem dX9_often_28 : decode cX9_often 28 = .ok (.if_icmp .le 5, 3) := by decide +kernel
theorem dX9_often_31 : decode cX9_often 31 = .ok (.iload_n 2, 1) := by decide +kernel
theorem dX9_often_32 : decode cX9_often 32 = .ok (.istore_n 1, 1) := by decide +kernel
theorem dX9_often_33 : decode cX9_often 33 = .ok (.iinc 2 1, 3) := by decide +kernel
theorem dX9_often_36 : decode cX9_often 36 = .ok (.goto (-32), 3) := by decide +kernel
theorem dX9_often_39 : decode cX9_often 39 = .ok (.iload_n 1, 1) := by decide +kernel
theorem dX9_often_40 : decode cX9_often 40 = .ok (.ireturn, 1) := by decide +kernel
theorem dX9_changed_0 : decode cX9_changed 0 = .ok (.iconst 0, 1) := by decide +kernel
theorem dX9_changed_1 : decode cX9_changed 1 = .ok (.istore_n 1, 1) := by decide +kernel
theorem dX9_changed_2 : decode cX9_changed 2 = .ok (.iconst 0, 1) := by decide +kernel
theorem dX9_changed_3 : decode cX9_changed 3 = .ok (.istore_n 2, 1) := by decide +kernel
theorem dX9_changed_4 : decode cX9_changed 4 = .ok (.iload_n 2, 1) := by decide +kernel
theorem dX9_changed_5 : decode cX9_changed 5 = .ok (.bipush 12, 2) := by decide +kernel
theorem dX9_changed_7 : decode cX9_changed 7 = .ok (.if_icmp .ge 27, 3) := by decide +kernel
theorem dX9_changed_10 : decode cX9_changed 10 = .ok (.iload_n 1, 1) := by decide +kernel
theorem dX9_changed_11 : decode cX9_changed 11 = .ok (.aload_n 0, 1) := by decide +kernel
theorem dX9_changed_12 : decode cX9_changed 12 = .ok (.iload_n 2, 1) := by decide +kernel
theorem dX9_changed_13 : decode cX9_changed 13 = .ok (.invokevirtual 382, 3) := by decide +kernel
theorem dX9_changed_16 : decode cX9_changed 16 = .ok (.ifCond .eq 9, 3) := by decide +kernel
theorem dX9_changed_19 : decode cX9_changed 19 = .ok (.iconst 1, 1) := by decide +kernel
theorem dX9_changed_20 : decode cX9_changed 20 = .ok (.iload_n 2, 1) := by decide +kernel
theorem dX9_changed_21 : decode cX9_changed 21 = .ok (.ishl, 1) := by decide +kernel
theorem dX9_changed_22 : decode cX9_changed 22 = .ok (.goto 4, 3) := by decide +kernel
theorem dX9_changed_25 : decode cX9_changed 25 = .ok (.iconst 0, 1) := by decide +kernel
theorem dX9_changed_26 : decode cX9_changed 26 = .ok (.ior, 1) := by decide +kernel
theorem dX9_changed_27 : decode cX9_changed 27 = .ok (.istore_n 1, 1) := by decide +kernel
theorem dX9_changed_28 : decode cX9_changed 28 = .ok (.iinc 2 1, 3) := by decide +kernel
theorem dX9_changed_31 : decode cX9_changed 31 = .ok (.goto (-27), 3) := by decide +kernel
theorem dX9_changed_34 : decode cX9_changed 34 = .ok (.iload_n 1, 1) := by decide +kernel
theorem dX9_changed_35 : decode cX9_changed 35 = .ok (.ireturn, 1) := by decide +kernel
theorem dX9_foretold_0 : decode cX9_foretold 0 = .ok (.iload_n 1, 1) := by decide +kernel
theorem dX9_foretold_1 : decode cX9_foretold 1 = .ok (.iconst 1, 1) := by decide +kernel
theorem dX9_foretold_2 : decode cX9_foretold 2 = .ok (.bipush 40, 2) := by decide +kernel
theorem dX9_foretold_4 : decode cX9_foretold 4 = .ok (.invokestatic 78, 3) := by decide +kernel
theorem dX9_foretold_7 : decode cX9_foretold 7 = .ok (.ifCond .eq 12, 3) := by decide +kernel
theorem dX9_foretold_10 : decode cX9_foretold 10 = .ok (.iload_n 2, 1) := by decide +kernel
theorem dX9_foretold_11 : decode cX9_foretold 11 = .ok (.iconst 0, 1) := by decide +kernel
theorem dX9_foretold_12 : decode cX9_foretold 12 = .ok (.iconst 2, 1) := by decide +kernel
theorem dX9_foretold_13 : decode cX9_foretold 13 = .ok (.invokestatic 78, 3) := by decide +kernel
theorem dX9_foretold_16 : decode cX9_foretold 16 = .ok (.ifCond .ne 5, 3) := by decide +kernel
theorem dX9_foretold_19 : decode cX9_foretold 19 = .ok (.iconst (-1), 1) := by decide +kernel
theorem dX9_foretold_20 : decode cX9_foretold 20 = .ok (.ireturn, 1) := by decide +kernel
theorem dX9_foretold_21 : decode cX9_foretold 21 = .ok (.bipush 6, 2) := by decide +kernel
theorem dX9_foretold_23 : decode cX9_foretold 23 = .ok (.istore_n 3, 1) := by decide +kernel
theorem dX9_foretold_24 : decode cX9_foretold 24 = .ok (.iload_n 3, 1) := by decide +kernel
theorem dX9_foretold_25 : decode cX9_foretold 25 = .ok (.bipush 66, 2) := by decide +kernel
theorem dX9_foretold_27 : decode cX9_foretold 27 = .ok (.if_icmp .ge 21, 3) := by decide +kernel
theorem dX9_foretold_30 : decode cX9_foretold 30 = .ok (.aload_n 0, 1) := by decide +kernel
theorem dX9_foretold_31 : decode cX9_foretold 31 = .ok (.getfield 47, 3) := by decide +kernel
theorem dX9_foretold_34 : decode cX9_foretold 34 = .ok (.iload_n 3, 1) := by decide +kernel
theorem dX9_foretold_35 : decode cX9_foretold 35 = .ok (.aload_n 0, 1) := by decide +kernel
theorem dX9_foretold_36 : decode cX9_foretold 36 = .ok (.getfield 7, 3) := by decide +kernel
theorem dX9_foretold_39 : decode cX9_foretold 39 = .ok (.iload_n 3, 1) := by decide +kernel
theorem dX9_foretold_40 : decode cX9_foretold 40 = .ok (.iaload, 1) := by decide +kernel
theorem dX9_foretold_41 : decode cX9_foretold 41 = .ok (.iastore, 1) := by decide +kernel
theorem dX9_foretold_42 : decode cX9_foretold 42 = .ok (.iinc 3 1, 3) := by decide +kernel
theorem dX9_foretold_45 : decode cX9_foretold 45 = .ok (.goto (-21), 3) := by decide +kernel
theorem dX9_foretold_48 : decode cX9_foretold 48 = .ok (.aload_n 0, 1) := by decide +kernel
theorem dX9_foretold_49 : decode cX9_foretold 49 = .ok (.iconst 0, 1) := by decide +kernel
theorem dX9_foretold_50 : decode cX9_foretold 50 = .ok (.putfield 43, 3) := by decide +kernel
theorem dX9_foretold_53 : decode cX9_foretold 53 = .ok (.aload_n 0, 1) := by decide +kernel
theorem dX9_foretold_54 : decode cX9_foretold 54 = .ok (.iconst 0, 1) := by decide +kernel
theorem dX9_foretold_55 : decode cX9_foretold 55 = .ok (.putfield 355, 3) := by decide +kernel
theorem dX9_foretold_58 : decode cX9_foretold 58 = .ok (.aload_n 0, 1) := by decide +kernel
theorem dX9_foretold_59 : decode cX9_foretold 59 = .ok (.iconst 0, 1) := by decide +kernel
theorem dX9_foretold_60 : decode cX9_foretold 60 = .ok (.putfield 349, 3) := by decide +kernel
theorem dX9_foretold_63 : decode cX9_foretold 63 = .ok (.aload_n 0, 1) := by decide +kernel
theorem dX9_foretold_64 : decode cX9_foretold 64 = .ok (.iconst 0, 1) := by decide +kernel
theorem dX9_foretold_65 : decode cX9_foretold 65 = .ok (.putfield 364, 3) := by decide +kernel
theorem dX9_foretold_68 : decode cX9_foretold 68 = .ok (.iconst 0, 1) := by decide +kernel
theorem dX9_foretold_69 : decode cX9_foretold 69 = .ok (.istore_n 3, 1) := by decide +kernel
theorem dX9_foretold_70 : decode cX9_foretold 70 = .ok (.iload_n 3, 1) := by decide +kernel
theorem dX9_foretold_71 : decode cX9_foretold 71 = .ok (.iload_n 1, 1) := by decide +kernel
theorem dX9_foretold_72 : decode cX9_foretold 72 = .ok (.if_icmp .ge 26, 3) := by decide +kernel
theorem dX9_foretold_75 : decode cX9_foretold 75 = .ok (.aload_n 0, 1) := by decide +kernel
theorem dX9_foretold_76 : decode cX9_foretold 76 = .ok (.getfield 7, 3) := by decide +kernel
theorem dX9_foretold_79 : decode cX9_foretold 79 = .ok (.bipush 6, 2) := by decide +kernel
theorem dX9_foretold_81 : decode cX9_foretold 81 = .ok (.iaload, 1) := by decide +kernel
theorem dX9_foretold_82 : decode cX9_foretold 82 = .ok (.sipush 9999, 3) := by decide +kernel
theorem dX9_foretold_85 : decode cX9_foretold 85 = .ok (.if_icmp .ge 7, 3) := by decide +kernel
theorem dX9_foretold_88 : decode cX9_foretold 88 = .ok (.aload_n 0, 1) := by decide +kernel
theorem dX9_foretold_89 : decode cX9_foretold 89 = .ok (.invokevirtual 385, 3) := by decide +kernel
theorem dX9_foretold_92 : decode cX9_foretold 92 = .ok (.iinc 3 1, 3) := by decide +kernel
theorem dX9_foretold_95 : decode cX9_foretold 95 = .ok (.goto (-25), 3) := by decide +kernel
theorem dX9_foretold_98 : decode cX9_foretold 98 = .ok (.bipush 6, 2) := by decide +kernel
theorem dX9_foretold_100 : decode cX9_foretold 100 = .ok (.istore_n 3, 1) := by decide +kernel
theorem dX9_foretold_101 : decode cX9_foretold 101 = .ok (.iload_n 3, 1) := by decide +kernel
theorem dX9_foretold_102 : decode cX9_foretold 102 = .ok (.bipush 66, 2) := by decide +kernel
theorem dX9_foretold_104 : decode cX9_foretold 104 = .ok (.if_icmp .ge 21, 3) := by decide +kernel
theorem dX9_foretold_107 : decode cX9_foretold 107 = .ok (.aload_n 0, 1) := by decide +kernel
theorem dX9_foretold_108 : decode cX9_foretold 108 = .ok (.getfield 7, 3) := by decide +kernel
theorem dX9_foretold_111 : decode cX9_foretold 111 = .ok (.iload_n 3, 1) := by decide +kernel
theorem dX9_foretold_112 : decode cX9_foretold 112 = .ok (.aload_n 0, 1) := by decide +kernel
theorem dX9_foretold_113 : decode cX9_foretold 113 = .ok (.getfield 47, 3) := by decide +kernel
theorem dX9_foretold_116 : decode cX9_foretold 116 = .ok (.iload_n 3, 1) := by decide +kernel
theorem dX9_foretold_117 : decode cX9_foretold 117 = .ok (.iaload, 1) := by decide +kernel
theorem dX9_foretold_118 : decode cX9_foretold 118 = .ok (.iastore, 1) := by decide +kernel
theorem dX9_foretold_119 : decode cX9_foretold 119 = .ok (.iinc 3 1, 3) := by decide +kernel
theorem dX9_foretold_122 : decode cX9_foretold 122 = .ok (.goto (-21), 3) := by decide +kernel
theorem dX9_foretold_125 : decode cX9_foretold 125 = .ok (.aload_n 0, 1) := by decide +kernel
theorem dX9_foretold_126 : decode cX9_foretold 126 = .ok (.iconst 1, 1) := by decide +kernel
theorem dX9_foretold_127 : decode cX9_foretold 127 = .ok (.putfield 43, 3) := by decide +kernel
theorem dX9_foretold_130 : decode cX9_foretold 130 = .ok (.iload_n 2, 1) := by decide +kernel
theorem dX9_foretold_131 : decode cX9_foretold 131 = .ok (.ifCond .ne 10, 3) := by decide +kernel
theorem dX9_foretold_134 : decode cX9_foretold 134 = .ok (.aload_n 0, 1) := by decide +kernel
theorem dX9_foretold_135 : decode cX9_foretold 135 = .ok (.getfield 355, 3) := by decide +kernel
theorem dX9_foretold_138 : decode cX9_foretold 138 = .ok (.goto 19, 3) := by decide +kernel
theorem dX9_foretold_141 : decode cX9_foretold 141 = .ok (.iload_n 2, 1) := by decide +kernel
theorem dX9_foretold_142 : decode cX9_foretold 142 = .ok (.iconst 1, 1) := by decide +kernel
theorem dX9_foretold_143 : decode cX9_foretold 143 = .ok (.if_icmp .ne 10, 3) := by decide +kernel
theorem dX9_foretold_146 : decode cX9_foretold 146 = .ok (.aload_n 0, 1) := by decide +kernel
theorem dX9_foretold_147 : decode cX9_foretold 147 = .ok (.getfield 364, 3) := by decide +kernel
theorem dX9_foretold_150 : decode cX9_foretold 150 = .ok (.goto 7, 3) := by decide +kernel
theorem dX9_foretold_153 : decode cX9_foretold 153 = .ok (.aload_n 0, 1) := by decide +kernel
theorem dX9_foretold_154 : decode cX9_foretold 154 = .ok (.getfield 349, 3) := by decide +kernel
theorem dX9_foretold_157 : decode cX9_foretold 157 = .ok (.ireturn, 1) := by decide +kernel
theorem dX9_cue_0 : decode cX9_cue 0 = .ok (.iload_n 1, 1) := by decide +kernel
theorem dX9_cue_1 : decode cX9_cue 1 = .ok (.iconst (-1), 1) := by decide +kernel
theorem dX9_cue_2 : decode cX9_cue 2 = .ok (.if_icmp .ne 12, 3) := by decide +kernel
theorem dX9_cue_5 : decode cX9_cue 5 = .ok (.aload_n 0, 1) := by decide +kernel
theorem dX9_cue_6 : decode cX9_cue 6 = .ok (.getfield 7, 3) := by decide +kernel
theorem dX9_cue_9 : decode cX9_cue 9 = .ok (.iconst 4, 1) := by decide +kernel
theorem dX9_cue_10 : decode cX9_cue 10 = .ok (.iconst 0, 1) := by decide +kernel
theorem dX9_cue_11 : decode cX9_cue 11 = .ok (.iastore, 1) := by decide +kernel
theorem dX9_cue_12 : decode cX9_cue 12 = .ok (.iconst 0, 1) := by decide +kernel
theorem dX9_cue_13 : decode cX9_cue 13 = .ok (.ireturn, 1) := by decide +kernel
theorem dX9_cue_14 : decode cX9_cue 14 = .ok (.iload_n 1, 1) := by decide +kernel
theorem dX9_cue_15 : decode cX9_cue 15 = .ok (.iconst 0, 1) := by decide +kernel
theorem dX9_cue_16 : decode cX9_cue 16 = .ok (.iconst 3, 1) := by decide +kernel
theorem dX9_cue_17 : decode cX9_cue 17 = .ok (.invokestatic 78, 3) := by decide +kernel
theorem dX9_cue_20 : decode cX9_cue 20 = .ok (.ifCond .eq 14, 3) := by decide +kernel
theorem dX9_cue_23 : decode cX9_cue 23 = .ok (.aload_n 0, 1) := by decide +kernel
theorem dX9_cue_24 : decode cX9_cue 24 = .ok (.getfield 7, 3) := by decide +kernel
theorem dX9_cue_27 : decode cX9_cue 27 = .ok (.iconst 4, 1) := by decide +kernel
theorem dX9_cue_28 : decode cX9_cue 28 = .ok (.iaload, 1) := by decide +kernel
theorem dX9_cue_29 : decode cX9_cue 29 = .ok (.bipush 12, 2) := by decide +kernel
theorem dX9_cue_31 : decode cX9_cue 31 = .ok (.if_icmp .ne 6, 3) := by decide +kernel
theorem dX9_cue_34 : decode cX9_cue 34 = .ok (.bipush (-2), 2) := by decide +kernel
theorem dX9_cue_36 : decode cX9_cue 36 = .ok (.ireturn, 1) := by decide +kernel
theorem dX9_cue_37 : decode cX9_cue 37 = .ok (.aload_n 0, 1) := by decide +kernel
theorem dX9_cue_38 : decode cX9_cue 38 = .ok (.getfield 7, 3) := by decide +kernel
theorem dX9_cue_41 : decode cX9_cue 41 = .ok (.bipush 126, 2) := by decide +kernel
theorem dX9_cue_43 : decode cX9_cue 43 = .ok (.aload_n 0, 1) := by decide +kernel
theorem dX9_cue_44 : decode cX9_cue 44 = .ok (.getfield 7, 3) := by decide +kernel
theorem dX9_cue_47 : decode cX9_cue 47 = .ok (.iconst 4, 1) := by decide +kernel
theorem dX9_cue_48 : decode cX9_cue 48 = .ok (.iaload, 1) := by decide +kernel
theorem dX9_cue_49 : decode cX9_cue 49 = .ok (.iadd, 1) := by decide +kernel
theorem dX9_cue_50 : decode cX9_cue 50 = .ok (.iload_n 1, 1) := by decide +kernel
theorem dX9_cue_51 : decode cX9_cue 51 = .ok (.iastore, 1) := by decide +kernel
theorem dX9_cue_52 : decode cX9_cue 52 = .ok (.aload_n 0, 1) := by decide +kernel
theorem dX9_cue_53 : decode cX9_cue 53 = .ok (.getfield 7, 3) := by decide +kernel
theorem dX9_cue_56 : decode cX9_cue 56 = .ok (.iconst 4, 1) := by decide +kernel
theorem dX9_cue_57 : decode cX9_cue 57 = .ok (.dup2, 1) := by decide +kernel
theorem dX9_cue_58 : decode cX9_cue 58 = .ok (.iaload, 1) := by decide +kernel
theorem dX9_cue_59 : decode cX9_cue 59 = .ok (.iconst 1, 1) := by decide +kernel
theorem dX9_cue_60 : decode cX9_cue 60 = .ok (.iadd, 1) := by decide +kernel
theorem dX9_cue_61 : decode cX9_cue 61 = .ok (.iastore, 1) := by decide +kernel
theorem dX9_cue_62 : decode cX9_cue 62 = .ok (.aload_n 0, 1) := by decide +kernel
theorem dX9_cue_63 : decode cX9_cue 63 = .ok (.getfield 7, 3) := by decide +kernel
theorem dX9_cue_66 : decode cX9_cue 66 = .ok (.iconst 4, 1) := by decide +kernel
theorem dX9_cue_67 : decode cX9_cue 67 = .ok (.iaload, 1) := by decide +kernel
theorem dX9_cue_68 : decode cX9_cue 68 = .ok (.ireturn, 1) := by decide +kernel
theorem dX9_run_0 : decode cX9_run 0 = .ok (.iload_n 1, 1) := by decide +kernel
theorem dX9_run_1 : decode cX9_run 1 = .ok (.invokestatic 93, 3) := by decide +kernel
theorem dX9_run_4 : decode cX9_run 4 = .ok (.ifCond .eq 17, 3) := by decide +kernel
theorem dX9_run_7 : decode cX9_run 7 = .ok (.iload_n 2, 1) := by decide +kernel
theorem dX9_run_8 : decode cX9_run 8 = .ok (.iconst 0, 1) := by decide +kernel
theorem dX9_run_9 : decode cX9_run 9 = .ok (.aload_n 0, 1) := by decide +kernel
theorem dX9_run_10 : decode cX9_run 10 = .ok (.getfield 7, 3) := by decide +kernel
theorem dX9_run_13 : decode cX9_run 13 = .ok (.iconst 4, 1) := by decide +kernel
theorem dX9_run_14 : decode cX9_run 14 = .ok (.iaload, 1) := by decide +kernel
theorem dX9_run_15 : decode cX9_run 15 = .ok (.invokestatic 78, 3) := by decide +kernel
theorem dX9_run_18 : decode cX9_run 18 = .ok (.ifCond .ne 5, 3) := by decide +kernel
theorem dX9_run_21 : decode cX9_run 21 = .ok (.iconst (-1), 1) := by decide +kernel
theorem dX9_run_22 : decode cX9_run 22 = .ok (.ireturn, 1) := by decide +kernel
theorem dX9_run_23 : decode cX9_run 23 = .ok (.iload_n 1, 1) := by decide +kernel
theorem dX9_run_24 : decode cX9_run 24 = .ok (.istore_n 3, 1) := by decide +kernel
theorem dX9_run_25 : decode cX9_run 25 = .ok (.iconst 0, 1) := by decide +kernel
theorem dX9_run_26 : decode cX9_run 26 = .ok (.istore 4, 2) := by decide +kernel
theorem dX9_run_28 : decode cX9_run 28 = .ok (.iload 4, 2) := by decide +kernel
theorem dX9_run_30 : decode cX9_run 30 = .ok (.iload_n 2, 1) := by decide +kernel
theorem dX9_run_31 : decode cX9_run 31 = .ok (.if_icmp .ge 25, 3) := by decide +kernel
theorem dX9_run_34 : decode cX9_run 34 = .ok (.aload_n 0, 1) := by decide +kernel
theorem dX9_run_35 : decode cX9_run 35 = .ok (.iload_n 3, 1) := by decide +kernel
theorem dX9_run_36 : decode cX9_run 36 = .ok (.aload_n 0, 1) := by decide +kernel
theorem dX9_run_37 : decode cX9_run 37 = .ok (.getfield 7, 3) := by decide +kernel
theorem dX9_run_40 : decode cX9_run 40 = .ok (.bipush 126, 2) := by decide +kernel
theorem dX9_run_42 : decode cX9_run 42 = .ok (.iload 4, 2) := by decide +kernel
theorem dX9_run_44 : decode cX9_run 44 = .ok (.iadd, 1) := by decide +kernel
theorem dX9_run_45 : decode cX9_run 45 = .ok (.iaload, 1) := by decide +kernel
theorem dX9_run_46 : decode cX9_run 46 = .ok (.invokevirtual 343, 3) := by decide +kernel
theorem dX9_run_49 : decode cX9_run 49 = .ok (.istore_n 3, 1) := by decide +kernel
theorem dX9_run_50 : decode cX9_run 50 = .ok (.iinc 4 1, 3) := by decide +kernel
theorem dX9_run_53 : decode cX9_run 53 = .ok (.goto (-25), 3) := by decide +kernel
theorem dX9_run_56 : decode cX9_run 56 = .ok (.iload_n 3, 1) := by decide +kernel
theorem dX9_run_57 : decode cX9_run 57 = .ok (.ireturn, 1) := by decide +kernel
theorem dX9_layTakes_0 : decode cX9_layTakes 0 = .ok (.iconst 0, 1) := by decide +kernel
theorem dX9_layTakes_1 : decode cX9_layTakes 1 = .ok (.istore_n 2, 1) := by decide +kernel
theorem dX9_layTakes_2 : decode cX9_layTakes 2 = .ok (.iload_n 2, 1) := by decide +kernel
theorem dX9_layTakes_3 : decode cX9_layTakes 3 = .ok (.bipush 13, 2) := by decide +kernel
theorem dX9_layTakes_5 : decode cX9_layTakes 5 = .ok (.if_icmp .ge 27, 3) := by decide +kernel
theorem dX9_layTakes_8 : decode cX9_layTakes 8 = .ok (.aload_n 0, 1) := by decide +kernel
theorem dX9_layTakes_9 : decode cX9_layTakes 9 = .ok (.getfield 50, 3) := by decide +kernel
theorem dX9_layTakes_12 : decode cX9_layTakes 12 = .ok (.iload_n 2, 1) := by decide +kernel
theorem dX9_layTakes_13 : decode cX9_layTakes 13 = .ok (.iload_n 2, 1) := by decide +kernel
theorem dX9_layTakes_14 : decode cX9_layTakes 14 = .ok (.iload_n 1, 1) := by decide +kernel
theorem dX9_layTakes_15 : decode cX9_layTakes 15 = .ok (.if_icmp .ne 7, 3) := by decide +kernel
theorem dX9_layTakes_18 : decode cX9_layTakes 18 = .ok (.iconst 0, 1) := by decide +kernel
theorem dX9_layTakes_19 : decode cX9_layTakes 19 = .ok (.goto 6, 3) := by decide +kernel
theorem dX9_layTakes_22 : decode cX9_layTakes 22 = .ok (.ldc_w 418, 3) := by decide +kernel
theorem dX9_layTakes_25 : decode cX9_layTakes 25 = .ok (.iastore, 1) := by decide +kernel
theorem dX9_layTakes_26 : decode cX9_layTakes 26 = .ok (.iinc 2 1, 3) := by decide +kernel
theorem dX9_layTakes_29 : decode cX9_layTakes 29 = .ok (.goto (-27), 3) := by decide +kernel
theorem dX9_layTakes_32 : decode cX9_layTakes 32 = .ok (.iconst 1, 1) := by decide +kernel
theorem dX9_layTakes_33 : decode cX9_layTakes 33 = .ok (.istore_n 2, 1) := by decide +kernel
theorem dX9_layTakes_34 : decode cX9_layTakes 34 = .ok (.iload_n 2, 1) := by decide +kernel
theorem dX9_layTakes_35 : decode cX9_layTakes 35 = .ok (.bipush 13, 2) := by decide +kernel
theorem dX9_layTakes_37 : decode cX9_layTakes 37 = .ok (.if_icmp .ge 75, 3) := by decide +kernel
theorem dX9_layTakes_40 : decode cX9_layTakes 40 = .ok (.iconst 0, 1) := by decide +kernel
theorem dX9_layTakes_41 : decode cX9_layTakes 41 = .ok (.istore_n 3, 1) := by decide +kernel
theorem dX9_layTakes_42 : decode cX9_layTakes 42 = .ok (.iload_n 3, 1) := by decide +kernel
theorem dX9_layTakes_43 : decode cX9_layTakes 43 = .ok (.bipush 13, 2) := by decide +kernel
theorem dX9_layTakes_45 : decode cX9_layTakes 45 = .ok (.if_icmp .ge 61, 3) := by decide +kernel
theorem dX9_layTakes_48 : decode cX9_layTakes 48 = .ok (.iconst 0, 1) := by decide +kernel
theorem dX9_layTakes_49 : decode cX9_layTakes 49 = .ok (.istore 4, 2) := by decide +kernel
theorem dX9_layTakes_51 : decode cX9_layTakes 51 = .ok (.iload 4, 2) := by decide +kernel
theorem dX9_layTakes_53 : decode cX9_layTakes 53 = .ok (.iconst 4, 1) := by decide +kernel
theorem dX9_layTakes_54 : decode cX9_layTakes 54 = .ok (.if_icmp .ge 46, 3) := by decide +kernel
theorem dX9_layTakes_57 : decode cX9_layTakes 57 = .ok (.aload_n 0, 1) := by decide +kernel
theorem dX9_layTakes_58 : decode cX9_layTakes 58 = .ok (.getfield 50, 3) := by decide +kernel
theorem dX9_layTakes_61 : decode cX9_layTakes 61 = .ok (.iload_n 3, 1) := by decide +kernel
theorem dX9_layTakes_62 : decode cX9_layTakes 62 = .ok (.iaload, 1) := by decide +kernel
theorem dX9_layTakes_63 : decode cX9_layTakes 63 = .ok (.ldc_w 418, 3) := by decide +kernel
theorem dX9_layTakes_66 : decode cX9_layTakes 66 = .ok (.if_icmp .ne 28, 3) := by decide +kernel
theorem dX9_layTakes_69 : decode cX9_layTakes 69 = .ok (.aload_n 0, 1) := by decide +kernel
theorem dX9_layTakes_70 : decode cX9_layTakes 70 = .ok (.getfield 50, 3) := by decide +kernel
theorem dX9_layTakes_73 : decode cX9_layTakes 73 = .ok (.aload_n 0, 1) := by decide +kernel
theorem dX9_layTakes_74 : decode cX9_layTakes 74 = .ok (.iload_n 3, 1) := by decide +kernel
theorem dX9_layTakes_75 : decode cX9_layTakes 75 = .ok (.iload 4, 2) := by decide +kernel
theorem dX9_layTakes_77 : decode cX9_layTakes 77 = .ok (.invokevirtual 343, 3) := by decide +kernel
theorem dX9_layTakes_80 : decode cX9_layTakes 80 = .ok (.iaload, 1) := by decide +kernel
theorem dX9_layTakes_81 : decode cX9_layTakes 81 = .ok (.iload_n 2, 1) := by decide +kernel
theorem dX9_layTakes_82 : decode cX9_layTakes 82 = .ok (.iconst 1, 1) := by decide +kernel
theorem dX9_layTakes_83 : decode cX9_layTakes 83 = .ok (.isub, 1) := by decide +kernel
theorem dX9_layTakes_84 : decode cX9_layTakes 84 = .ok (.if_icmp .ne 10, 3) := by decide +kernel
theorem dX9_layTakes_87 : decode cX9_layTakes 87 = .ok (.aload_n 0, 1) := by decide +kernel
theorem dX9_layTakes_88 : decode cX9_layTakes 88 = .ok (.getfield 50, 3) := by decide +kernel
theorem dX9_layTakes_91 : decode cX9_layTakes 91 = .ok (.iload_n 3, 1) := by decide +kernel
theorem dX9_layTakes_92 : decode cX9_layTakes 92 = .ok (.iload_n 2, 1) := by decide +kernel
theorem dX9_layTakes_93 : decode cX9_layTakes 93 = .ok (.iastore, 1) := by decide +kernel
theorem dX9_layTakes_94 : decode cX9_layTakes 94 = .ok (.iinc 4 1, 3) := by decide +kernel
theorem dX9_layTakes_97 : decode cX9_layTakes 97 = .ok (.goto (-46), 3) := by decide +kernel
theorem dX9_layTakes_100 : decode cX9_layTakes 100 = .ok (.iinc 3 1, 3) := by decide +kernel
theorem dX9_layTakes_103 : decode cX9_layTakes 103 = .ok (.goto (-61), 3) := by decide +kernel
theorem dX9_layTakes_106 : decode cX9_layTakes 106 = .ok (.iinc 2 1, 3) := by decide +kernel
theorem dX9_layTakes_109 : decode cX9_layTakes 109 = .ok (.goto (-75), 3) := by decide +kernel
theorem dX9_layTakes_112 : decode cX9_layTakes 112 = .ok (.return_, 1) := by decide +kernel
theorem dX9_shortest_0 : decode cX9_shortest 0 = .ok (.iload_n 1, 1) := by decide +kernel
theorem dX9_shortest_1 : decode cX9_shortest 1 = .ok (.invokestatic 93, 3) := by decide +kernel
theorem dX9_shortest_4 : decode cX9_shortest 4 = .ok (.ifCond .eq 10, 3) := by decide +kernel
theorem dX9_shortest_7 : decode cX9_shortest 7 = .ok (.iload_n 2, 1) := by decide +kernel
theorem dX9_shortest_8 : decode cX9_shortest 8 = .ok (.invokestatic 93, 3) := by decide +kernel
theorem dX9_shortest_11 : decode cX9_shortest 11 = .ok (.ifCond .ne 6, 3) := by decide +kernel
theorem dX9_shortest_14 : decode cX9_shortest 14 = .ok (.bipush (-2), 2) := by decide +kernel
theorem dX9_shortest_16 : decode cX9_shortest 16 = .ok (.ireturn, 1) := by decide +kernel
theorem dX9_shortest_17 : decode cX9_shortest 17 = .ok (.aload_n 0, 1) := by decide +kernel
theorem dX9_shortest_18 : decode cX9_shortest 18 = .ok (.iload_n 2, 1) := by decide +kernel
theorem dX9_shortest_19 : decode cX9_shortest 19 = .ok (.invokevirtual 419, 3) := by decide +kernel
theorem dX9_shortest_22 : decode cX9_shortest 22 = .ok (.aload_n 0, 1) := by decide +kernel
theorem dX9_shortest_23 : decode cX9_shortest 23 = .ok (.getfield 50, 3) := by decide +kernel
theorem dX9_shortest_26 : decode cX9_shortest 26 = .ok (.iload_n 1, 1) := by decide +kernel
theorem dX9_shortest_27 : decode cX9_shortest 27 = .ok (.iaload, 1) := by decide +kernel
theorem dX9_shortest_28 : decode cX9_shortest 28 = .ok (.ldc_w 418, 3) := by decide +kernel
theorem dX9_shortest_31 : decode cX9_shortest 31 = .ok (.if_icmp .eq 19, 3) := by decide +kernel
theorem dX9_shortest_34 : decode cX9_shortest 34 = .ok (.iload_n 3, 1) := by decide +kernel
theorem dX9_shortest_35 : decode cX9_shortest 35 = .ok (.iconst (-1), 1) := by decide +kernel
theorem dX9_shortest_36 : decode cX9_shortest 36 = .ok (.aload_n 0, 1) := by decide +kernel
theorem dX9_shortest_37 : decode cX9_shortest 37 = .ok (.getfield 50, 3) := by decide +kernel
theorem dX9_shortest_40 : decode cX9_shortest 40 = .ok (.iload_n 1, 1) := by decide +kernel
theorem dX9_shortest_41 : decode cX9_shortest 41 = .ok (.iaload, 1) := by decide +kernel
theorem dX9_shortest_42 : decode cX9_shortest 42 = .ok (.iconst 1, 1) := by decide +kernel
theorem dX9_shortest_43 : decode cX9_shortest 43 = .ok (.isub, 1) := by decide +kernel
theorem dX9_shortest_44 : decode cX9_shortest 44 = .ok (.invokestatic 78, 3) := by decide +kernel
theorem dX9_shortest_47 : decode cX9_shortest 47 = .ok (.ifCond .ne 6, 3) := by decide +kernel
theorem dX9_shortest_50 : decode cX9_shortest 50 = .ok (.bipush (-2), 2) := by decide +kernel
theorem dX9_shortest_52 : decode cX9_shortest 52 = .ok (.ireturn, 1) := by decide +kernel
theorem dX9_shortest_53 : decode cX9_shortest 53 = .ok (.iload_n 3, 1) := by decide +kernel
theorem dX9_shortest_54 : decode cX9_shortest 54 = .ok (.iconst (-1), 1) := by decide +kernel
theorem dX9_shortest_55 : decode cX9_shortest 55 = .ok (.if_icmp .ne 10, 3) := by decide +kernel
theorem dX9_shortest_58 : decode cX9_shortest 58 = .ok (.aload_n 0, 1) := by decide +kernel
theorem dX9_shortest_59 : decode cX9_shortest 59 = .ok (.getfield 50, 3) := by decide +kernel
theorem dX9_shortest_62 : decode cX9_shortest 62 = .ok (.iload_n 1, 1) := by decide +kernel
theorem dX9_shortest_63 : decode cX9_shortest 63 = .ok (.iaload, 1) := by decide +kernel
theorem dX9_shortest_64 : decode cX9_shortest 64 = .ok (.ireturn, 1) := by decide +kernel
theorem dX9_shortest_65 : decode cX9_shortest 65 = .ok (.iload_n 1, 1) := by decide +kernel
theorem dX9_shortest_66 : decode cX9_shortest 66 = .ok (.istore 4, 2) := by decide +kernel
theorem dX9_shortest_68 : decode cX9_shortest 68 = .ok (.iconst 0, 1) := by decide +kernel
theorem dX9_shortest_69 : decode cX9_shortest 69 = .ok (.istore 5, 2) := by decide +kernel
theorem dX9_shortest_71 : decode cX9_shortest 71 = .ok (.iconst 0, 1) := by decide +kernel
theorem dX9_shortest_72 : decode cX9_shortest 72 = .ok (.istore 6, 2) := by decide +kernel
theorem dX9_shortest_74 : decode cX9_shortest 74 = .ok (.iload 6, 2) := by decide +kernel
theorem dX9_shortest_76 : decode cX9_shortest 76 = .ok (.iload_n 3, 1) := by decide +kernel
theorem dX9_shortest_77 : decode cX9_shortest 77 = .ok (.if_icmp .gt 53, 3) := by decide +kernel
theorem dX9_shortest_80 : decode cX9_shortest 80 = .ok (.iconst 0, 1) := by decide +kernel
theorem dX9_shortest_81 : decode cX9_shortest 81 = .ok (.istore 5, 2) := by decide +kernel
theorem dX9_shortest_83 : decode cX9_shortest 83 = .ok (.aload_n 0, 1) := by decide +kernel
theorem dX9_shortest_84 : decode cX9_shortest 84 = .ok (.getfield 50, 3) := by decide +kernel
theorem dX9_shortest_87 : decode cX9_shortest 87 = .ok (.aload_n 0, 1) := by decide +kernel
theorem dX9_shortest_88 : decode cX9_shortest 88 = .ok (.iload 4, 2) := by decide +kernel
theorem dX9_shortest_90 : decode cX9_shortest 90 = .ok (.iload 5, 2) := by decide +kernel
theorem dX9_shortest_92 : decode cX9_shortest 92 = .ok (.invokevirtual 343, 3) := by decide +kernel
theorem dX9_shortest_95 : decode cX9_shortest 95 = .ok (.iaload, 1) := by decide +kernel
theorem dX9_shortest_96 : decode cX9_shortest 96 = .ok (.aload_n 0, 1) := by decide +kernel
theorem dX9_shortest_97 : decode cX9_shortest 97 = .ok (.getfield 50, 3) := by decide +kernel
theorem dX9_shortest_100 : decode cX9_shortest 100 = .ok (.iload 4, 2) := by decide +kernel
theorem dX9_shortest_102 : decode cX9_shortest 102 = .ok (.iaload, 1) := by decide +kernel
theorem dX9_shortest_103 : decode cX9_shortest 103 = .ok (.iconst 1, 1) := by decide +kernel
theorem dX9_shortest_104 : decode cX9_shortest 104 = .ok (.isub, 1) := by decide +kernel
theorem dX9_shortest_105 : decode cX9_shortest 105 = .ok (.if_icmp .eq 9, 3) := by decide +kernel
theorem dX9_shortest_108 : decode cX9_shortest 108 = .ok (.iinc 5 1, 3) := by decide +kernel
theorem dX9_shortest_111 : decode cX9_shortest 111 = .ok (.goto (-28), 3) := by decide +kernel
theorem dX9_shortest_114 : decode cX9_shortest 114 = .ok (.aload_n 0, 1) := by decide +kernel
theorem dX9_shortest_115 : decode cX9_shortest 115 = .ok (.iload 4, 2) := by decide +kernel
theorem dX9_shortest_117 : decode cX9_shortest 117 = .ok (.iload 5, 2) := by decide +kernel
theorem dX9_shortest_119 : decode cX9_shortest 119 = .ok (.invokevirtual 343, 3) := by decide +kernel
theorem dX9_shortest_122 : decode cX9_shortest 122 = .ok (.istore 4, 2) := by decide +kernel
theorem dX9_shortest_124 : decode cX9_shortest 124 = .ok (.iinc 6 1, 3) := by decide +kernel
theorem dX9_shortest_127 : decode cX9_shortest 127 = .ok (.goto (-53), 3) := by decide +kernel
theorem dX9_shortest_130 : decode cX9_shortest 130 = .ok (.iload 5, 2) := by decide +kernel
theorem dX9_shortest_132 : decode cX9_shortest 132 = .ok (.ireturn, 1) := by decide +kernel
section
variable {p : Program} {l : Launch} {e : Env} {R : Room} {s : State} {m : MethodId} {args : Array Value} {below : List Frame} {meth : Method} {c : Code} {Q : State → Prop} {V : g_V} {nf nl : Nat}
set_option maxRecDepth 100000 in
set_option maxHeartbeats 4000000 in
theorem b_X9_happens (C : g_CX mG V p R s m args meth c cX9_happens 3 none RX9 7 168) {res : g_M} (hR : g_RetV mG V p l e R s m args below meth c Q cX9_happens res) {a1 : Int} {M : g_M} {H : Heap} {locs : List Loc} {ls : Array Slot} (h : m_X9_happens a1 M = some res) (hp : g_PT mG V M s H locs) (hl : lv_has ls 3 [(0, .ref (V.2.2 0)), (1, .int (gI a1))]) : W p l e R s m args below meth c H locs 0 0 Q (F0 m 0 ls []) := by
  unfold m_X9_happens at h
  refine lv_iload_n C.1 C.2.1 dX9_happens_0 rfl (lv_at hl 1 rfl) ?_
  refine r_bipush C dX9_happens_1 (by decide +kernel) ?_
  refine r_irem C h dX9_happens_3 (fun h => ?_)
  refine r_istore_n (lv' := fun x11 => [(2, .int (gI x11)), (0, .ref (V.2.2 0)), (1, .int (gI a1))]) C h dX9_happens_4 rfl hl (by decide) (fun _ => rfl) (fun x11 ls h hl => ?_)
  refine lv_iload_n C.1 C.2.1 dX9_happens_5 rfl (lv_at hl 2 rfl) ?_
  refine r_iconst C dX9_happens_6 ?_
  refine r_irem C h dX9_happens_7 (fun h => ?_)
  refine r_ite h (fun hv h => ?_) (fun hv0 h => ?_)
  · refine r_tswIn (tgt := 36) (v := 0) C hv dX9_happens_8 (by decide) rfl (by decide) ?_
    refine lv_aload_n C.1 C.2.1 dX9_happens_36 rfl (lv_at hl 1 rfl) ?_
    refine r_getr (t := 1) C hp mk_0 ms_0 mc_0 min_0 (j := 0) (by decide) rfl gw_1256 rfl dX9_happens_37 ?_
    refine r_iconst C dX9_happens_40 ?_
    refine r_iald C hp h mk_1 ms_1 dX9_happens_41 (fun h => ?_)
    refine r_if_le (tgt := 129) C h dX9_happens_42 (by decide) (fun h => ?_) (fun h => ?_)
    · cases h
      exact hR _ _ _ _ dX9_happens_129 hp
    · refine lv_aload_n C.1 C.2.1 dX9_happens_45 rfl (lv_at hl 1 rfl) ?_
      refine lv_iload_n C.1 C.2.1 dX9_happens_46 rfl (lv_at hl 2 rfl) ?_
      refine lv_aload_n C.1 C.2.1 dX9_happens_47 rfl (lv_at hl 1 rfl) ?_
      refine r_getr (t := 1) C hp mk_0 ms_0 mc_0 min_0 (j := 0) (by decide) rfl gw_1256 rfl dX9_happens_48 ?_
      refine r_iconst C dX9_happens_51 ?_
      refine r_iald C hp h mk_1 ms_1 dX9_happens_52 (fun h => ?_)
      refine r_irem C h dX9_happens_53 (fun h => ?_)
      refine r_iconst C dX9_happens_54 ?_
      refine lv_iload_n C.1 C.2.1 dX9_happens_55 rfl (lv_at hl 2 rfl) ?_
      refine r_iconst C dX9_happens_56 ?_
      refine r_idiv C h dX9_happens_57 (fun h => ?_)
      refine r_bipush C dX9_happens_58 (by decide +kernel) ?_
      refine r_irem C h dX9_happens_60 (fun h => ?_)
      obtain ⟨M12, hr, h⟩ := bd_of h
      refine r_callVV (As := [.int (gI (g_rem a1 (M 1 (gs 0).toNat))), .int (gI 0), .int (gI (g_rem (g_div a1 5) 10))]) (rest := []) C hl.1 hp (c_X9_put l C.2.2.2.2.2.2.2.2.2.2.2 hr) gw_1399 gw_1401 gw_46 mk_0 ms_0 mc_0 cal_X9_put rfl rfl (Nat.le_of_ble_eq_true rfl) ⟨Nat.le_of_ble_eq_true rfl, Nat.le_of_ble_eq_true rfl⟩ dX9_happens_61 (fun H locs hp => ?_)
      refine r_goto (tgt := 129) C dX9_happens_64 (by decide) ?_
      cases h
      exact hR _ _ _ _ dX9_happens_129 hp
  refine r_ite h (fun hv h => ?_) (fun hv1 h => ?_)
  · refine r_tswIn (tgt := 67) (v := 1) C hv dX9_happens_8 (by decide) rfl (by decide) ?_
    refine lv_aload_n C.1 C.2.1 dX9_happens_67 rfl (lv_at hl 1 rfl) ?_
    refine r_getr (t := 1) C hp mk_0 ms_0 mc_0 min_0 (j := 0) (by decide) rfl gw_1256 rfl dX9_happens_68 ?_
    refine r_bipush C dX9_happens_71 (by decide +kernel) ?_
    refine lv_iload_n C.1 C.2.1 dX9_happens_73 rfl (lv_at hl 0 rfl) ?_
    refine r_iadd C dX9_happens_74 ?_
    refine lv_aload_n C.1 C.2.1 dX9_happens_75 rfl (lv_at hl 1 rfl) ?_
    refine lv_iload_n C.1 C.2.1 dX9_happens_76 rfl (lv_at hl 0 rfl) ?_
    refine r_iconst C dX9_happens_77 ?_
    refine lv_iload_n C.1 C.2.1 dX9_happens_78 rfl (lv_at hl 2 rfl) ?_
    refine r_iconst C dX9_happens_79 ?_
    refine r_irem C h dX9_happens_80 (fun h => ?_)
    refine r_iadd C dX9_happens_81 ?_
    obtain ⟨x13, hr, h⟩ := bd_of h
    refine r_callVI (As := [.int (gI x11), .int (gI (1 + (g_rem a1 3)))]) (rest := [.int (gI (22 + x11)), .ref (V.2.2 1)]) C hl.1 hp (c_X9_nextOf l C.2.2.2.2.2.2.2.2.2.2.2 hr) gw_1603 gw_1605 gw_81 mk_0 ms_0 mc_0 cal_X9_nextOf rfl rfl (Nat.le_of_ble_eq_true rfl) ⟨Nat.le_of_ble_eq_true rfl, Nat.le_of_ble_eq_true rfl⟩ dX9_happens_82 (fun H locs hp => ?_)
    refine r_iast C hp h mk_1 ms_1 dX9_happens_85 (fun M14 H locs h hp => ?_)
    refine r_goto (tgt := 129) C dX9_happens_86 (by decide) ?_
    cases h
    exact hR _ _ _ _ dX9_happens_129 hp
  refine r_ite h (fun hv h => ?_) (fun hv2 h => ?_)
  · refine r_tswIn (tgt := 89) (v := 2) C hv dX9_happens_8 (by decide) rfl (by decide) ?_
    refine lv_aload_n C.1 C.2.1 dX9_happens_89 rfl (lv_at hl 1 rfl) ?_
    refine r_getr (t := 1) C hp mk_0 ms_0 mc_0 min_0 (j := 0) (by decide) rfl gw_1256 rfl dX9_happens_90 ?_
    refine r_bipush C dX9_happens_93 (by decide +kernel) ?_
    refine lv_iload_n C.1 C.2.1 dX9_happens_95 rfl (lv_at hl 0 rfl) ?_
    refine r_iadd C dX9_happens_96 ?_
    refine lv_aload_n C.1 C.2.1 dX9_happens_97 rfl (lv_at hl 1 rfl) ?_
    refine r_getr (t := 1) C hp mk_0 ms_0 mc_0 min_0 (j := 0) (by decide) rfl gw_1256 rfl dX9_happens_98 ?_
    refine r_bipush C dX9_happens_101 (by decide +kernel) ?_
    refine r_iconst C dX9_happens_103 ?_
    refine lv_iload_n C.1 C.2.1 dX9_happens_104 rfl (lv_at hl 0 rfl) ?_
    refine r_imul C dX9_happens_105 ?_
    refine r_iadd C dX9_happens_106 ?_
    refine r_iald C hp h mk_1 ms_1 dX9_happens_107 (fun h => ?_)
    refine r_iast C hp h mk_1 ms_1 dX9_happens_108 (fun M15 H locs h hp => ?_)
    refine r_goto (tgt := 129) C dX9_happens_109 (by decide) ?_
    cases h
    exact hR _ _ _ _ dX9_happens_129 hp
  have hd : W p l e R s m args below meth c H locs 0 0 Q (F0 m 112 ls []) := by
    refine lv_aload_n C.1 C.2.1 dX9_happens_112 rfl (lv_at hl 1 rfl) ?_
    refine r_getr (t := 1) C hp mk_0 ms_0 mc_0 min_0 (j := 0) (by decide) rfl gw_1256 rfl dX9_happens_113 ?_
    refine r_bipush C dX9_happens_116 (by decide +kernel) ?_
    refine r_iald C hp h mk_1 ms_1 dX9_happens_118 (fun h => ?_)
    refine r_sipush C dX9_happens_119 (by decide +kernel) ?_
    refine r_icmp_ge (tgt := 129) C h dX9_happens_122 (by decide) (fun h => ?_) (fun h => ?_)
    · cases h
      exact hR _ _ _ _ dX9_happens_129 hp
    · refine lv_aload_n C.1 C.2.1 dX9_happens_125 rfl (lv_at hl 1 rfl) ?_
      obtain ⟨M16, hr, h⟩ := bd_of h
      refine r_callVV (As := []) (rest := []) C hl.1 hp (c_X9_pass l C.2.2.2.2.2.2.2.2.2.2.2 hr) gw_1623 gw_1625 gw_84 mk_0 ms_0 mc_0 cal_X9_pass rfl rfl (Nat.le_of_ble_eq_true rfl) ⟨Nat.le_of_ble_eq_true rfl, Nat.le_of_ble_eq_true rfl⟩ dX9_happens_126 (fun H locs hp => ?_)
      cases h
      exact hR _ _ _ _ dX9_happens_129 hp
  exact r_tswOut (tgt := 112) C dX9_happens_8 (by omega) (by decide) hd
theorem c_X9_happens (l : Launch) {V : g_V} (hok : g_ok mG V) {a1 : Int} {M : g_M} {res : g_M} (h : m_X9_happens a1 M = some res) : MetV mG V l yX9_happens cX9_happens 3 none 7 168 [.ref (V.2.2 0), .int (gI a1)] M res :=
  g_metV hok cal_X9_happens.2.2.2 rfl (Nat.le_of_ble_eq_true rfl) (@fun p e R s m args below meth c Q ls C hR hp hl => b_X9_happens C hR h hp hl)
set_option maxRecDepth 100000 in
set_option maxHeartbeats 4000000 in
theorem w_X9_years_L43 (C : g_CX mG V p R s m args meth c cX9_years 5 (some .int) RX9 8 190) {res : Int × g_M} (hR : g_RetI mG V p l e R s m args below meth c Q cX9_years .int res.1 res.2) (x16 : Int) (k19 : g_M → Option (Int × g_M)) (hk19 : ∀ (M24 : g_M) (H : Heap) (locs : List Loc) (ls : Array Slot), k19 M24 = some res → g_PT mG V M24 s H locs → lv_has ls 5 [(0, .ref (V.2.2 0))] → W p l e R s m args below meth c H locs 0 0 Q (F0 m 73 ls [])) : ∀ (f : Nat) (x17 : Int) (M18 : g_M) (H : Heap) (locs : List Loc) (ls : Array Slot), m_X9_years_L43 x16 k19 f x17 M18 = some res → g_PT mG V M18 s H locs → lv_has ls 5 [(0, .ref (V.2.2 0)), (2, .int (gI x16)), (3, .int (gI x17))] → W p l e R s m args below meth c H locs 0 0 Q (F0 m 43 ls []) := by
  intro f
  induction f with
  | zero => intro x17 M18 H locs ls h hp hl; cases h
  | succ f ih =>
    intro x17 M18 H locs ls h hp hl
    rw [m_X9_years_L43] at h
    refine lv_iload_n C.1 C.2.1 dX9_years_43 rfl (lv_at hl 2 rfl) ?_
    refine lv_iload_n C.1 C.2.1 dX9_years_44 rfl (lv_at hl 1 rfl) ?_
    refine r_icmp_ge (tgt := 73) C h dX9_years_45 (by decide) (fun h => ?_) (fun h => ?_)
    · exact hk19 _ _ _ _ h hp (lv_sub hl [0] rfl)
    · refine lv_aload_n C.1 C.2.1 dX9_years_48 rfl (lv_at hl 0 rfl) ?_
      refine r_getr (t := 1) C hp mk_0 ms_0 mc_0 min_0 (j := 0) (by decide) rfl gw_1256 rfl dX9_years_49 ?_
      refine r_bipush C dX9_years_52 (by decide +kernel) ?_
      refine r_iald C hp h mk_1 ms_1 dX9_years_54 (fun h => ?_)
      refine r_istore (lv' := fun x20 => [(4, .int (gI x20)), (0, .ref (V.2.2 0)), (2, .int (gI x16)), (3, .int (gI x17))]) C h dX9_years_55 hl (by decide) (fun _ => rfl) (fun x20 ls h hl => ?_)
      refine lv_aload_n C.1 C.2.1 dX9_years_57 rfl (lv_at hl 1 rfl) ?_
      obtain ⟨M21, hr, h⟩ := bd_of h
      refine r_callVV (As := []) (rest := []) C hl.1 hp (c_X9_anew l C.2.2.2.2.2.2.2.2.2.2.2 hr) gw_1680 gw_1682 gw_92 mk_0 ms_0 mc_0 cal_X9_anew rfl rfl (Nat.le_of_ble_eq_true rfl) ⟨Nat.le_of_ble_eq_true rfl, Nat.le_of_ble_eq_true rfl⟩ dX9_years_58 (fun H locs hp => ?_)
      refine lv_aload_n C.1 C.2.1 dX9_years_61 rfl (lv_at hl 1 rfl) ?_
      refine lv_iload C.1 C.2.1 dX9_years_62 (lv_at hl 0 rfl) ?_
      obtain ⟨M22, hr, h⟩ := bd_of h
      refine r_callVV (As := [.int (gI x20)]) (rest := []) C hl.1 hp (c_X9_happens l C.2.2.2.2.2.2.2.2.2.2.2 hr) gw_1721 gw_1723 gw_98 mk_0 ms_0 mc_0 cal_X9_happens rfl rfl (Nat.le_of_ble_eq_true rfl) ⟨Nat.le_of_ble_eq_true rfl, Nat.le_of_ble_eq_true rfl⟩ dX9_years_64 (fun H locs hp => ?_)
      refine r_iinc (lv' := fun x23 => [(3, .int (gI x23)), (4, .int (gI x20)), (0, .ref (V.2.2 0)), (2, .int (gI x16))]) C h dX9_years_67 hl (j := 3) rfl (by decide) (fun _ => rfl) (fun x23 ls h hl => ?_)
      refine r_goto (tgt := 43) C dX9_years_70 (by decide) ?_
      exact ih _ _ _ _ _ h hp (lv_sub hl [2, 3, 0] rfl)
set_option maxRecDepth 100000 in
set_option maxHeartbeats 4000000 in
theorem b_X9_years (C : g_CX mG V p R s m args meth c cX9_years 5 (some .int) RX9 8 190) {res : Int × g_M} (hR : g_RetI mG V p l e R s m args below meth c Q cX9_years .int res.1 res.2) {a1 : Int} {a2 : Int} {M : g_M} {H : Heap} {locs : List Loc} {ls : Array Slot} (h : m_X9_years a1 a2 M = some res) (hp : g_PT mG V M s H locs) (hl : lv_has ls 5 [(0, .ref (V.2.2 0)), (1, .int (gI a1)), (2, .int (gI a2))]) : W p l e R s m args below meth c H locs 0 0 Q (F0 m 0 ls []) := by
  unfold m_X9_years at h
  refine lv_iload_n C.1 C.2.1 dX9_years_0 rfl (lv_at hl 1 rfl) ?_
  refine r_iconst C dX9_years_1 ?_
  refine r_sipush C dX9_years_2 (by decide +kernel) ?_
  obtain ⟨x11, hr, h⟩ := bd_of h
  refine r_callSI (As := [.int (gI a1), .int (gI 0), .int (gI 9999)]) (rest := []) C hl.1 hp (c_X9_isIn l C.2.2.2.2.2.2.2.2.2.2.2 hr) gw_1378 gw_1379 cal_X9_isIn rfl rfl (Nat.le_of_ble_eq_true rfl) ⟨Nat.le_of_ble_eq_true rfl, Nat.le_of_ble_eq_true rfl⟩ dX9_years_5 (fun H locs hp => ?_)
  refine r_if_eq (tgt := 21) C h dX9_years_8 (by decide) (fun h => ?_) (fun h => ?_)
  · refine r_iconst C dX9_years_21 ?_
    cases h
    exact hR _ _ _ _ dX9_years_22 rfl hp
  · refine lv_iload_n C.1 C.2.1 dX9_years_11 rfl (lv_at hl 2 rfl) ?_
    refine r_iconst C dX9_years_12 ?_
    refine r_bipush C dX9_years_13 (by decide +kernel) ?_
    obtain ⟨x12, hr, h⟩ := bd_of h
    refine r_callSI (As := [.int (gI a2), .int (gI 1), .int (gI 40)]) (rest := []) C hl.1 hp (c_X9_isIn l C.2.2.2.2.2.2.2.2.2.2.2 hr) gw_1378 gw_1379 cal_X9_isIn rfl rfl (Nat.le_of_ble_eq_true rfl) ⟨Nat.le_of_ble_eq_true rfl, Nat.le_of_ble_eq_true rfl⟩ dX9_years_15 (fun H locs hp => ?_)
    refine r_if_ne (tgt := 23) C h dX9_years_18 (by decide) (fun h => ?_) (fun h => ?_)
    · refine lv_aload_n C.1 C.2.1 dX9_years_23 rfl (lv_at hl 0 rfl) ?_
      obtain ⟨M13, hr, h⟩ := bd_of h
      refine r_callVV (As := []) (rest := []) C hl.1 hp (c_X9_keep l C.2.2.2.2.2.2.2.2.2.2.2 hr) gw_1591 gw_1593 gw_79 mk_0 ms_0 mc_0 cal_X9_keep rfl rfl (Nat.le_of_ble_eq_true rfl) ⟨Nat.le_of_ble_eq_true rfl, Nat.le_of_ble_eq_true rfl⟩ dX9_years_24 (fun H locs hp => ?_)
      refine lv_aload_n C.1 C.2.1 dX9_years_27 rfl (lv_at hl 0 rfl) ?_
      refine r_getr (t := 1) C hp mk_0 ms_0 mc_0 min_0 (j := 0) (by decide) rfl gw_1256 rfl dX9_years_28 ?_
      refine r_bipush C dX9_years_31 (by decide +kernel) ?_
      refine lv_iload_n C.1 C.2.1 dX9_years_33 rfl (lv_at hl 1 rfl) ?_
      refine r_iconst C dX9_years_34 ?_
      refine r_imul C dX9_years_35 ?_
      refine r_sipush C dX9_years_36 (by decide +kernel) ?_
      refine r_iadd C dX9_years_39 ?_
      refine r_iast C hp h mk_1 ms_1 dX9_years_40 (fun M14 H locs h hp => ?_)
      refine r_iconst C dX9_years_41 ?_
      refine r_istore_n (lv' := fun x15 => [(3, .int (gI x15)), (0, .ref (V.2.2 0)), (1, .int (gI a1)), (2, .int (gI a2))]) C h dX9_years_42 rfl hl (by decide) (fun _ => rfl) (fun x15 ls h hl => ?_)
      refine w_X9_years_L43 C hR _ _ ?_ _ _ _ H locs ls h hp (lv_sub hl [1, 3, 0] rfl)
      · intro M25 H locs ls h hp hl
        refine lv_aload_n C.1 C.2.1 dX9_years_73 rfl (lv_at hl 0 rfl) ?_
        refine r_getr (t := 1) C hp mk_0 ms_0 mc_0 min_0 (j := 0) (by decide) rfl gw_1256 rfl dX9_years_74 ?_
        refine r_bipush C dX9_years_77 (by decide +kernel) ?_
        refine r_iald C hp h mk_1 ms_1 dX9_years_79 (fun h => ?_)
        cases h
        exact hR _ _ _ _ dX9_years_80 rfl hp
    · refine r_iconst C dX9_years_21 ?_
      cases h
      exact hR _ _ _ _ dX9_years_22 rfl hp
theorem c_X9_years (l : Launch) {V : g_V} (hok : g_ok mG V) {a1 : Int} {a2 : Int} {M : g_M} {x : Int} {M2 : g_M} (h : m_X9_years a1 a2 M = some (x, M2)) : MetI mG V l yX9_years cX9_years 5 (some .int) 8 190 [.ref (V.2.2 0), .int (gI a1), .int (gI a2)] M x M2 :=
  g_metI hok cal_X9_years.2.2.2 rfl (Nat.le_of_ble_eq_true rfl) (@fun p e R s m args below meth c Q ls C hR hp hl => b_X9_years C hR h hp hl)
set_option maxRecDepth 100000 in
set_option maxHeartbeats 4000000 in
theorem b_X9_of (C : g_CX mG V p R s m args meth c cX9_of 3 (some .int) RX9 5 122) {res : Int × g_M} (hR : g_RetI mG V p l e R s m args below meth c Q cX9_of .int res.1 res.2) {a1 : Int} {a2 : Int} {M : g_M} {H : Heap} {locs : List Loc} {ls : Array Slot} (h : m_X9_of a1 a2 M = some res) (hp : g_PT mG V M s H locs) (hl : lv_has ls 3 [(0, .ref (V.2.2 0)), (1, .int (gI a1)), (2, .int (gI a2))]) : W p l e R s m args below meth c H locs 0 0 Q (F0 m 0 ls []) := by
  unfold m_X9_of at h
  refine lv_aload_n C.1 C.2.1 dX9_of_0 rfl (lv_at hl 0 rfl) ?_
  refine lv_iload_n C.1 C.2.1 dX9_of_1 rfl (lv_at hl 1 rfl) ?_
  obtain ⟨x11, hr, h⟩ := bd_of h
  refine r_callVI (As := [.int (gI a1)]) (rest := []) C hl.1 hp (c_X9_isPerson l C.2.2.2.2.2.2.2.2.2.2.2 hr) gw_1587 gw_1589 gw_78 mk_0 ms_0 mc_0 cal_X9_isPerson rfl rfl (Nat.le_of_ble_eq_true rfl) ⟨Nat.le_of_ble_eq_true rfl, Nat.le_of_ble_eq_true rfl⟩ dX9_of_2 (fun H locs hp => ?_)
  refine r_if_ne (tgt := 10) C h dX9_of_5 (by decide) (fun h => ?_) (fun h => ?_)
  · refine lv_iload_n C.1 C.2.1 dX9_of_10 rfl (lv_at hl 2 rfl) ?_
    refine r_ite h (fun hv h => ?_) (fun hv0 h => ?_)
    · refine r_tswIn (tgt := 40) (v := 0) C hv dX9_of_11 (by decide) rfl (by decide) ?_
      refine lv_aload_n C.1 C.2.1 dX9_of_40 rfl (lv_at hl 0 rfl) ?_
      refine lv_iload_n C.1 C.2.1 dX9_of_41 rfl (lv_at hl 1 rfl) ?_
      refine r_iconst C dX9_of_42 ?_
      obtain ⟨x12, hr, h⟩ := bd_of h
      refine r_callVI (As := [.int (gI a1), .int (gI 2)]) (rest := []) C hl.1 hp (c_X9_get l C.2.2.2.2.2.2.2.2.2.2.2 hr) gw_1374 gw_1376 gw_45 mk_0 ms_0 mc_0 cal_X9_get rfl rfl (Nat.le_of_ble_eq_true rfl) ⟨Nat.le_of_ble_eq_true rfl, Nat.le_of_ble_eq_true rfl⟩ dX9_of_43 (fun H locs hp => ?_)
      cases h
      exact hR _ _ _ _ dX9_of_46 rfl hp
    refine r_ite h (fun hv h => ?_) (fun hv1 h => ?_)
    · refine r_tswIn (tgt := 47) (v := 1) C hv dX9_of_11 (by decide) rfl (by decide) ?_
      refine lv_aload_n C.1 C.2.1 dX9_of_47 rfl (lv_at hl 0 rfl) ?_
      refine lv_iload_n C.1 C.2.1 dX9_of_48 rfl (lv_at hl 1 rfl) ?_
      refine r_iconst C dX9_of_49 ?_
      obtain ⟨x13, hr, h⟩ := bd_of h
      refine r_callVI (As := [.int (gI a1), .int (gI 0)]) (rest := []) C hl.1 hp (c_X9_get l C.2.2.2.2.2.2.2.2.2.2.2 hr) gw_1374 gw_1376 gw_45 mk_0 ms_0 mc_0 cal_X9_get rfl rfl (Nat.le_of_ble_eq_true rfl) ⟨Nat.le_of_ble_eq_true rfl, Nat.le_of_ble_eq_true rfl⟩ dX9_of_50 (fun H locs hp => ?_)
      cases h
      exact hR _ _ _ _ dX9_of_53 rfl hp
    refine r_ite h (fun hv h => ?_) (fun hv2 h => ?_)
    · refine r_tswIn (tgt := 54) (v := 2) C hv dX9_of_11 (by decide) rfl (by decide) ?_
      refine lv_aload_n C.1 C.2.1 dX9_of_54 rfl (lv_at hl 0 rfl) ?_
      refine lv_iload_n C.1 C.2.1 dX9_of_55 rfl (lv_at hl 1 rfl) ?_
      refine r_iconst C dX9_of_56 ?_
      obtain ⟨x14, hr, h⟩ := bd_of h
      refine r_callVI (As := [.int (gI a1), .int (gI 1)]) (rest := []) C hl.1 hp (c_X9_get l C.2.2.2.2.2.2.2.2.2.2.2 hr) gw_1374 gw_1376 gw_45 mk_0 ms_0 mc_0 cal_X9_get rfl rfl (Nat.le_of_ble_eq_true rfl) ⟨Nat.le_of_ble_eq_true rfl, Nat.le_of_ble_eq_true rfl⟩ dX9_of_57 (fun H locs hp => ?_)
      cases h
      exact hR _ _ _ _ dX9_of_60 rfl hp
    refine r_ite h (fun hv h => ?_) (fun hv3 h => ?_)
    · refine r_tswIn (tgt := 61) (v := 3) C hv dX9_of_11 (by decide) rfl (by decide) ?_
      refine lv_aload_n C.1 C.2.1 dX9_of_61 rfl (lv_at hl 0 rfl) ?_
      refine lv_aload_n C.1 C.2.1 dX9_of_62 rfl (lv_at hl 0 rfl) ?_
      refine r_getr (t := 1) C hp mk_0 ms_0 mc_0 min_0 (j := 0) (by decide) rfl gw_1256 rfl dX9_of_63 ?_
      refine r_iconst C dX9_of_66 ?_
      refine r_iald C hp h mk_1 ms_1 dX9_of_67 (fun h => ?_)
      refine lv_iload_n C.1 C.2.1 dX9_of_68 rfl (lv_at hl 1 rfl) ?_
      refine r_iconst C dX9_of_69 ?_
      obtain ⟨x15, M16, hr, h⟩ := bW_of h
      refine r_callVI (As := [.int (gI (M 1 (gs 2).toNat)), .int (gI a1), .int (gI 1)]) (rest := []) C hl.1 hp (c_X9_gladdensOf l C.2.2.2.2.2.2.2.2.2.2.2 hr) gw_1695 gw_1697 gw_95 mk_0 ms_0 mc_0 cal_X9_gladdensOf rfl rfl (Nat.le_of_ble_eq_true rfl) ⟨Nat.le_of_ble_eq_true rfl, Nat.le_of_ble_eq_true rfl⟩ dX9_of_70 (fun H locs hp => ?_)
      cases h
      exact hR _ _ _ _ dX9_of_73 rfl hp
    have hd : W p l e R s m args below meth c H locs 0 0 Q (F0 m 74 ls []) := by
      refine r_iconst C dX9_of_74 ?_
      cases h
      exact hR _ _ _ _ dX9_of_75 rfl hp
    exact r_tswOut (tgt := 74) C dX9_of_11 (by omega) (by decide) hd
  · refine r_iconst C dX9_of_8 ?_
    cases h
    exact hR _ _ _ _ dX9_of_9 rfl hp
theorem c_X9_of (l : Launch) {V : g_V} (hok : g_ok mG V) {a1 : Int} {a2 : Int} {M : g_M} {x : Int} {M2 : g_M} (h : m_X9_of a1 a2 M = some (x, M2)) : MetI mG V l yX9_of cX9_of 3 (some .int) 5 122 [.ref (V.2.2 0), .int (gI a1), .int (gI a2)] M x M2 :=
  g_metI hok cal_X9_of.2.2.2 rfl (Nat.le_of_ble_eq_true rfl) (@fun p e R s m args below meth c Q ls C hR hp hl => b_X9_of C hR h hp hl)
set_option maxRecDepth 100000 in
set_option maxHeartbeats 4000000 in
theorem b_X9_ofScene (C : g_CX mG V p R s m args meth c cX9_ofScene 3 (some .int) RX9 5 121) {res : Int × g_M} (hR : g_RetI mG V p l e R s m args below meth c Q cX9_ofScene .int res.1 res.2) {a1 : Int} {a2 : Int} {M : g_M} {H : Heap} {locs : List Loc} {ls : Array Slot} (h : m_X9_ofScene a1 a2 M = some res) (hp : g_PT mG V M s H locs) (hl : lv_has ls 3 [(0, .ref (V.2.2 0)), (1, .int (gI a1)), (2, .int (gI a2))]) : W p l e R s m args below meth c H locs 0 0 Q (F0 m 0 ls []) := by
  unfold m_X9_ofScene at h
  refine lv_iload_n C.1 C.2.1 dX9_ofScene_0 rfl (lv_at hl 1 rfl) ?_
  obtain ⟨x11, hr, h⟩ := bd_of h
  refine r_callSI (As := [.int (gI a1)]) (rest := []) C hl.1 hp (c_X9_isScene l C.2.2.2.2.2.2.2.2.2.2.2 hr) gw_1385 gw_1386 cal_X9_isScene rfl rfl (Nat.le_of_ble_eq_true rfl) ⟨Nat.le_of_ble_eq_true rfl, Nat.le_of_ble_eq_true rfl⟩ dX9_ofScene_1 (fun H locs hp => ?_)
  refine r_if_ne (tgt := 9) C h dX9_ofScene_4 (by decide) (fun h => ?_) (fun h => ?_)
  · refine lv_iload_n C.1 C.2.1 dX9_ofScene_9 rfl (lv_at hl 2 rfl) ?_
    refine r_ite h (fun hv h => ?_) (fun hv4 h => ?_)
    · refine r_tswIn (tgt := 40) (v := 4) C hv dX9_ofScene_10 (by decide) rfl (by decide) ?_
      refine lv_aload_n C.1 C.2.1 dX9_ofScene_40 rfl (lv_at hl 0 rfl) ?_
      refine r_getr (t := 1) C hp mk_0 ms_0 mc_0 min_0 (j := 0) (by decide) rfl gw_1256 rfl dX9_ofScene_41 ?_
      refine r_bipush C dX9_ofScene_44 (by decide +kernel) ?_
      refine r_iconst C dX9_ofScene_46 ?_
      refine lv_iload_n C.1 C.2.1 dX9_ofScene_47 rfl (lv_at hl 1 rfl) ?_
      refine r_imul C dX9_ofScene_48 ?_
      refine r_iadd C dX9_ofScene_49 ?_
      refine r_iald C hp h mk_1 ms_1 dX9_ofScene_50 (fun h => ?_)
      cases h
      exact hR _ _ _ _ dX9_ofScene_51 rfl hp
    refine r_ite h (fun hv h => ?_) (fun hv5 h => ?_)
    · refine r_tswIn (tgt := 52) (v := 5) C hv dX9_ofScene_10 (by decide) rfl (by decide) ?_
      refine lv_aload_n C.1 C.2.1 dX9_ofScene_52 rfl (lv_at hl 0 rfl) ?_
      refine r_getr (t := 1) C hp mk_0 ms_0 mc_0 min_0 (j := 0) (by decide) rfl gw_1256 rfl dX9_ofScene_53 ?_
      refine r_bipush C dX9_ofScene_56 (by decide +kernel) ?_
      refine lv_iload_n C.1 C.2.1 dX9_ofScene_58 rfl (lv_at hl 1 rfl) ?_
      refine r_iadd C dX9_ofScene_59 ?_
      refine r_iald C hp h mk_1 ms_1 dX9_ofScene_60 (fun h => ?_)
      cases h
      exact hR _ _ _ _ dX9_ofScene_61 rfl hp
    refine r_ite h (fun hv h => ?_) (fun hv6 h => ?_)
    · refine r_tswIn (tgt := 62) (v := 6) C hv dX9_ofScene_10 (by decide) rfl (by decide) ?_
      refine lv_aload_n C.1 C.2.1 dX9_ofScene_62 rfl (lv_at hl 0 rfl) ?_
      refine r_getr (t := 1) C hp mk_0 ms_0 mc_0 min_0 (j := 0) (by decide) rfl gw_1256 rfl dX9_ofScene_63 ?_
      refine r_bipush C dX9_ofScene_66 (by decide +kernel) ?_
      refine lv_iload_n C.1 C.2.1 dX9_ofScene_68 rfl (lv_at hl 1 rfl) ?_
      refine r_iadd C dX9_ofScene_69 ?_
      refine r_iald C hp h mk_1 ms_1 dX9_ofScene_70 (fun h => ?_)
      cases h
      exact hR _ _ _ _ dX9_ofScene_71 rfl hp
    refine r_ite h (fun hv h => ?_) (fun hv7 h => ?_)
    · refine r_tswIn (tgt := 72) (v := 7) C hv dX9_ofScene_10 (by decide) rfl (by decide) ?_
      refine lv_aload_n C.1 C.2.1 dX9_ofScene_72 rfl (lv_at hl 0 rfl) ?_
      refine lv_iload_n C.1 C.2.1 dX9_ofScene_73 rfl (lv_at hl 1 rfl) ?_
      refine r_iconst C dX9_ofScene_74 ?_
      obtain ⟨x12, M13, hr, h⟩ := bW_of h
      refine r_callVI (As := [.int (gI a1), .int (gI 0)]) (rest := []) C hl.1 hp (c_X9_cueOf l C.2.2.2.2.2.2.2.2.2.2.2 hr) gw_1631 gw_1633 gw_86 mk_0 ms_0 mc_0 cal_X9_cueOf rfl rfl (Nat.le_of_ble_eq_true rfl) ⟨Nat.le_of_ble_eq_true rfl, Nat.le_of_ble_eq_true rfl⟩ dX9_ofScene_75 (fun H locs hp => ?_)
      cases h
      exact hR _ _ _ _ dX9_ofScene_78 rfl hp
    have hd : W p l e R s m args below meth c H locs 0 0 Q (F0 m 79 ls []) := by
      refine lv_iload_n C.1 C.2.1 dX9_ofScene_79 rfl (lv_at hl 2 rfl) ?_
      refine r_iconst C dX9_ofScene_80 ?_
      refine r_iconst C dX9_ofScene_81 ?_
      obtain ⟨x14, hr, h⟩ := bd_of h
      refine r_callSI (As := [.int (gI a2), .int (gI 0), .int (gI 3)]) (rest := []) C hl.1 hp (c_X9_isIn l C.2.2.2.2.2.2.2.2.2.2.2 hr) gw_1378 gw_1379 cal_X9_isIn rfl rfl (Nat.le_of_ble_eq_true rfl) ⟨Nat.le_of_ble_eq_true rfl, Nat.le_of_ble_eq_true rfl⟩ dX9_ofScene_82 (fun H locs hp => ?_)
      refine r_if_eq (tgt := 97) C h dX9_ofScene_85 (by decide) (fun h => ?_) (fun h => ?_)
      · refine r_iconst C dX9_ofScene_97 ?_
        cases h
        exact hR _ _ _ _ dX9_ofScene_98 rfl hp
      · refine lv_aload_n C.1 C.2.1 dX9_ofScene_88 rfl (lv_at hl 0 rfl) ?_
        refine lv_iload_n C.1 C.2.1 dX9_ofScene_89 rfl (lv_at hl 1 rfl) ?_
        refine lv_iload_n C.1 C.2.1 dX9_ofScene_90 rfl (lv_at hl 2 rfl) ?_
        obtain ⟨x15, hr, h⟩ := bd_of h
        refine r_callVI (As := [.int (gI a1), .int (gI a2)]) (rest := []) C hl.1 hp (c_X9_nextOf l C.2.2.2.2.2.2.2.2.2.2.2 hr) gw_1603 gw_1605 gw_81 mk_0 ms_0 mc_0 cal_X9_nextOf rfl rfl (Nat.le_of_ble_eq_true rfl) ⟨Nat.le_of_ble_eq_true rfl, Nat.le_of_ble_eq_true rfl⟩ dX9_ofScene_91 (fun H locs hp => ?_)
        refine r_goto (tgt := 98) C dX9_ofScene_94 (by decide) ?_
        cases h
        exact hR _ _ _ _ dX9_ofScene_98 rfl hp
    exact r_tswOut (tgt := 79) C dX9_ofScene_10 (by omega) (by decide) hd
  · refine r_iconst C dX9_ofScene_7 ?_
    cases h
    exact hR _ _ _ _ dX9_ofScene_8 rfl hp
theorem c_X9_ofScene (l : Launch) {V : g_V} (hok : g_ok mG V) {a1 : Int} {a2 : Int} {M : g_M} {x : Int} {M2 : g_M} (h : m_X9_ofScene a1 a2 M = some (x, M2)) : MetI mG V l yX9_ofScene cX9_ofScene 3 (some .int) 5 121 [.ref (V.2.2 0), .int (gI a1), .int (gI a2)] M x M2 :=
  g_metI hok cal_X9_ofScene.2.2.2 rfl (Nat.le_of_ble_eq_true rfl) (@fun p e R s m args below meth c Q ls C hR hp hl => b_X9_ofScene C hR h hp hl)
set_option maxRecDepth 100000 in
set_option maxHeartbeats 4000000 in
theorem b_X9_is (C : g_CX mG V p R s m args meth c cX9_is 2 (some .int) RX9 3 65) {res : Int} {M : g_M} (hR : g_RetI mG V p l e R s m args below meth c Q cX9_is .int res M) {a1 : Int} {H : Heap} {locs : List Loc} {ls : Array Slot} (h : m_X9_is a1 M = some res) (hp : g_PT mG V M s H locs) (hl : lv_has ls 2 [(0, .ref (V.2.2 0)), (1, .int (gI a1))]) : W p l e R s m args below meth c H locs 0 0 Q (F0 m 0 ls []) := by
  unfold m_X9_is at h
  refine lv_iload_n C.1 C.2.1 dX9_is_0 rfl (lv_at hl 1 rfl) ?_
  refine r_if_ne (tgt := 14) C h dX9_is_1 (by decide) (fun h => ?_) (fun h => ?_)
  · refine lv_iload_n C.1 C.2.1 dX9_is_14 rfl (lv_at hl 1 rfl) ?_
    refine r_iconst C dX9_is_15 ?_
    refine r_icmp_ne (tgt := 29) C h dX9_is_16 (by decide) (fun h => ?_) (fun h => ?_)
    · refine lv_iload_n C.1 C.2.1 dX9_is_29 rfl (lv_at hl 1 rfl) ?_
      refine r_iconst C dX9_is_30 ?_
      refine r_icmp_ne (tgt := 41) C h dX9_is_31 (by decide) (fun h => ?_) (fun h => ?_)
      · refine lv_iload_n C.1 C.2.1 dX9_is_41 rfl (lv_at hl 1 rfl) ?_
        refine r_iconst C dX9_is_42 ?_
        refine r_icmp_ne (tgt := 56) C h dX9_is_43 (by decide) (fun h => ?_) (fun h => ?_)
        · refine r_bipush C dX9_is_56 (by decide +kernel) ?_
          cases h
          exact hR _ _ _ _ dX9_is_58 rfl hp
        · refine lv_aload_n C.1 C.2.1 dX9_is_46 rfl (lv_at hl 0 rfl) ?_
          refine r_getr (t := 1) C hp mk_0 ms_0 mc_0 min_0 (j := 0) (by decide) rfl gw_1256 rfl dX9_is_47 ?_
          refine r_bipush C dX9_is_50 (by decide +kernel) ?_
          refine r_iald C hp h mk_1 ms_1 dX9_is_52 (fun h => ?_)
          refine r_goto (tgt := 58) C dX9_is_53 (by decide) ?_
          cases h
          exact hR _ _ _ _ dX9_is_58 rfl hp
      · refine lv_aload_n C.1 C.2.1 dX9_is_34 rfl (lv_at hl 0 rfl) ?_
        obtain ⟨x11, hr, h⟩ := bd_of h
        refine r_callVI (As := []) (rest := []) C hl.1 hp (c_X9_seen l C.2.2.2.2.2.2.2.2.2.2.2 hr) gw_1639 gw_1641 gw_88 mk_0 ms_0 mc_0 cal_X9_seen rfl rfl (Nat.le_of_ble_eq_true rfl) ⟨Nat.le_of_ble_eq_true rfl, Nat.le_of_ble_eq_true rfl⟩ dX9_is_35 (fun H locs hp => ?_)
        refine r_goto (tgt := 58) C dX9_is_38 (by decide) ?_
        cases h
        exact hR _ _ _ _ dX9_is_58 rfl hp
    · refine lv_aload_n C.1 C.2.1 dX9_is_19 rfl (lv_at hl 0 rfl) ?_
      refine r_getr (t := 1) C hp mk_0 ms_0 mc_0 min_0 (j := 0) (by decide) rfl gw_1256 rfl dX9_is_20 ?_
      refine r_bipush C dX9_is_23 (by decide +kernel) ?_
      refine r_iald C hp h mk_1 ms_1 dX9_is_25 (fun h => ?_)
      refine r_goto (tgt := 58) C dX9_is_26 (by decide) ?_
      cases h
      exact hR _ _ _ _ dX9_is_58 rfl hp
  · refine lv_aload_n C.1 C.2.1 dX9_is_4 rfl (lv_at hl 0 rfl) ?_
    refine r_getr (t := 1) C hp mk_0 ms_0 mc_0 min_0 (j := 0) (by decide) rfl gw_1256 rfl dX9_is_5 ?_
    refine r_bipush C dX9_is_8 (by decide +kernel) ?_
    refine r_iald C hp h mk_1 ms_1 dX9_is_10 (fun h => ?_)
    refine r_goto (tgt := 58) C dX9_is_11 (by decide) ?_
    cases h
    exact hR _ _ _ _ dX9_is_58 rfl hp
theorem c_X9_is (l : Launch) {V : g_V} (hok : g_ok mG V) {a1 : Int} {M : g_M} {x : Int} (h : m_X9_is a1 M = some x) : MetI mG V l yX9_is cX9_is 2 (some .int) 3 65 [.ref (V.2.2 0), .int (gI a1)] M x M :=
  g_metI hok cal_X9_is.2.2.2 rfl (Nat.le_of_ble_eq_true rfl) (@fun p e R s m args below meth c Q ls C hR hp hl => b_X9_is C hR h hp hl)
set_option maxRecDepth 100000 in
set_option maxHeartbeats 4000000 in
theorem b_X9_book (C : g_CX mG V p R s m args meth c cX9_book 4 (some .int) RX9 1 22) {res : Int} {M : g_M} (hR : g_RetI mG V p l e R s m args below meth c Q cX9_book .int res M) {a1 : Int} {a2 : Int} {H : Heap} {locs : List Loc} {ls : Array Slot} (h : m_X9_book a1 a2 M = some res) (hp : g_PT mG V M s H locs) (hl : lv_has ls 4 [(0, .ref (V.2.2 0)), (1, .int (gI a1)), (2, .int (gI a2))]) : W p l e R s m args below meth c H locs 0 0 Q (F0 m 0 ls []) := by
  unfold m_X9_book at h
  refine lv_iload_n C.1 C.2.1 dX9_book_0 rfl (lv_at hl 1 rfl) ?_
  refine r_iconst C dX9_book_1 ?_
  refine r_icmp_ne (tgt := 13) C h dX9_book_2 (by decide) (fun h => ?_) (fun h => ?_)
  · refine lv_iload_n C.1 C.2.1 dX9_book_13 rfl (lv_at hl 1 rfl) ?_
    refine r_iconst C dX9_book_14 ?_
    refine lv_aload_n C.1 C.2.1 dX9_book_15 rfl (lv_at hl 0 rfl) ?_
    refine r_getr (t := 1) C hp mk_0 ms_0 mc_0 min_0 (j := 0) (by decide) rfl gw_1256 rfl dX9_book_16 ?_
    refine r_bipush C dX9_book_19 (by decide +kernel) ?_
    refine r_iald C hp h mk_1 ms_1 dX9_book_21 (fun h => ?_)
    refine r_iconst C dX9_book_22 ?_
    refine r_isub C dX9_book_23 ?_
    obtain ⟨x11, hr, h⟩ := bd_of h
    refine r_callSI (As := [.int (gI a1), .int (gI 0), .int (gI ((M 1 (gs 9).toNat) - 1))]) (rest := []) C hl.1 hp (c_X9_isIn l C.2.2.2.2.2.2.2.2.2.2.2 hr) gw_1378 gw_1379 cal_X9_isIn rfl rfl (Nat.le_of_ble_eq_true rfl) ⟨Nat.le_of_ble_eq_true rfl, Nat.le_of_ble_eq_true rfl⟩ dX9_book_24 (fun H locs hp => ?_)
    refine r_if_ne (tgt := 33) C h dX9_book_27 (by decide) (fun h => ?_) (fun h => ?_)
    · refine lv_aload_n C.1 C.2.1 dX9_book_33 rfl (lv_at hl 0 rfl) ?_
      refine r_getr (t := 1) C hp mk_0 ms_0 mc_0 min_0 (j := 0) (by decide) rfl gw_1256 rfl dX9_book_34 ?_
      refine r_sipush C dX9_book_37 (by decide +kernel) ?_
      refine r_iconst C dX9_book_40 ?_
      refine lv_iload_n C.1 C.2.1 dX9_book_41 rfl (lv_at hl 1 rfl) ?_
      refine r_imul C dX9_book_42 ?_
      refine r_iadd C dX9_book_43 ?_
      refine r_iconst C dX9_book_44 ?_
      refine r_iadd C dX9_book_45 ?_
      refine r_iald C hp h mk_1 ms_1 dX9_book_46 (fun h => ?_)
      refine r_istore_n (lv' := fun x12 => [(3, .int (gI x12)), (0, .ref (V.2.2 0)), (1, .int (gI a1)), (2, .int (gI a2))]) C h dX9_book_47 rfl hl (by decide) (fun _ => rfl) (fun x12 ls h hl => ?_)
      refine lv_iload_n C.1 C.2.1 dX9_book_48 rfl (lv_at hl 3 rfl) ?_
      refine r_if_ne (tgt := 67) C h dX9_book_49 (by decide) (fun h => ?_) (fun h => ?_)
      · refine lv_iload_n C.1 C.2.1 dX9_book_67 rfl (lv_at hl 3 rfl) ?_
        refine r_iconst C dX9_book_68 ?_
        refine r_icmp_ne (tgt := 80) C h dX9_book_69 (by decide) (fun h => ?_) (fun h => ?_)
        · refine lv_iload_n C.1 C.2.1 dX9_book_80 rfl (lv_at hl 3 rfl) ?_
          refine r_iconst C dX9_book_81 ?_
          refine r_icmp_ne (tgt := 94) C h dX9_book_82 (by decide) (fun h => ?_) (fun h => ?_)
          · refine lv_iload_n C.1 C.2.1 dX9_book_94 rfl (lv_at hl 3 rfl) ?_
            refine r_iconst C dX9_book_95 ?_
            refine r_icmp_ne (tgt := 106) C h dX9_book_96 (by decide) (fun h => ?_) (fun h => ?_)
            · refine r_bipush C dX9_book_106 (by decide +kernel) ?_
              cases h
              exact hR _ _ _ _ dX9_book_108 rfl hp
            · refine lv_iload_n C.1 C.2.1 dX9_book_99 rfl (lv_at hl 0 rfl) ?_
              refine r_bipush C dX9_book_100 (by decide +kernel) ?_
              refine r_irem C h dX9_book_102 (fun h => ?_)
              refine r_goto (tgt := 108) C dX9_book_103 (by decide) ?_
              cases h
              exact hR _ _ _ _ dX9_book_108 rfl hp
          · refine lv_iload_n C.1 C.2.1 dX9_book_85 rfl (lv_at hl 0 rfl) ?_
            refine r_bipush C dX9_book_86 (by decide +kernel) ?_
            refine r_idiv C h dX9_book_88 (fun h => ?_)
            refine r_iconst C dX9_book_89 ?_
            refine r_irem C h dX9_book_90 (fun h => ?_)
            refine r_goto (tgt := 108) C dX9_book_91 (by decide) ?_
            cases h
            exact hR _ _ _ _ dX9_book_108 rfl hp
        · refine lv_iload_n C.1 C.2.1 dX9_book_72 rfl (lv_at hl 0 rfl) ?_
          refine r_sipush C dX9_book_73 (by decide +kernel) ?_
          refine r_idiv C h dX9_book_76 (fun h => ?_)
          refine r_goto (tgt := 108) C dX9_book_77 (by decide) ?_
          cases h
          exact hR _ _ _ _ dX9_book_108 rfl hp
      · refine lv_aload_n C.1 C.2.1 dX9_book_52 rfl (lv_at hl 1 rfl) ?_
        refine r_getr (t := 1) C hp mk_0 ms_0 mc_0 min_0 (j := 0) (by decide) rfl gw_1256 rfl dX9_book_53 ?_
        refine r_sipush C dX9_book_56 (by decide +kernel) ?_
        refine r_iconst C dX9_book_59 ?_
        refine lv_iload_n C.1 C.2.1 dX9_book_60 rfl (lv_at hl 2 rfl) ?_
        refine r_imul C dX9_book_61 ?_
        refine r_iadd C dX9_book_62 ?_
        refine r_iald C hp h mk_1 ms_1 dX9_book_63 (fun h => ?_)
        refine r_goto (tgt := 108) C dX9_book_64 (by decide) ?_
        cases h
        exact hR _ _ _ _ dX9_book_108 rfl hp
    · refine r_bipush C dX9_book_30 (by decide +kernel) ?_
      cases h
      exact hR _ _ _ _ dX9_book_32 rfl hp
  · refine lv_aload_n C.1 C.2.1 dX9_book_5 rfl (lv_at hl 0 rfl) ?_
    refine r_getr (t := 1) C hp mk_0 ms_0 mc_0 min_0 (j := 0) (by decide) rfl gw_1256 rfl dX9_book_6 ?_
    refine r_bipush C dX9_book_9 (by decide +kernel) ?_
    refine r_iald C hp h mk_1 ms_1 dX9_book_11 (fun h => ?_)
    cases h
    exact hR _ _ _ _ dX9_book_12 rfl hp
theorem c_X9_book (l : Launch) {V : g_V} (hok : g_ok mG V) {a1 : Int} {a2 : Int} {M : g_M} {x : Int} (h : m_X9_book a1 a2 M = some x) : MetI mG V l yX9_book cX9_book 4 (some .int) 1 22 [.ref (V.2.2 0), .int (gI a1), .int (gI a2)] M x M :=
  g_metI hok cal_X9_book.2.2.2 rfl (Nat.le_of_ble_eq_true rfl) (@fun p e R s m args below meth c Q ls C hR hp hl => b_X9_book C hR h hp hl)
set_option maxRecDepth 100000 in
set_option maxHeartbeats 4000000 in
theorem w_X9_ledger_L4 (C : g_CX mG V p R s m args meth c cX9_ledger 4 (some .int) RX9 2 45) {res : Int} {M16 : g_M} (hR : g_RetI mG V p l e R s m args below meth c Q cX9_ledger .int res M16) (x13 : Int)   : ∀ (f : Nat) (x14 : Int) (x15 : Int) (H : Heap) (locs : List Loc) (ls : Array Slot), m_X9_ledger_L4 x13 M16  f x14 x15 = some res → g_PT mG V M16 s H locs → lv_has ls 4 [(0, .ref (V.2.2 0)), (1, .int (gI x13)), (2, .int (gI x14)), (3, .int (gI x15))] → W p l e R s m args below meth c H locs 0 0 Q (F0 m 4 ls []) := by
  intro f
  induction f with
  | zero => intro x14 x15 H locs ls h hp hl; cases h
  | succ f ih =>
    intro x14 x15 H locs ls h hp hl
    rw [m_X9_ledger_L4] at h
    refine lv_iload_n C.1 C.2.1 dX9_ledger_4 rfl (lv_at hl 3 rfl) ?_
    refine lv_aload_n C.1 C.2.1 dX9_ledger_5 rfl (lv_at hl 0 rfl) ?_
    refine r_getr (t := 1) C hp mk_0 ms_0 mc_0 min_0 (j := 0) (by decide) rfl gw_1256 rfl dX9_ledger_6 ?_
    refine r_bipush C dX9_ledger_9 (by decide +kernel) ?_
    refine r_iald C hp h mk_1 ms_1 dX9_ledger_11 (fun h => ?_)
    refine r_icmp_ge (tgt := 48) C h dX9_ledger_12 (by decide) (fun h => ?_) (fun h => ?_)
    · refine lv_iload_n C.1 C.2.1 dX9_ledger_48 rfl (lv_at hl 2 rfl) ?_
      cases h
      exact hR _ _ _ _ dX9_ledger_49 rfl hp
    · refine r_jn (P := fun J => ∀ (x19 : Int) (x20 : Int) (H : Heap) (locs : List Loc) (ls : Array Slot), J x19 x20 = some res → g_PT mG V M16 s H locs → lv_has ls 4 [(0, .ref (V.2.2 0)), (1, .int (gI x13)), (3, .int (gI x15))] → W p l e R s m args below meth c H locs 0 0 Q (F0 m 31 ls [.int (gI x19), .int (gI x20)])) h ?_ (fun J17 hJ17 h => ?_)
      · intro x19 x20 H locs ls h hp hl
        refine r_jn (P := fun J => ∀ (x22 : Int) (x23 : Int) (H : Heap) (locs : List Loc) (ls : Array Slot), J x22 x23 = some res → g_PT mG V M16 s H locs → lv_has ls 4 [(0, .ref (V.2.2 0)), (1, .int (gI x13)), (3, .int (gI x15))] → W p l e R s m args below meth c H locs 0 0 Q (F0 m 40 ls [.int (gI x22), .int (gI x23)])) h ?_ (fun J21 hJ21 h => ?_)
        · intro x22 x23 H locs ls h hp hl
          refine r_iadd C dX9_ledger_40 ?_
          refine r_istore_n (lv' := fun x24 => [(2, .int (gI x24)), (0, .ref (V.2.2 0)), (1, .int (gI x13)), (3, .int (gI x15))]) C h dX9_ledger_41 rfl hl (by decide) (fun _ => rfl) (fun x24 ls h hl => ?_)
          refine r_iinc (lv' := fun x25 => [(3, .int (gI x25)), (2, .int (gI x24)), (0, .ref (V.2.2 0)), (1, .int (gI x13))]) C h dX9_ledger_42 hl (j := 3) rfl (by decide) (fun _ => rfl) (fun x25 ls h hl => ?_)
          refine r_goto (tgt := 4) C dX9_ledger_45 (by decide) ?_
          exact ih _ _ _ _ _ h hp (lv_sub hl [2, 3, 1, 0] rfl)
        refine lv_iload_n C.1 C.2.1 dX9_ledger_31 rfl (lv_at hl 1 rfl) ?_
        refine r_icmp_ne (tgt := 39) C h dX9_ledger_32 (by decide) (fun h => ?_) (fun h => ?_)
        · refine r_iconst C dX9_ledger_39 ?_
          exact hJ21 _ _ _ _ _ h hp hl
        · refine r_iconst C dX9_ledger_35 ?_
          refine r_goto (tgt := 40) C dX9_ledger_36 (by decide) ?_
          exact hJ21 _ _ _ _ _ h hp hl
      refine lv_iload_n C.1 C.2.1 dX9_ledger_15 rfl (lv_at hl 2 rfl) ?_
      refine lv_aload_n C.1 C.2.1 dX9_ledger_16 rfl (lv_at hl 0 rfl) ?_
      refine lv_iload_n C.1 C.2.1 dX9_ledger_17 rfl (lv_at hl 3 rfl) ?_
      refine r_iconst C dX9_ledger_18 ?_
      obtain ⟨x18, hr, h⟩ := bd_of h
      refine r_callVI (As := [.int (gI x15), .int (gI 2)]) (rest := [.int (gI x14)]) C hl.1 hp (c_X9_book l C.2.2.2.2.2.2.2.2.2.2.2 hr) gw_1745 gw_1738 gw_1739 mk_0 ms_0 mc_0 cal_X9_book rfl rfl (Nat.le_of_ble_eq_true rfl) ⟨Nat.le_of_ble_eq_true rfl, Nat.le_of_ble_eq_true rfl⟩ dX9_ledger_19 (fun H locs hp => ?_)
      refine r_iconst C dX9_ledger_22 ?_
      refine r_icmp_ne (tgt := 30) C h dX9_ledger_23 (by decide) (fun h => ?_) (fun h => ?_)
      · refine r_iconst C dX9_ledger_30 ?_
        exact hJ17 _ _ _ _ _ h hp (lv_sub hl [0, 1, 3] rfl)
      · refine r_iconst C dX9_ledger_26 ?_
        refine r_goto (tgt := 31) C dX9_ledger_27 (by decide) ?_
        exact hJ17 _ _ _ _ _ h hp (lv_sub hl [0, 1, 3] rfl)
set_option maxRecDepth 100000 in
set_option maxHeartbeats 4000000 in
theorem b_X9_ledger (C : g_CX mG V p R s m args meth c cX9_ledger 4 (some .int) RX9 2 45) {res : Int} {M : g_M} (hR : g_RetI mG V p l e R s m args below meth c Q cX9_ledger .int res M) {a1 : Int} {H : Heap} {locs : List Loc} {ls : Array Slot} (h : m_X9_ledger a1 M = some res) (hp : g_PT mG V M s H locs) (hl : lv_has ls 4 [(0, .ref (V.2.2 0)), (1, .int (gI a1))]) : W p l e R s m args below meth c H locs 0 0 Q (F0 m 0 ls []) := by
  unfold m_X9_ledger at h
  refine r_iconst C dX9_ledger_0 ?_
  refine r_istore_n (lv' := fun x11 => [(2, .int (gI x11)), (0, .ref (V.2.2 0)), (1, .int (gI a1))]) C h dX9_ledger_1 rfl hl (by decide) (fun _ => rfl) (fun x11 ls h hl => ?_)
  refine r_iconst C dX9_ledger_2 ?_
  refine r_istore_n (lv' := fun x12 => [(3, .int (gI x12)), (2, .int (gI x11)), (0, .ref (V.2.2 0)), (1, .int (gI a1))]) C h dX9_ledger_3 rfl hl (by decide) (fun _ => rfl) (fun x12 ls h hl => ?_)
  refine w_X9_ledger_L4 C hR _ _ _ _ H locs ls h hp (lv_sub hl [2, 3, 1, 0] rfl)
theorem c_X9_ledger (l : Launch) {V : g_V} (hok : g_ok mG V) {a1 : Int} {M : g_M} {x : Int} (h : m_X9_ledger a1 M = some x) : MetI mG V l yX9_ledger cX9_ledger 4 (some .int) 2 45 [.ref (V.2.2 0), .int (gI a1)] M x M :=
  g_metI hok cal_X9_ledger.2.2.2 rfl (Nat.le_of_ble_eq_true rfl) (@fun p e R s m args below meth c Q ls C hR hp hl => b_X9_ledger C hR h hp hl)
set_option maxRecDepth 100000 in
set_option maxHeartbeats 4000000 in
theorem w_X9_gladdest_L4 (C : g_CX mG V p R s m args meth c cX9_gladdest 3 (some .int) RX9 1 22) {res : Int} {M15 : g_M} (hR : g_RetI mG V p l e R s m args below meth c Q cX9_gladdest .int res M15)    : ∀ (f : Nat) (x13 : Int) (x14 : Int) (H : Heap) (locs : List Loc) (ls : Array Slot), m_X9_gladdest_L4 M15  f x13 x14 = some res → g_PT mG V M15 s H locs → lv_has ls 3 [(0, .ref (V.2.2 0)), (1, .int (gI x13)), (2, .int (gI x14))] → W p l e R s m args below meth c H locs 0 0 Q (F0 m 4 ls []) := by
  intro f
  induction f with
  | zero => intro x13 x14 H locs ls h hp hl; cases h
  | succ f ih =>
    intro x13 x14 H locs ls h hp hl
    rw [m_X9_gladdest_L4] at h
    refine lv_iload_n C.1 C.2.1 dX9_gladdest_4 rfl (lv_at hl 2 rfl) ?_
    refine lv_aload_n C.1 C.2.1 dX9_gladdest_5 rfl (lv_at hl 0 rfl) ?_
    refine r_getr (t := 1) C hp mk_0 ms_0 mc_0 min_0 (j := 0) (by decide) rfl gw_1256 rfl dX9_gladdest_6 ?_
    refine r_iconst C dX9_gladdest_9 ?_
    refine r_iald C hp h mk_1 ms_1 dX9_gladdest_10 (fun h => ?_)
    refine r_icmp_ge (tgt := 42) C h dX9_gladdest_11 (by decide) (fun h => ?_) (fun h => ?_)
    · refine lv_iload_n C.1 C.2.1 dX9_gladdest_42 rfl (lv_at hl 1 rfl) ?_
      cases h
      exact hR _ _ _ _ dX9_gladdest_43 rfl hp
    · refine r_jn (P := fun J => ∀ (x20 : Int) (H : Heap) (locs : List Loc) (ls : Array Slot), J x20 = some res → g_PT mG V M15 s H locs → lv_has ls 3 [(0, .ref (V.2.2 0)), (1, .int (gI x20)), (2, .int (gI x14))] → W p l e R s m args below meth c H locs 0 0 Q (F0 m 36 ls [])) h ?_ (fun J17 hJ17 h => ?_)
      · intro x20 H locs ls h hp hl
        refine r_iinc (lv' := fun x22 => [(2, .int (gI x22)), (0, .ref (V.2.2 0)), (1, .int (gI x20))]) C h dX9_gladdest_36 hl (j := 2) rfl (by decide) (fun _ => rfl) (fun x22 ls h hl => ?_)
        refine r_goto (tgt := 4) C dX9_gladdest_39 (by decide) ?_
        exact ih _ _ _ _ _ h hp (lv_sub hl [1, 2, 0] rfl)
      refine r_jn (P := fun J => ∀  (H : Heap) (locs : List Loc) (ls : Array Slot), J  = some res → g_PT mG V M15 s H locs → lv_has ls 3 [(0, .ref (V.2.2 0)), (2, .int (gI x14))] → W p l e R s m args below meth c H locs 0 0 Q (F0 m 34 ls [])) h ?_ (fun J16 hJ16 h => ?_)
      · intro  H locs ls h hp hl
        refine lv_iload_n C.1 C.2.1 dX9_gladdest_34 rfl (lv_at hl 1 rfl) ?_
        refine r_istore_n (lv' := fun x21 => [(1, .int (gI x21)), (0, .ref (V.2.2 0)), (2, .int (gI x14))]) C h dX9_gladdest_35 rfl hl (by decide) (fun _ => rfl) (fun x21 ls h hl => ?_)
        exact hJ17 _ _ _ _ h hp (lv_sub hl [1, 0, 2] rfl)
      refine lv_iload_n C.1 C.2.1 dX9_gladdest_14 rfl (lv_at hl 1 rfl) ?_
      refine r_iconst C dX9_gladdest_15 ?_
      refine r_icmp_eq (tgt := 34) C h dX9_gladdest_16 (by decide) (fun h => ?_) (fun h => ?_)
      · exact hJ16  _ _ _ h hp (lv_sub hl [0, 2] rfl)
      · refine lv_aload_n C.1 C.2.1 dX9_gladdest_19 rfl (lv_at hl 0 rfl) ?_
        refine lv_iload_n C.1 C.2.1 dX9_gladdest_20 rfl (lv_at hl 2 rfl) ?_
        refine r_iconst C dX9_gladdest_21 ?_
        obtain ⟨x18, hr, h⟩ := bd_of h
        refine r_callVI (As := [.int (gI x14), .int (gI 1)]) (rest := []) C hl.1 hp (c_X9_get l C.2.2.2.2.2.2.2.2.2.2.2 hr) gw_1374 gw_1376 gw_45 mk_0 ms_0 mc_0 cal_X9_get rfl rfl (Nat.le_of_ble_eq_true rfl) ⟨Nat.le_of_ble_eq_true rfl, Nat.le_of_ble_eq_true rfl⟩ dX9_gladdest_22 (fun H locs hp => ?_)
        refine lv_aload_n C.1 C.2.1 dX9_gladdest_25 rfl (lv_at hl 0 rfl) ?_
        refine lv_iload_n C.1 C.2.1 dX9_gladdest_26 rfl (lv_at hl 1 rfl) ?_
        refine r_iconst C dX9_gladdest_27 ?_
        obtain ⟨x19, hr, h⟩ := bd_of h
        refine r_callVI (As := [.int (gI x13), .int (gI 1)]) (rest := [.int (gI x18)]) C hl.1 hp (c_X9_get l C.2.2.2.2.2.2.2.2.2.2.2 hr) gw_1374 gw_1376 gw_45 mk_0 ms_0 mc_0 cal_X9_get rfl rfl (Nat.le_of_ble_eq_true rfl) ⟨Nat.le_of_ble_eq_true rfl, Nat.le_of_ble_eq_true rfl⟩ dX9_gladdest_28 (fun H locs hp => ?_)
        refine r_icmp_le (tgt := 36) C h dX9_gladdest_31 (by decide) (fun h => ?_) (fun h => ?_)
        · exact hJ17 _ _ _ _ h hp hl
        · exact hJ16  _ _ _ h hp (lv_sub hl [0, 2] rfl)
set_option maxRecDepth 100000 in
set_option maxHeartbeats 4000000 in
theorem b_X9_gladdest (C : g_CX mG V p R s m args meth c cX9_gladdest 3 (some .int) RX9 1 22) {res : Int} {M : g_M} (hR : g_RetI mG V p l e R s m args below meth c Q cX9_gladdest .int res M)  {H : Heap} {locs : List Loc} {ls : Array Slot} (h : m_X9_gladdest M = some res) (hp : g_PT mG V M s H locs) (hl : lv_has ls 3 [(0, .ref (V.2.2 0))]) : W p l e R s m args below meth c H locs 0 0 Q (F0 m 0 ls []) := by
  unfold m_X9_gladdest at h
  refine r_iconst C dX9_gladdest_0 ?_
  refine r_istore_n (lv' := fun x11 => [(1, .int (gI x11)), (0, .ref (V.2.2 0))]) C h dX9_gladdest_1 rfl hl (by decide) (fun _ => rfl) (fun x11 ls h hl => ?_)
  refine r_iconst C dX9_gladdest_2 ?_
  refine r_istore_n (lv' := fun x12 => [(2, .int (gI x12)), (1, .int (gI x11)), (0, .ref (V.2.2 0))]) C h dX9_gladdest_3 rfl hl (by decide) (fun _ => rfl) (fun x12 ls h hl => ?_)
  refine w_X9_gladdest_L4 C hR _ _ _ H locs ls h hp (lv_sub hl [2, 1, 0] rfl)
theorem c_X9_gladdest (l : Launch) {V : g_V} (hok : g_ok mG V)  {M : g_M} {x : Int} (h : m_X9_gladdest M = some x) : MetI mG V l yX9_gladdest cX9_gladdest 3 (some .int) 1 22 [.ref (V.2.2 0)] M x M :=
  g_metI hok cal_X9_gladdest.2.2.2 rfl (Nat.le_of_ble_eq_true rfl) (@fun p e R s m args below meth c Q ls C hR hp hl => b_X9_gladdest C hR h hp hl)
set_option maxRecDepth 100000 in
set_option maxHeartbeats 4000000 in
theorem w_X9_often_L4 (C : g_CX mG V p R s m args meth c cX9_often 3 (some .int) RX9 0 0) {res : Int} {M15 : g_M} (hR : g_RetI mG V p l e R s m args below meth c Q cX9_often .int res M15)    : ∀ (f : Nat) (x13 : Int) (x14 : Int) (H : Heap) (locs : List Loc) (ls : Array Slot), m_X9_often_L4 M15  f x13 x14 = some res → g_PT mG V M15 s H locs → lv_has ls 3 [(0, .ref (V.2.2 0)), (1, .int (gI x13)), (2, .int (gI x14))] → W p l e R s m args below meth c H locs 0 0 Q (F0 m 4 ls []) := by
  intro f
  induction f with
  | zero => intro x13 x14 H locs ls h hp hl; cases h
  | succ f ih =>
    intro x13 x14 H locs ls h hp hl
    rw [m_X9_often_L4] at h
    refine lv_iload_n C.1 C.2.1 dX9_often_4 rfl (lv_at hl 2 rfl) ?_
    refine r_bipush C dX9_often_5 (by decide +kernel) ?_
    refine r_icmp_ge (tgt := 39) C h dX9_often_7 (by decide) (fun h => ?_) (fun h => ?_)
    · refine lv_iload_n C.1 C.2.1 dX9_often_39 rfl (lv_at hl 1 rfl) ?_
      cases h
      exact hR _ _ _ _ dX9_often_40 rfl hp
    · refine r_jn (P := fun J => ∀ (x18 : Int) (H : Heap) (locs : List Loc) (ls : Array Slot), J x18 = some res → g_PT mG V M15 s H locs → lv_has ls 3 [(0, .ref (V.2.2 0)), (1, .int (gI x18)), (2, .int (gI x14))] → W p l e R s m args below meth c H locs 0 0 Q (F0 m 33 ls [])) h ?_ (fun J16 hJ16 h => ?_)
      · intro x18 H locs ls h hp hl
        refine r_iinc (lv' := fun x19 => [(2, .int (gI x19)), (0, .ref (V.2.2 0)), (1, .int (gI x18))]) C h dX9_often_33 hl (j := 2) rfl (by decide) (fun _ => rfl) (fun x19 ls h hl => ?_)
        refine r_goto (tgt := 4) C dX9_often_36 (by decide) ?_
        exact ih _ _ _ _ _ h hp (lv_sub hl [1, 2, 0] rfl)
      refine lv_aload_n C.1 C.2.1 dX9_often_10 rfl (lv_at hl 0 rfl) ?_
      refine r_getr (t := 1) C hp mk_0 ms_0 mc_0 min_0 (j := 0) (by decide) rfl gw_1256 rfl dX9_often_11 ?_
      refine r_bipush C dX9_often_14 (by decide +kernel) ?_
      refine lv_iload_n C.1 C.2.1 dX9_often_16 rfl (lv_at hl 2 rfl) ?_
      refine r_iadd C dX9_often_17 ?_
      refine r_iald C hp h mk_1 ms_1 dX9_often_18 (fun h => ?_)
      refine lv_aload_n C.1 C.2.1 dX9_often_19 rfl (lv_at hl 0 rfl) ?_
      refine r_getr (t := 1) C hp mk_0 ms_0 mc_0 min_0 (j := 0) (by decide) rfl gw_1256 rfl dX9_often_20 ?_
      refine r_bipush C dX9_often_23 (by decide +kernel) ?_
      refine lv_iload_n C.1 C.2.1 dX9_often_25 rfl (lv_at hl 1 rfl) ?_
      refine r_iadd C dX9_often_26 ?_
      refine r_iald C hp h mk_1 ms_1 dX9_often_27 (fun h => ?_)
      refine r_icmp_le (tgt := 33) C h dX9_often_28 (by decide) (fun h => ?_) (fun h => ?_)
      · exact hJ16 _ _ _ _ h hp hl
      · refine lv_iload_n C.1 C.2.1 dX9_often_31 rfl (lv_at hl 2 rfl) ?_
        refine r_istore_n (lv' := fun x17 => [(1, .int (gI x17)), (0, .ref (V.2.2 0)), (2, .int (gI x14))]) C h dX9_often_32 rfl hl (by decide) (fun _ => rfl) (fun x17 ls h hl => ?_)
        exact hJ16 _ _ _ _ h hp (lv_sub hl [1, 0, 2] rfl)
set_option maxRecDepth 100000 in
set_option maxHeartbeats 4000000 in
theorem b_X9_often (C : g_CX mG V p R s m args meth c cX9_often 3 (some .int) RX9 0 0) {res : Int} {M : g_M} (hR : g_RetI mG V p l e R s m args below meth c Q cX9_often .int res M)  {H : Heap} {locs : List Loc} {ls : Array Slot} (h : m_X9_often M = some res) (hp : g_PT mG V M s H locs) (hl : lv_has ls 3 [(0, .ref (V.2.2 0))]) : W p l e R s m args below meth c H locs 0 0 Q (F0 m 0 ls []) := by
  unfold m_X9_often at h
  refine r_iconst C dX9_often_0 ?_
  refine r_istore_n (lv' := fun x11 => [(1, .int (gI x11)), (0, .ref (V.2.2 0))]) C h dX9_often_1 rfl hl (by decide) (fun _ => rfl) (fun x11 ls h hl => ?_)
  refine r_iconst C dX9_often_2 ?_
  refine r_istore_n (lv' := fun x12 => [(2, .int (gI x12)), (1, .int (gI x11)), (0, .ref (V.2.2 0))]) C h dX9_often_3 rfl hl (by decide) (fun _ => rfl) (fun x12 ls h hl => ?_)
  refine w_X9_often_L4 C hR _ _ _ H locs ls h hp (lv_sub hl [2, 1, 0] rfl)
theorem c_X9_often (l : Launch) {V : g_V} (hok : g_ok mG V)  {M : g_M} {x : Int} (h : m_X9_often M = some x) : MetI mG V l yX9_often cX9_often 3 (some .int) 0 0 [.ref (V.2.2 0)] M x M :=
  g_metI hok cal_X9_often.2.2.2 rfl (Nat.le_of_ble_eq_true rfl) (@fun p e R s m args below meth c Q ls C hR hp hl => b_X9_often C hR h hp hl)
set_option maxRecDepth 100000 in
set_option maxHeartbeats 4000000 in
theorem w_X9_changed_L4 (C : g_CX mG V p R s m args meth c cX9_changed 3 (some .int) RX9 3 63) {res : Int} {M15 : g_M} (hR : g_RetI mG V p l e R s m args below meth c Q cX9_changed .int res M15)    : ∀ (f : Nat) (x13 : Int) (x14 : Int) (H : Heap) (locs : List Loc) (ls : Array Slot), m_X9_changed_L4 M15  f x13 x14 = some res → g_PT mG V M15 s H locs → lv_has ls 3 [(0, .ref (V.2.2 0)), (1, .int (gI x13)), (2, .int (gI x14))] → W p l e R s m args below meth c H locs 0 0 Q (F0 m 4 ls []) := by
  intro f
  induction f with
  | zero => intro x13 x14 H locs ls h hp hl; cases h
  | succ f ih =>
    intro x13 x14 H locs ls h hp hl
    rw [m_X9_changed_L4] at h
    refine lv_iload_n C.1 C.2.1 dX9_changed_4 rfl (lv_at hl 2 rfl) ?_
    refine r_bipush C dX9_changed_5 (by decide +kernel) ?_
    refine r_icmp_ge (tgt := 34) C h dX9_changed_7 (by decide) (fun h => ?_) (fun h => ?_)
    · refine lv_iload_n C.1 C.2.1 dX9_changed_34 rfl (lv_at hl 1 rfl) ?_
      cases h
      exact hR _ _ _ _ dX9_changed_35 rfl hp
    · refine r_jn (P := fun J => ∀ (x18 : Int) (x19 : Int) (H : Heap) (locs : List Loc) (ls : Array Slot), J x18 x19 = some res → g_PT mG V M15 s H locs → lv_has ls 3 [(0, .ref (V.2.2 0)), (2, .int (gI x14))] → W p l e R s m args below meth c H locs 0 0 Q (F0 m 26 ls [.int (gI x18), .int (gI x19)])) h ?_ (fun J16 hJ16 h => ?_)
      · intro x18 x19 H locs ls h hp hl
        refine r_ior C dX9_changed_26 ?_
        refine r_istore_n (lv' := fun x20 => [(1, .int (gI x20)), (0, .ref (V.2.2 0)), (2, .int (gI x14))]) C h dX9_changed_27 rfl hl (by decide) (fun _ => rfl) (fun x20 ls h hl => ?_)
        refine r_iinc (lv' := fun x21 => [(2, .int (gI x21)), (1, .int (gI x20)), (0, .ref (V.2.2 0))]) C h dX9_changed_28 hl (j := 2) rfl (by decide) (fun _ => rfl) (fun x21 ls h hl => ?_)
        refine r_goto (tgt := 4) C dX9_changed_31 (by decide) ?_
        exact ih _ _ _ _ _ h hp (lv_sub hl [2, 1, 0] rfl)
      refine lv_iload_n C.1 C.2.1 dX9_changed_10 rfl (lv_at hl 1 rfl) ?_
      refine lv_aload_n C.1 C.2.1 dX9_changed_11 rfl (lv_at hl 0 rfl) ?_
      refine lv_iload_n C.1 C.2.1 dX9_changed_12 rfl (lv_at hl 2 rfl) ?_
      obtain ⟨x17, hr, h⟩ := bd_of h
      refine r_callVI (As := [.int (gI x14)]) (rest := [.int (gI x13)]) C hl.1 hp (c_X9_canMend l C.2.2.2.2.2.2.2.2.2.2.2 hr) gw_1611 gw_1613 gw_82 mk_0 ms_0 mc_0 cal_X9_canMend rfl rfl (Nat.le_of_ble_eq_true rfl) ⟨Nat.le_of_ble_eq_true rfl, Nat.le_of_ble_eq_true rfl⟩ dX9_changed_13 (fun H locs hp => ?_)
      refine r_if_eq (tgt := 25) C h dX9_changed_16 (by decide) (fun h => ?_) (fun h => ?_)
      · refine r_iconst C dX9_changed_25 ?_
        exact hJ16 _ _ _ _ _ h hp (lv_sub hl [0, 2] rfl)
      · refine r_iconst C dX9_changed_19 ?_
        refine lv_iload_n C.1 C.2.1 dX9_changed_20 rfl (lv_at hl 2 rfl) ?_
        refine r_ishl C dX9_changed_21 ?_
        refine r_goto (tgt := 26) C dX9_changed_22 (by decide) ?_
        exact hJ16 _ _ _ _ _ h hp (lv_sub hl [0, 2] rfl)
set_option maxRecDepth 100000 in
set_option maxHeartbeats 4000000 in
theorem b_X9_changed (C : g_CX mG V p R s m args meth c cX9_changed 3 (some .int) RX9 3 63) {res : Int} {M : g_M} (hR : g_RetI mG V p l e R s m args below meth c Q cX9_changed .int res M)  {H : Heap} {locs : List Loc} {ls : Array Slot} (h : m_X9_changed M = some res) (hp : g_PT mG V M s H locs) (hl : lv_has ls 3 [(0, .ref (V.2.2 0))]) : W p l e R s m args below meth c H locs 0 0 Q (F0 m 0 ls []) := by
  unfold m_X9_changed at h
  refine r_iconst C dX9_changed_0 ?_
  refine r_istore_n (lv' := fun x11 => [(1, .int (gI x11)), (0, .ref (V.2.2 0))]) C h dX9_changed_1 rfl hl (by decide) (fun _ => rfl) (fun x11 ls h hl => ?_)
  refine r_iconst C dX9_changed_2 ?_
  refine r_istore_n (lv' := fun x12 => [(2, .int (gI x12)), (1, .int (gI x11)), (0, .ref (V.2.2 0))]) C h dX9_changed_3 rfl hl (by decide) (fun _ => rfl) (fun x12 ls h hl => ?_)
  refine w_X9_changed_L4 C hR _ _ _ H locs ls h hp (lv_sub hl [2, 1, 0] rfl)
theorem c_X9_changed (l : Launch) {V : g_V} (hok : g_ok mG V)  {M : g_M} {x : Int} (h : m_X9_changed M = some x) : MetI mG V l yX9_changed cX9_changed 3 (some .int) 3 63 [.ref (V.2.2 0)] M x M :=
  g_metI hok cal_X9_changed.2.2.2 rfl (Nat.le_of_ble_eq_true rfl) (@fun p e R s m args below meth c Q ls C hR hp hl => b_X9_changed C hR h hp hl)
set_option maxRecDepth 100000 in
set_option maxHeartbeats 4000000 in
theorem w_X9_foretold_L24 (C : g_CX mG V p R s m args meth c cX9_foretold 4 (some .int) RX9 7 168) {res : Int × g_M} (hR : g_RetI mG V p l e R s m args below meth c Q cX9_foretold .int res.1 res.2) (x14 : Int) (x15 : Int) (k18 : g_M → Option (Int × g_M)) (hk18 : ∀ (M21 : g_M) (H : Heap) (locs : List Loc) (ls : Array Slot), k18 M21 = some res → g_PT mG V M21 s H locs → lv_has ls 4 [(0, .ref (V.2.2 0)), (1, .int (gI x14)), (2, .int (gI x15))] → W p l e R s m args below meth c H locs 0 0 Q (F0 m 48 ls [])) : ∀ (f : Nat) (x16 : Int) (M17 : g_M) (H : Heap) (locs : List Loc) (ls : Array Slot), m_X9_foretold_L24 x14 x15 k18 f x16 M17 = some res → g_PT mG V M17 s H locs → lv_has ls 4 [(0, .ref (V.2.2 0)), (1, .int (gI x14)), (2, .int (gI x15)), (3, .int (gI x16))] → W p l e R s m args below meth c H locs 0 0 Q (F0 m 24 ls []) := by
  intro f
  induction f with
  | zero => intro x16 M17 H locs ls h hp hl; cases h
  | succ f ih =>
    intro x16 M17 H locs ls h hp hl
    rw [m_X9_foretold_L24] at h
    refine lv_iload_n C.1 C.2.1 dX9_foretold_24 rfl (lv_at hl 3 rfl) ?_
    refine r_bipush C dX9_foretold_25 (by decide +kernel) ?_
    refine r_icmp_ge (tgt := 48) C h dX9_foretold_27 (by decide) (fun h => ?_) (fun h => ?_)
    · exact hk18 _ _ _ _ h hp (lv_sub hl [0, 1, 2] rfl)
    · refine lv_aload_n C.1 C.2.1 dX9_foretold_30 rfl (lv_at hl 0 rfl) ?_
      refine r_getr (t := 9) C hp mk_0 ms_0 mc_0 min_0 (j := 27) (by decide) rfl gw_1283 rfl dX9_foretold_31 ?_
      refine lv_iload_n C.1 C.2.1 dX9_foretold_34 rfl (lv_at hl 3 rfl) ?_
      refine lv_aload_n C.1 C.2.1 dX9_foretold_35 rfl (lv_at hl 0 rfl) ?_
      refine r_getr (t := 1) C hp mk_0 ms_0 mc_0 min_0 (j := 0) (by decide) rfl gw_1256 rfl dX9_foretold_36 ?_
      refine lv_iload_n C.1 C.2.1 dX9_foretold_39 rfl (lv_at hl 3 rfl) ?_
      refine r_iald C hp h mk_1 ms_1 dX9_foretold_40 (fun h => ?_)
      refine r_iast C hp h mk_9 ms_9 dX9_foretold_41 (fun M19 H locs h hp => ?_)
      refine r_iinc (lv' := fun x20 => [(3, .int (gI x20)), (0, .ref (V.2.2 0)), (1, .int (gI x14)), (2, .int (gI x15))]) C h dX9_foretold_42 hl (j := 3) rfl (by decide) (fun _ => rfl) (fun x20 ls h hl => ?_)
      refine r_goto (tgt := 24) C dX9_foretold_45 (by decide) ?_
      exact ih _ _ _ _ _ h hp (lv_sub hl [1, 2, 3, 0] rfl)
set_option maxRecDepth 100000 in
set_option maxHeartbeats 4000000 in
theorem w_X9_foretold_L70 (C : g_CX mG V p R s m args meth c cX9_foretold 4 (some .int) RX9 7 168) {res : Int × g_M} (hR : g_RetI mG V p l e R s m args below meth c Q cX9_foretold .int res.1 res.2) (x28 : Int) (x29 : Int) (k32 : g_M → Option (Int × g_M)) (hk32 : ∀ (M37 : g_M) (H : Heap) (locs : List Loc) (ls : Array Slot), k32 M37 = some res → g_PT mG V M37 s H locs → lv_has ls 4 [(0, .ref (V.2.2 0)), (2, .int (gI x29))] → W p l e R s m args below meth c H locs 0 0 Q (F0 m 98 ls [])) : ∀ (f : Nat) (x30 : Int) (M31 : g_M) (H : Heap) (locs : List Loc) (ls : Array Slot), m_X9_foretold_L70 x28 x29 k32 f x30 M31 = some res → g_PT mG V M31 s H locs → lv_has ls 4 [(0, .ref (V.2.2 0)), (1, .int (gI x28)), (2, .int (gI x29)), (3, .int (gI x30))] → W p l e R s m args below meth c H locs 0 0 Q (F0 m 70 ls []) := by
  intro f
  induction f with
  | zero => intro x30 M31 H locs ls h hp hl; cases h
  | succ f ih =>
    intro x30 M31 H locs ls h hp hl
    rw [m_X9_foretold_L70] at h
    refine lv_iload_n C.1 C.2.1 dX9_foretold_70 rfl (lv_at hl 3 rfl) ?_
    refine lv_iload_n C.1 C.2.1 dX9_foretold_71 rfl (lv_at hl 1 rfl) ?_
    refine r_icmp_ge (tgt := 98) C h dX9_foretold_72 (by decide) (fun h => ?_) (fun h => ?_)
    · exact hk32 _ _ _ _ h hp (lv_sub hl [0, 2] rfl)
    · refine r_jn (P := fun J => ∀ (M35 : g_M) (H : Heap) (locs : List Loc) (ls : Array Slot), J M35 = some res → g_PT mG V M35 s H locs → lv_has ls 4 [(0, .ref (V.2.2 0)), (1, .int (gI x28)), (2, .int (gI x29)), (3, .int (gI x30))] → W p l e R s m args below meth c H locs 0 0 Q (F0 m 92 ls [])) h ?_ (fun J33 hJ33 h => ?_)
      · intro M35 H locs ls h hp hl
        refine r_iinc (lv' := fun x36 => [(3, .int (gI x36)), (0, .ref (V.2.2 0)), (1, .int (gI x28)), (2, .int (gI x29))]) C h dX9_foretold_92 hl (j := 3) rfl (by decide) (fun _ => rfl) (fun x36 ls h hl => ?_)
        refine r_goto (tgt := 70) C dX9_foretold_95 (by decide) ?_
        exact ih _ _ _ _ _ h hp (lv_sub hl [1, 2, 3, 0] rfl)
      refine lv_aload_n C.1 C.2.1 dX9_foretold_75 rfl (lv_at hl 0 rfl) ?_
      refine r_getr (t := 1) C hp mk_0 ms_0 mc_0 min_0 (j := 0) (by decide) rfl gw_1256 rfl dX9_foretold_76 ?_
      refine r_bipush C dX9_foretold_79 (by decide +kernel) ?_
      refine r_iald C hp h mk_1 ms_1 dX9_foretold_81 (fun h => ?_)
      refine r_sipush C dX9_foretold_82 (by decide +kernel) ?_
      refine r_icmp_ge (tgt := 92) C h dX9_foretold_85 (by decide) (fun h => ?_) (fun h => ?_)
      · exact hJ33 _ _ _ _ h hp hl
      · refine lv_aload_n C.1 C.2.1 dX9_foretold_88 rfl (lv_at hl 0 rfl) ?_
        obtain ⟨M34, hr, h⟩ := bd_of h
        refine r_callVV (As := []) (rest := []) C hl.1 hp (c_X9_pass l C.2.2.2.2.2.2.2.2.2.2.2 hr) gw_1623 gw_1625 gw_84 mk_0 ms_0 mc_0 cal_X9_pass rfl rfl (Nat.le_of_ble_eq_true rfl) ⟨Nat.le_of_ble_eq_true rfl, Nat.le_of_ble_eq_true rfl⟩ dX9_foretold_89 (fun H locs hp => ?_)
        exact hJ33 _ _ _ _ h hp hl
set_option maxRecDepth 100000 in
set_option maxHeartbeats 4000000 in
theorem w_X9_foretold_L101 (C : g_CX mG V p R s m args meth c cX9_foretold 4 (some .int) RX9 7 168) {res : Int × g_M} (hR : g_RetI mG V p l e R s m args below meth c Q cX9_foretold .int res.1 res.2) (x40 : Int) (k43 : g_M → Option (Int × g_M)) (hk43 : ∀ (M46 : g_M) (H : Heap) (locs : List Loc) (ls : Array Slot), k43 M46 = some res → g_PT mG V M46 s H locs → lv_has ls 4 [(0, .ref (V.2.2 0)), (2, .int (gI x40))] → W p l e R s m args below meth c H locs 0 0 Q (F0 m 125 ls [])) : ∀ (f : Nat) (x41 : Int) (M42 : g_M) (H : Heap) (locs : List Loc) (ls : Array Slot), m_X9_foretold_L101 x40 k43 f x41 M42 = some res → g_PT mG V M42 s H locs → lv_has ls 4 [(0, .ref (V.2.2 0)), (2, .int (gI x40)), (3, .int (gI x41))] → W p l e R s m args below meth c H locs 0 0 Q (F0 m 101 ls []) := by
  intro f
  induction f with
  | zero => intro x41 M42 H locs ls h hp hl; cases h
  | succ f ih =>
    intro x41 M42 H locs ls h hp hl
    rw [m_X9_foretold_L101] at h
    refine lv_iload_n C.1 C.2.1 dX9_foretold_101 rfl (lv_at hl 2 rfl) ?_
    refine r_bipush C dX9_foretold_102 (by decide +kernel) ?_
    refine r_icmp_ge (tgt := 125) C h dX9_foretold_104 (by decide) (fun h => ?_) (fun h => ?_)
    · exact hk43 _ _ _ _ h hp (lv_sub hl [0, 1] rfl)
    · refine lv_aload_n C.1 C.2.1 dX9_foretold_107 rfl (lv_at hl 0 rfl) ?_
      refine r_getr (t := 1) C hp mk_0 ms_0 mc_0 min_0 (j := 0) (by decide) rfl gw_1256 rfl dX9_foretold_108 ?_
      refine lv_iload_n C.1 C.2.1 dX9_foretold_111 rfl (lv_at hl 2 rfl) ?_
      refine lv_aload_n C.1 C.2.1 dX9_foretold_112 rfl (lv_at hl 0 rfl) ?_
      refine r_getr (t := 9) C hp mk_0 ms_0 mc_0 min_0 (j := 27) (by decide) rfl gw_1283 rfl dX9_foretold_113 ?_
      refine lv_iload_n C.1 C.2.1 dX9_foretold_116 rfl (lv_at hl 2 rfl) ?_
      refine r_iald C hp h mk_9 ms_9 dX9_foretold_117 (fun h => ?_)
      refine r_iast C hp h mk_1 ms_1 dX9_foretold_118 (fun M44 H locs h hp => ?_)
      refine r_iinc (lv' := fun x45 => [(3, .int (gI x45)), (0, .ref (V.2.2 0)), (2, .int (gI x40))]) C h dX9_foretold_119 hl (j := 2) rfl (by decide) (fun _ => rfl) (fun x45 ls h hl => ?_)
      refine r_goto (tgt := 101) C dX9_foretold_122 (by decide) ?_
      exact ih _ _ _ _ _ h hp (lv_sub hl [1, 2, 0] rfl)
set_option maxRecDepth 100000 in
set_option maxHeartbeats 4000000 in
theorem b_X9_foretold (C : g_CX mG V p R s m args meth c cX9_foretold 4 (some .int) RX9 7 168) {res : Int × g_M} (hR : g_RetI mG V p l e R s m args below meth c Q cX9_foretold .int res.1 res.2) {a1 : Int} {a2 : Int} {M : g_M} {H : Heap} {locs : List Loc} {ls : Array Slot} (h : m_X9_foretold a1 a2 M = some res) (hp : g_PT mG V M s H locs) (hl : lv_has ls 4 [(0, .ref (V.2.2 0)), (1, .int (gI a1)), (2, .int (gI a2))]) : W p l e R s m args below meth c H locs 0 0 Q (F0 m 0 ls []) := by
  unfold m_X9_foretold at h
  refine lv_iload_n C.1 C.2.1 dX9_foretold_0 rfl (lv_at hl 1 rfl) ?_
  refine r_iconst C dX9_foretold_1 ?_
  refine r_bipush C dX9_foretold_2 (by decide +kernel) ?_
  obtain ⟨x11, hr, h⟩ := bd_of h
  refine r_callSI (As := [.int (gI a1), .int (gI 1), .int (gI 40)]) (rest := []) C hl.1 hp (c_X9_isIn l C.2.2.2.2.2.2.2.2.2.2.2 hr) gw_1378 gw_1379 cal_X9_isIn rfl rfl (Nat.le_of_ble_eq_true rfl) ⟨Nat.le_of_ble_eq_true rfl, Nat.le_of_ble_eq_true rfl⟩ dX9_foretold_4 (fun H locs hp => ?_)
  refine r_if_eq (tgt := 19) C h dX9_foretold_7 (by decide) (fun h => ?_) (fun h => ?_)
  · refine r_iconst C dX9_foretold_19 ?_
    cases h
    exact hR _ _ _ _ dX9_foretold_20 rfl hp
  · refine lv_iload_n C.1 C.2.1 dX9_foretold_10 rfl (lv_at hl 2 rfl) ?_
    refine r_iconst C dX9_foretold_11 ?_
    refine r_iconst C dX9_foretold_12 ?_
    obtain ⟨x12, hr, h⟩ := bd_of h
    refine r_callSI (As := [.int (gI a2), .int (gI 0), .int (gI 2)]) (rest := []) C hl.1 hp (c_X9_isIn l C.2.2.2.2.2.2.2.2.2.2.2 hr) gw_1378 gw_1379 cal_X9_isIn rfl rfl (Nat.le_of_ble_eq_true rfl) ⟨Nat.le_of_ble_eq_true rfl, Nat.le_of_ble_eq_true rfl⟩ dX9_foretold_13 (fun H locs hp => ?_)
    refine r_if_ne (tgt := 21) C h dX9_foretold_16 (by decide) (fun h => ?_) (fun h => ?_)
    · refine r_bipush C dX9_foretold_21 (by decide +kernel) ?_
      refine r_istore_n (lv' := fun x13 => [(3, .int (gI x13)), (0, .ref (V.2.2 0)), (1, .int (gI a1)), (2, .int (gI a2))]) C h dX9_foretold_23 rfl hl (by decide) (fun _ => rfl) (fun x13 ls h hl => ?_)
      refine w_X9_foretold_L24 C hR _ _ _ ?_ _ _ _ H locs ls h hp (lv_sub hl [1, 2, 3, 0] rfl)
      · intro M22 H locs ls h hp hl
        refine lv_aload_n C.1 C.2.1 dX9_foretold_48 rfl (lv_at hl 0 rfl) ?_
        refine r_iconst C dX9_foretold_49 ?_
        refine r_putz C hp h mk_0 ms_0 mc_0 min_0 tyX9 tyX9_ok nmX9 (j := 23) (by decide) rfl gw_1279 rfl rfl rfl dX9_foretold_50 (fun M23 H locs h hp => ?_)
        refine lv_aload_n C.1 C.2.1 dX9_foretold_53 rfl (lv_at hl 0 rfl) ?_
        refine r_iconst C dX9_foretold_54 ?_
        refine r_puti C hp h mk_0 ms_0 mc_0 min_0 tyX9 tyX9_ok nmX9 (j := 24) (by decide) rfl gw_1280 rfl rfl rfl dX9_foretold_55 (fun M24 H locs h hp => ?_)
        refine lv_aload_n C.1 C.2.1 dX9_foretold_58 rfl (lv_at hl 0 rfl) ?_
        refine r_iconst C dX9_foretold_59 ?_
        refine r_puti C hp h mk_0 ms_0 mc_0 min_0 tyX9 tyX9_ok nmX9 (j := 25) (by decide) rfl gw_1281 rfl rfl rfl dX9_foretold_60 (fun M25 H locs h hp => ?_)
        refine lv_aload_n C.1 C.2.1 dX9_foretold_63 rfl (lv_at hl 0 rfl) ?_
        refine r_iconst C dX9_foretold_64 ?_
        refine r_puti C hp h mk_0 ms_0 mc_0 min_0 tyX9 tyX9_ok nmX9 (j := 26) (by decide) rfl gw_1282 rfl rfl rfl dX9_foretold_65 (fun M26 H locs h hp => ?_)
        refine r_iconst C dX9_foretold_68 ?_
        refine r_istore_n (lv' := fun x27 => [(3, .int (gI x27)), (0, .ref (V.2.2 0)), (1, .int (gI a1)), (2, .int (gI a2))]) C h dX9_foretold_69 rfl hl (by decide) (fun _ => rfl) (fun x27 ls h hl => ?_)
        refine w_X9_foretold_L70 C hR _ _ _ ?_ _ _ _ H locs ls h hp (lv_sub hl [1, 2, 3, 0] rfl)
        · intro M38 H locs ls h hp hl
          refine r_bipush C dX9_foretold_98 (by decide +kernel) ?_
          refine r_istore_n (lv' := fun x39 => [(3, .int (gI x39)), (0, .ref (V.2.2 0)), (2, .int (gI a2))]) C h dX9_foretold_100 rfl hl (by decide) (fun _ => rfl) (fun x39 ls h hl => ?_)
          refine w_X9_foretold_L101 C hR _ _ ?_ _ _ _ H locs ls h hp (lv_sub hl [1, 2, 0] rfl)
          · intro M47 H locs ls h hp hl
            refine lv_aload_n C.1 C.2.1 dX9_foretold_125 rfl (lv_at hl 0 rfl) ?_
            refine r_iconst C dX9_foretold_126 ?_
            refine r_putz C hp h mk_0 ms_0 mc_0 min_0 tyX9 tyX9_ok nmX9 (j := 23) (by decide) rfl gw_1279 rfl rfl rfl dX9_foretold_127 (fun M48 H locs h hp => ?_)
            refine lv_iload_n C.1 C.2.1 dX9_foretold_130 rfl (lv_at hl 1 rfl) ?_
            refine r_if_ne (tgt := 141) C h dX9_foretold_131 (by decide) (fun h => ?_) (fun h => ?_)
            · refine lv_iload_n C.1 C.2.1 dX9_foretold_141 rfl (lv_at hl 1 rfl) ?_
              refine r_iconst C dX9_foretold_142 ?_
              refine r_icmp_ne (tgt := 153) C h dX9_foretold_143 (by decide) (fun h => ?_) (fun h => ?_)
              · refine lv_aload_n C.1 C.2.1 dX9_foretold_153 rfl (lv_at hl 0 rfl) ?_
                refine r_geti (t := 0) C hp mk_0 ms_0 mc_0 min_0 (j := 25) (by decide) rfl gw_1281 rfl dX9_foretold_154 ?_
                cases h
                exact hR _ _ _ _ dX9_foretold_157 rfl hp
              · refine lv_aload_n C.1 C.2.1 dX9_foretold_146 rfl (lv_at hl 0 rfl) ?_
                refine r_geti (t := 0) C hp mk_0 ms_0 mc_0 min_0 (j := 26) (by decide) rfl gw_1282 rfl dX9_foretold_147 ?_
                refine r_goto (tgt := 157) C dX9_foretold_150 (by decide) ?_
                cases h
                exact hR _ _ _ _ dX9_foretold_157 rfl hp
            · refine lv_aload_n C.1 C.2.1 dX9_foretold_134 rfl (lv_at hl 0 rfl) ?_
              refine r_geti (t := 0) C hp mk_0 ms_0 mc_0 min_0 (j := 24) (by decide) rfl gw_1280 rfl dX9_foretold_135 ?_
              refine r_goto (tgt := 157) C dX9_foretold_138 (by decide) ?_
              cases h
              exact hR _ _ _ _ dX9_foretold_157 rfl hp
    · refine r_iconst C dX9_foretold_19 ?_
      cases h
      exact hR _ _ _ _ dX9_foretold_20 rfl hp
theorem c_X9_foretold (l : Launch) {V : g_V} (hok : g_ok mG V) {a1 : Int} {a2 : Int} {M : g_M} {x : Int} {M2 : g_M} (h : m_X9_foretold a1 a2 M = some (x, M2)) : MetI mG V l yX9_foretold cX9_foretold 4 (some .int) 7 168 [.ref (V.2.2 0), .int (gI a1), .int (gI a2)] M x M2 :=
  g_metI hok cal_X9_foretold.2.2.2 rfl (Nat.le_of_ble_eq_true rfl) (@fun p e R s m args below meth c Q ls C hR hp hl => b_X9_foretold C hR h hp hl)
set_option maxRecDepth 100000 in
set_option maxHeartbeats 4000000 in
theorem b_X9_cue (C : g_CX mG V p R s m args meth c cX9_cue 2 (some .int) RX9 1 22) {res : Int × g_M} (hR : g_RetI mG V p l e R s m args below meth c Q cX9_cue .int res.1 res.2) {a1 : Int} {M : g_M} {H : Heap} {locs : List Loc} {ls : Array Slot} (h : m_X9_cue a1 M = some res) (hp : g_PT mG V M s H locs) (hl : lv_has ls 2 [(0, .ref (V.2.2 0)), (1, .int (gI a1))]) : W p l e R s m args below meth c H locs 0 0 Q (F0 m 0 ls []) := by
  unfold m_X9_cue at h
  refine lv_iload_n C.1 C.2.1 dX9_cue_0 rfl (lv_at hl 1 rfl) ?_
  refine r_iconst C dX9_cue_1 ?_
  refine r_icmp_ne (tgt := 14) C h dX9_cue_2 (by decide) (fun h => ?_) (fun h => ?_)
  · refine lv_iload_n C.1 C.2.1 dX9_cue_14 rfl (lv_at hl 1 rfl) ?_
    refine r_iconst C dX9_cue_15 ?_
    refine r_iconst C dX9_cue_16 ?_
    obtain ⟨x11, hr, h⟩ := bd_of h
    refine r_callSI (As := [.int (gI a1), .int (gI 0), .int (gI 3)]) (rest := []) C hl.1 hp (c_X9_isIn l C.2.2.2.2.2.2.2.2.2.2.2 hr) gw_1378 gw_1379 cal_X9_isIn rfl rfl (Nat.le_of_ble_eq_true rfl) ⟨Nat.le_of_ble_eq_true rfl, Nat.le_of_ble_eq_true rfl⟩ dX9_cue_17 (fun H locs hp => ?_)
    refine r_if_eq (tgt := 34) C h dX9_cue_20 (by decide) (fun h => ?_) (fun h => ?_)
    · refine r_bipush C dX9_cue_34 (by decide +kernel) ?_
      cases h
      exact hR _ _ _ _ dX9_cue_36 rfl hp
    · refine lv_aload_n C.1 C.2.1 dX9_cue_23 rfl (lv_at hl 0 rfl) ?_
      refine r_getr (t := 1) C hp mk_0 ms_0 mc_0 min_0 (j := 0) (by decide) rfl gw_1256 rfl dX9_cue_24 ?_
      refine r_iconst C dX9_cue_27 ?_
      refine r_iald C hp h mk_1 ms_1 dX9_cue_28 (fun h => ?_)
      refine r_bipush C dX9_cue_29 (by decide +kernel) ?_
      refine r_icmp_ne (tgt := 37) C h dX9_cue_31 (by decide) (fun h => ?_) (fun h => ?_)
      · refine lv_aload_n C.1 C.2.1 dX9_cue_37 rfl (lv_at hl 0 rfl) ?_
        refine r_getr (t := 1) C hp mk_0 ms_0 mc_0 min_0 (j := 0) (by decide) rfl gw_1256 rfl dX9_cue_38 ?_
        refine r_bipush C dX9_cue_41 (by decide +kernel) ?_
        refine lv_aload_n C.1 C.2.1 dX9_cue_43 rfl (lv_at hl 0 rfl) ?_
        refine r_getr (t := 1) C hp mk_0 ms_0 mc_0 min_0 (j := 0) (by decide) rfl gw_1256 rfl dX9_cue_44 ?_
        refine r_iconst C dX9_cue_47 ?_
        refine r_iald C hp h mk_1 ms_1 dX9_cue_48 (fun h => ?_)
        refine r_iadd C dX9_cue_49 ?_
        refine lv_iload_n C.1 C.2.1 dX9_cue_50 rfl (lv_at hl 1 rfl) ?_
        refine r_iast C hp h mk_1 ms_1 dX9_cue_51 (fun M12 H locs h hp => ?_)
        refine lv_aload_n C.1 C.2.1 dX9_cue_52 rfl (lv_at hl 0 rfl) ?_
        refine r_getr (t := 1) C hp mk_0 ms_0 mc_0 min_0 (j := 0) (by decide) rfl gw_1256 rfl dX9_cue_53 ?_
        refine r_iconst C dX9_cue_56 ?_
        refine lv_dup2_11 C.1 C.2.1 dX9_cue_57 rfl rfl ?_
        refine r_iald C hp h mk_1 ms_1 dX9_cue_58 (fun h => ?_)
        refine r_iconst C dX9_cue_59 ?_
        refine r_iadd C dX9_cue_60 ?_
        refine r_iast C hp h mk_1 ms_1 dX9_cue_61 (fun M13 H locs h hp => ?_)
        refine lv_aload_n C.1 C.2.1 dX9_cue_62 rfl (lv_at hl 0 rfl) ?_
        refine r_getr (t := 1) C hp mk_0 ms_0 mc_0 min_0 (j := 0) (by decide) rfl gw_1256 rfl dX9_cue_63 ?_
        refine r_iconst C dX9_cue_66 ?_
        refine r_iald C hp h mk_1 ms_1 dX9_cue_67 (fun h => ?_)
        cases h
        exact hR _ _ _ _ dX9_cue_68 rfl hp
      · refine r_bipush C dX9_cue_34 (by decide +kernel) ?_
        cases h
        exact hR _ _ _ _ dX9_cue_36 rfl hp
  · refine lv_aload_n C.1 C.2.1 dX9_cue_5 rfl (lv_at hl 0 rfl) ?_
    refine r_getr (t := 1) C hp mk_0 ms_0 mc_0 min_0 (j := 0) (by decide) rfl gw_1256 rfl dX9_cue_6 ?_
    refine r_iconst C dX9_cue_9 ?_
    refine r_iconst C dX9_cue_10 ?_
    refine r_iast C hp h mk_1 ms_1 dX9_cue_11 (fun M14 H locs h hp => ?_)
    refine r_iconst C dX9_cue_12 ?_
    cases h
    exact hR _ _ _ _ dX9_cue_13 rfl hp
theorem c_X9_cue (l : Launch) {V : g_V} (hok : g_ok mG V) {a1 : Int} {M : g_M} {x : Int} {M2 : g_M} (h : m_X9_cue a1 M = some (x, M2)) : MetI mG V l yX9_cue cX9_cue 2 (some .int) 1 22 [.ref (V.2.2 0), .int (gI a1)] M x M2 :=
  g_metI hok cal_X9_cue.2.2.2 rfl (Nat.le_of_ble_eq_true rfl) (@fun p e R s m args below meth c Q ls C hR hp hl => b_X9_cue C hR h hp hl)
set_option maxRecDepth 100000 in
set_option maxHeartbeats 4000000 in
theorem w_X9_run_L28 (C : g_CX mG V p R s m args meth c cX9_run 5 (some .int) RX9 2 42) {res : Int} {M18 : g_M} (hR : g_RetI mG V p l e R s m args below meth c Q cX9_run .int res M18) (x15 : Int)   : ∀ (f : Nat) (x16 : Int) (x17 : Int) (H : Heap) (locs : List Loc) (ls : Array Slot), m_X9_run_L28 x15 M18  f x16 x17 = some res → g_PT mG V M18 s H locs → lv_has ls 5 [(0, .ref (V.2.2 0)), (2, .int (gI x15)), (3, .int (gI x16)), (4, .int (gI x17))] → W p l e R s m args below meth c H locs 0 0 Q (F0 m 28 ls []) := by
  intro f
  induction f with
  | zero => intro x16 x17 H locs ls h hp hl; cases h
  | succ f ih =>
    intro x16 x17 H locs ls h hp hl
    rw [m_X9_run_L28] at h
    refine lv_iload C.1 C.2.1 dX9_run_28 (lv_at hl 3 rfl) ?_
    refine lv_iload_n C.1 C.2.1 dX9_run_30 rfl (lv_at hl 1 rfl) ?_
    refine r_icmp_ge (tgt := 56) C h dX9_run_31 (by decide) (fun h => ?_) (fun h => ?_)
    · refine lv_iload_n C.1 C.2.1 dX9_run_56 rfl (lv_at hl 2 rfl) ?_
      cases h
      exact hR _ _ _ _ dX9_run_57 rfl hp
    · refine lv_aload_n C.1 C.2.1 dX9_run_34 rfl (lv_at hl 0 rfl) ?_
      refine lv_iload_n C.1 C.2.1 dX9_run_35 rfl (lv_at hl 2 rfl) ?_
      refine lv_aload_n C.1 C.2.1 dX9_run_36 rfl (lv_at hl 0 rfl) ?_
      refine r_getr (t := 1) C hp mk_0 ms_0 mc_0 min_0 (j := 0) (by decide) rfl gw_1256 rfl dX9_run_37 ?_
      refine r_bipush C dX9_run_40 (by decide +kernel) ?_
      refine lv_iload C.1 C.2.1 dX9_run_42 (lv_at hl 3 rfl) ?_
      refine r_iadd C dX9_run_44 ?_
      refine r_iald C hp h mk_1 ms_1 dX9_run_45 (fun h => ?_)
      obtain ⟨x19, hr, h⟩ := bd_of h
      refine r_callVI (As := [.int (gI x16), .int (gI (M18 1 (gs (126 + x17)).toNat))]) (rest := []) C hl.1 hp (c_X9_nextOf l C.2.2.2.2.2.2.2.2.2.2.2 hr) gw_1603 gw_1605 gw_81 mk_0 ms_0 mc_0 cal_X9_nextOf rfl rfl (Nat.le_of_ble_eq_true rfl) ⟨Nat.le_of_ble_eq_true rfl, Nat.le_of_ble_eq_true rfl⟩ dX9_run_46 (fun H locs hp => ?_)
      refine r_istore_n (lv' := fun x20 => [(3, .int (gI x20)), (0, .ref (V.2.2 0)), (2, .int (gI x15)), (4, .int (gI x17))]) C h dX9_run_49 rfl hl (by decide) (fun _ => rfl) (fun x20 ls h hl => ?_)
      refine r_iinc (lv' := fun x21 => [(4, .int (gI x21)), (3, .int (gI x20)), (0, .ref (V.2.2 0)), (2, .int (gI x15))]) C h dX9_run_50 hl (j := 3) rfl (by decide) (fun _ => rfl) (fun x21 ls h hl => ?_)
      refine r_goto (tgt := 28) C dX9_run_53 (by decide) ?_
      exact ih _ _ _ _ _ h hp (lv_sub hl [2, 3, 1, 0] rfl)
set_option maxRecDepth 100000 in
set_option maxHeartbeats 4000000 in
theorem b_X9_run (C : g_CX mG V p R s m args meth c cX9_run 5 (some .int) RX9 2 42) {res : Int} {M : g_M} (hR : g_RetI mG V p l e R s m args below meth c Q cX9_run .int res M) {a1 : Int} {a2 : Int} {H : Heap} {locs : List Loc} {ls : Array Slot} (h : m_X9_run a1 a2 M = some res) (hp : g_PT mG V M s H locs) (hl : lv_has ls 5 [(0, .ref (V.2.2 0)), (1, .int (gI a1)), (2, .int (gI a2))]) : W p l e R s m args below meth c H locs 0 0 Q (F0 m 0 ls []) := by
  unfold m_X9_run at h
  refine lv_iload_n C.1 C.2.1 dX9_run_0 rfl (lv_at hl 1 rfl) ?_
  obtain ⟨x11, hr, h⟩ := bd_of h
  refine r_callSI (As := [.int (gI a1)]) (rest := []) C hl.1 hp (c_X9_isAny l C.2.2.2.2.2.2.2.2.2.2.2 hr) gw_1388 gw_1389 cal_X9_isAny rfl rfl (Nat.le_of_ble_eq_true rfl) ⟨Nat.le_of_ble_eq_true rfl, Nat.le_of_ble_eq_true rfl⟩ dX9_run_1 (fun H locs hp => ?_)
  refine r_if_eq (tgt := 21) C h dX9_run_4 (by decide) (fun h => ?_) (fun h => ?_)
  · refine r_iconst C dX9_run_21 ?_
    cases h
    exact hR _ _ _ _ dX9_run_22 rfl hp
  · refine lv_iload_n C.1 C.2.1 dX9_run_7 rfl (lv_at hl 2 rfl) ?_
    refine r_iconst C dX9_run_8 ?_
    refine lv_aload_n C.1 C.2.1 dX9_run_9 rfl (lv_at hl 0 rfl) ?_
    refine r_getr (t := 1) C hp mk_0 ms_0 mc_0 min_0 (j := 0) (by decide) rfl gw_1256 rfl dX9_run_10 ?_
    refine r_iconst C dX9_run_13 ?_
    refine r_iald C hp h mk_1 ms_1 dX9_run_14 (fun h => ?_)
    obtain ⟨x12, hr, h⟩ := bd_of h
    refine r_callSI (As := [.int (gI a2), .int (gI 0), .int (gI (M 1 (gs 4).toNat))]) (rest := []) C hl.1 hp (c_X9_isIn l C.2.2.2.2.2.2.2.2.2.2.2 hr) gw_1378 gw_1379 cal_X9_isIn rfl rfl (Nat.le_of_ble_eq_true rfl) ⟨Nat.le_of_ble_eq_true rfl, Nat.le_of_ble_eq_true rfl⟩ dX9_run_15 (fun H locs hp => ?_)
    refine r_if_ne (tgt := 23) C h dX9_run_18 (by decide) (fun h => ?_) (fun h => ?_)
    · refine lv_iload_n C.1 C.2.1 dX9_run_23 rfl (lv_at hl 1 rfl) ?_
      refine r_istore_n (lv' := fun x13 => [(3, .int (gI x13)), (0, .ref (V.2.2 0)), (1, .int (gI a1)), (2, .int (gI a2))]) C h dX9_run_24 rfl hl (by decide) (fun _ => rfl) (fun x13 ls h hl => ?_)
      refine r_iconst C dX9_run_25 ?_
      refine r_istore (lv' := fun x14 => [(4, .int (gI x14)), (3, .int (gI x13)), (0, .ref (V.2.2 0)), (1, .int (gI a1)), (2, .int (gI a2))]) C h dX9_run_26 hl (by decide) (fun _ => rfl) (fun x14 ls h hl => ?_)
      refine w_X9_run_L28 C hR _ _ _ _ H locs ls h hp (lv_sub hl [2, 4, 1, 0] rfl)
    · refine r_iconst C dX9_run_21 ?_
      cases h
      exact hR _ _ _ _ dX9_run_22 rfl hp
theorem c_X9_run (l : Launch) {V : g_V} (hok : g_ok mG V) {a1 : Int} {a2 : Int} {M : g_M} {x : Int} (h : m_X9_run a1 a2 M = some x) : MetI mG V l yX9_run cX9_run 5 (some .int) 2 42 [.ref (V.2.2 0), .int (gI a1), .int (gI a2)] M x M :=
  g_metI hok cal_X9_run.2.2.2 rfl (Nat.le_of_ble_eq_true rfl) (@fun p e R s m args below meth c Q ls C hR hp hl => b_X9_run C hR h hp hl)
set_option maxRecDepth 100000 in
set_option maxHeartbeats 4000000 in
theorem w_X9_layTakes_L2 (C : g_CX mG V p R s m args meth c cX9_layTakes 5 none RX9 1 22) {res : g_M} (hR : g_RetV mG V p l e R s m args below meth c Q cX9_layTakes res) (x12 : Int) (k15 : g_M → Option (g_M)) (hk15 : ∀ (M21 : g_M) (H : Heap) (locs : List Loc) (ls : Array Slot), k15 M21 = some res → g_PT mG V M21 s H locs → lv_has ls 5 [(0, .ref (V.2.2 0))] → W p l e R s m args below meth c H locs 0 0 Q (F0 m 32 ls [])) : ∀ (f : Nat) (x13 : Int) (M14 : g_M) (H : Heap) (locs : List Loc) (ls : Array Slot), m_X9_layTakes_L2 x12 k15 f x13 M14 = some res → g_PT mG V M14 s H locs → lv_has ls 5 [(0, .ref (V.2.2 0)), (1, .int (gI x12)), (2, .int (gI x13))] → W p l e R s m args below meth c H locs 0 0 Q (F0 m 2 ls []) := by
  intro f
  induction f with
  | zero => intro x13 M14 H locs ls h hp hl; cases h
  | succ f ih =>
    intro x13 M14 H locs ls h hp hl
    rw [m_X9_layTakes_L2] at h
    refine lv_iload_n C.1 C.2.1 dX9_layTakes_2 rfl (lv_at hl 2 rfl) ?_
    refine r_bipush C dX9_layTakes_3 (by decide +kernel) ?_
    refine r_icmp_ge (tgt := 32) C h dX9_layTakes_5 (by decide) (fun h => ?_) (fun h => ?_)
    · exact hk15 _ _ _ _ h hp (lv_sub hl [0] rfl)
    · refine r_jn (P := fun J => ∀ (x17 : Int) (x18 : Int) (H : Heap) (locs : List Loc) (ls : Array Slot), J x17 x18 = some res → g_PT mG V M14 s H locs → lv_has ls 5 [(0, .ref (V.2.2 0)), (1, .int (gI x12)), (2, .int (gI x13))] → W p l e R s m args below meth c H locs 0 0 Q (F0 m 25 ls [.int (gI x17), .int (gI x18), .ref (V.2.2 10)])) h ?_ (fun J16 hJ16 h => ?_)
      · intro x17 x18 H locs ls h hp hl
        refine r_iast C hp h mk_10 ms_10 dX9_layTakes_25 (fun M19 H locs h hp => ?_)
        refine r_iinc (lv' := fun x20 => [(2, .int (gI x20)), (0, .ref (V.2.2 0)), (1, .int (gI x12))]) C h dX9_layTakes_26 hl (j := 2) rfl (by decide) (fun _ => rfl) (fun x20 ls h hl => ?_)
        refine r_goto (tgt := 2) C dX9_layTakes_29 (by decide) ?_
        exact ih _ _ _ _ _ h hp (lv_sub hl [1, 2, 0] rfl)
      refine lv_aload_n C.1 C.2.1 dX9_layTakes_8 rfl (lv_at hl 0 rfl) ?_
      refine r_getr (t := 10) C hp mk_0 ms_0 mc_0 min_0 (j := 28) (by decide) rfl gw_1284 rfl dX9_layTakes_9 ?_
      refine lv_iload_n C.1 C.2.1 dX9_layTakes_12 rfl (lv_at hl 2 rfl) ?_
      refine lv_iload_n C.1 C.2.1 dX9_layTakes_13 rfl (lv_at hl 2 rfl) ?_
      refine lv_iload_n C.1 C.2.1 dX9_layTakes_14 rfl (lv_at hl 1 rfl) ?_
      refine r_icmp_ne (tgt := 22) C h dX9_layTakes_15 (by decide) (fun h => ?_) (fun h => ?_)
      · refine r_ldcw (n := 1000000) C gw_1778 (by decide +kernel) dX9_layTakes_22 ?_
        exact hJ16 _ _ _ _ _ h hp hl
      · refine r_iconst C dX9_layTakes_18 ?_
        refine r_goto (tgt := 25) C dX9_layTakes_19 (by decide) ?_
        exact hJ16 _ _ _ _ _ h hp hl
set_option maxRecDepth 100000 in
set_option maxHeartbeats 4000000 in
theorem w_X9_layTakes_L51 (C : g_CX mG V p R s m args meth c cX9_layTakes 5 none RX9 1 22) {res : g_M} (hR : g_RetV mG V p l e R s m args below meth c Q cX9_layTakes res) (x32 : Int) (x33 : Int) (k36 : g_M → Option (g_M)) (hk36 : ∀ (M42 : g_M) (H : Heap) (locs : List Loc) (ls : Array Slot), k36 M42 = some res → g_PT mG V M42 s H locs → lv_has ls 5 [(0, .ref (V.2.2 0)), (2, .int (gI x32)), (3, .int (gI x33))] → W p l e R s m args below meth c H locs 0 0 Q (F0 m 100 ls [])) : ∀ (f : Nat) (x34 : Int) (M35 : g_M) (H : Heap) (locs : List Loc) (ls : Array Slot), m_X9_layTakes_L51 x32 x33 k36 f x34 M35 = some res → g_PT mG V M35 s H locs → lv_has ls 5 [(0, .ref (V.2.2 0)), (2, .int (gI x32)), (3, .int (gI x33)), (4, .int (gI x34))] → W p l e R s m args below meth c H locs 0 0 Q (F0 m 51 ls []) := by
  intro f
  induction f with
  | zero => intro x34 M35 H locs ls h hp hl; cases h
  | succ f ih =>
    intro x34 M35 H locs ls h hp hl
    rw [m_X9_layTakes_L51] at h
    refine lv_iload C.1 C.2.1 dX9_layTakes_51 (lv_at hl 3 rfl) ?_
    refine r_iconst C dX9_layTakes_53 ?_
    refine r_icmp_ge (tgt := 100) C h dX9_layTakes_54 (by decide) (fun h => ?_) (fun h => ?_)
    · exact hk36 _ _ _ _ h hp (lv_sub hl [0, 1, 2] rfl)
    · refine r_jn (P := fun J => ∀ (M40 : g_M) (H : Heap) (locs : List Loc) (ls : Array Slot), J M40 = some res → g_PT mG V M40 s H locs → lv_has ls 5 [(0, .ref (V.2.2 0)), (2, .int (gI x32)), (3, .int (gI x33)), (4, .int (gI x34))] → W p l e R s m args below meth c H locs 0 0 Q (F0 m 94 ls [])) h ?_ (fun J37 hJ37 h => ?_)
      · intro M40 H locs ls h hp hl
        refine r_iinc (lv' := fun x41 => [(4, .int (gI x41)), (0, .ref (V.2.2 0)), (2, .int (gI x32)), (3, .int (gI x33))]) C h dX9_layTakes_94 hl (j := 3) rfl (by decide) (fun _ => rfl) (fun x41 ls h hl => ?_)
        refine r_goto (tgt := 51) C dX9_layTakes_97 (by decide) ?_
        exact ih _ _ _ _ _ h hp (lv_sub hl [1, 2, 3, 0] rfl)
      refine lv_aload_n C.1 C.2.1 dX9_layTakes_57 rfl (lv_at hl 0 rfl) ?_
      refine r_getr (t := 10) C hp mk_0 ms_0 mc_0 min_0 (j := 28) (by decide) rfl gw_1284 rfl dX9_layTakes_58 ?_
      refine lv_iload_n C.1 C.2.1 dX9_layTakes_61 rfl (lv_at hl 2 rfl) ?_
      refine r_iald C hp h mk_10 ms_10 dX9_layTakes_62 (fun h => ?_)
      refine r_ldcw (n := 1000000) C gw_1778 (by decide +kernel) dX9_layTakes_63 ?_
      refine r_icmp_ne (tgt := 94) C h dX9_layTakes_66 (by decide) (fun h => ?_) (fun h => ?_)
      · exact hJ37 _ _ _ _ h hp hl
      · refine lv_aload_n C.1 C.2.1 dX9_layTakes_69 rfl (lv_at hl 0 rfl) ?_
        refine r_getr (t := 10) C hp mk_0 ms_0 mc_0 min_0 (j := 28) (by decide) rfl gw_1284 rfl dX9_layTakes_70 ?_
        refine lv_aload_n C.1 C.2.1 dX9_layTakes_73 rfl (lv_at hl 0 rfl) ?_
        refine lv_iload_n C.1 C.2.1 dX9_layTakes_74 rfl (lv_at hl 2 rfl) ?_
        refine lv_iload C.1 C.2.1 dX9_layTakes_75 (lv_at hl 3 rfl) ?_
        obtain ⟨x38, hr, h⟩ := bd_of h
        refine r_callVI (As := [.int (gI x33), .int (gI x34)]) (rest := [.ref (V.2.2 10)]) C hl.1 hp (c_X9_nextOf l C.2.2.2.2.2.2.2.2.2.2.2 hr) gw_1603 gw_1605 gw_81 mk_0 ms_0 mc_0 cal_X9_nextOf rfl rfl (Nat.le_of_ble_eq_true rfl) ⟨Nat.le_of_ble_eq_true rfl, Nat.le_of_ble_eq_true rfl⟩ dX9_layTakes_77 (fun H locs hp => ?_)
        refine r_iald C hp h mk_10 ms_10 dX9_layTakes_80 (fun h => ?_)
        refine lv_iload_n C.1 C.2.1 dX9_layTakes_81 rfl (lv_at hl 1 rfl) ?_
        refine r_iconst C dX9_layTakes_82 ?_
        refine r_isub C dX9_layTakes_83 ?_
        refine r_icmp_ne (tgt := 94) C h dX9_layTakes_84 (by decide) (fun h => ?_) (fun h => ?_)
        · exact hJ37 _ _ _ _ h hp hl
        · refine lv_aload_n C.1 C.2.1 dX9_layTakes_87 rfl (lv_at hl 0 rfl) ?_
          refine r_getr (t := 10) C hp mk_0 ms_0 mc_0 min_0 (j := 28) (by decide) rfl gw_1284 rfl dX9_layTakes_88 ?_
          refine lv_iload_n C.1 C.2.1 dX9_layTakes_91 rfl (lv_at hl 2 rfl) ?_
          refine lv_iload_n C.1 C.2.1 dX9_layTakes_92 rfl (lv_at hl 1 rfl) ?_
          refine r_iast C hp h mk_10 ms_10 dX9_layTakes_93 (fun M39 H locs h hp => ?_)
          exact hJ37 _ _ _ _ h hp hl
set_option maxRecDepth 100000 in
set_option maxHeartbeats 4000000 in
theorem w_X9_layTakes_L42 (C : g_CX mG V p R s m args meth c cX9_layTakes 5 none RX9 1 22) {res : g_M} (hR : g_RetV mG V p l e R s m args below meth c Q cX9_layTakes res) (x27 : Int) (k30 : g_M → Option (g_M)) (hk30 : ∀ (M45 : g_M) (H : Heap) (locs : List Loc) (ls : Array Slot), k30 M45 = some res → g_PT mG V M45 s H locs → lv_has ls 5 [(0, .ref (V.2.2 0)), (2, .int (gI x27))] → W p l e R s m args below meth c H locs 0 0 Q (F0 m 106 ls [])) : ∀ (f : Nat) (x28 : Int) (M29 : g_M) (H : Heap) (locs : List Loc) (ls : Array Slot), m_X9_layTakes_L42 x27 k30 f x28 M29 = some res → g_PT mG V M29 s H locs → lv_has ls 5 [(0, .ref (V.2.2 0)), (2, .int (gI x27)), (3, .int (gI x28))] → W p l e R s m args below meth c H locs 0 0 Q (F0 m 42 ls []) := by
  intro f
  induction f with
  | zero => intro x28 M29 H locs ls h hp hl; cases h
  | succ f ih =>
    intro x28 M29 H locs ls h hp hl
    rw [m_X9_layTakes_L42] at h
    refine lv_iload_n C.1 C.2.1 dX9_layTakes_42 rfl (lv_at hl 2 rfl) ?_
    refine r_bipush C dX9_layTakes_43 (by decide +kernel) ?_
    refine r_icmp_ge (tgt := 106) C h dX9_layTakes_45 (by decide) (fun h => ?_) (fun h => ?_)
    · exact hk30 _ _ _ _ h hp (lv_sub hl [0, 1] rfl)
    · refine r_iconst C dX9_layTakes_48 ?_
      refine r_istore (lv' := fun x31 => [(4, .int (gI x31)), (0, .ref (V.2.2 0)), (2, .int (gI x27)), (3, .int (gI x28))]) C h dX9_layTakes_49 hl (by decide) (fun _ => rfl) (fun x31 ls h hl => ?_)
      refine w_X9_layTakes_L51 C hR _ _ _ ?_ _ _ _ H locs ls h hp (lv_sub hl [1, 2, 3, 0] rfl)
      · intro M43 H locs ls h hp hl
        refine r_iinc (lv' := fun x44 => [(3, .int (gI x44)), (0, .ref (V.2.2 0)), (2, .int (gI x27))]) C h dX9_layTakes_100 hl (j := 2) rfl (by decide) (fun _ => rfl) (fun x44 ls h hl => ?_)
        refine r_goto (tgt := 42) C dX9_layTakes_103 (by decide) ?_
        exact ih _ _ _ _ _ h hp (lv_sub hl [1, 2, 0] rfl)
set_option maxRecDepth 100000 in
set_option maxHeartbeats 4000000 in
theorem w_X9_layTakes_L34 (C : g_CX mG V p R s m args meth c cX9_layTakes 5 none RX9 1 22) {res : g_M} (hR : g_RetV mG V p l e R s m args below meth c Q cX9_layTakes res)    : ∀ (f : Nat) (x24 : Int) (M25 : g_M) (H : Heap) (locs : List Loc) (ls : Array Slot), m_X9_layTakes_L34  f x24 M25 = some res → g_PT mG V M25 s H locs → lv_has ls 5 [(0, .ref (V.2.2 0)), (2, .int (gI x24))] → W p l e R s m args below meth c H locs 0 0 Q (F0 m 34 ls []) := by
  intro f
  induction f with
  | zero => intro x24 M25 H locs ls h hp hl; cases h
  | succ f ih =>
    intro x24 M25 H locs ls h hp hl
    rw [m_X9_layTakes_L34] at h
    refine lv_iload_n C.1 C.2.1 dX9_layTakes_34 rfl (lv_at hl 1 rfl) ?_
    refine r_bipush C dX9_layTakes_35 (by decide +kernel) ?_
    refine r_icmp_ge (tgt := 112) C h dX9_layTakes_37 (by decide) (fun h => ?_) (fun h => ?_)
    · cases h
      exact hR _ _ _ _ dX9_layTakes_112 hp
    · refine r_iconst C dX9_layTakes_40 ?_
      refine r_istore_n (lv' := fun x26 => [(3, .int (gI x26)), (0, .ref (V.2.2 0)), (2, .int (gI x24))]) C h dX9_layTakes_41 rfl hl (by decide) (fun _ => rfl) (fun x26 ls h hl => ?_)
      refine w_X9_layTakes_L42 C hR _ _ ?_ _ _ _ H locs ls h hp (lv_sub hl [1, 2, 0] rfl)
      · intro M46 H locs ls h hp hl
        refine r_iinc (lv' := fun x47 => [(2, .int (gI x47)), (0, .ref (V.2.2 0))]) C h dX9_layTakes_106 hl (j := 1) rfl (by decide) (fun _ => rfl) (fun x47 ls h hl => ?_)
        refine r_goto (tgt := 34) C dX9_layTakes_109 (by decide) ?_
        exact ih _ _ _ _ _ h hp (lv_sub hl [1, 0] rfl)
set_option maxRecDepth 100000 in
set_option maxHeartbeats 4000000 in
theorem b_X9_layTakes (C : g_CX mG V p R s m args meth c cX9_layTakes 5 none RX9 1 22) {res : g_M} (hR : g_RetV mG V p l e R s m args below meth c Q cX9_layTakes res) {a1 : Int} {M : g_M} {H : Heap} {locs : List Loc} {ls : Array Slot} (h : m_X9_layTakes a1 M = some res) (hp : g_PT mG V M s H locs) (hl : lv_has ls 5 [(0, .ref (V.2.2 0)), (1, .int (gI a1))]) : W p l e R s m args below meth c H locs 0 0 Q (F0 m 0 ls []) := by
  unfold m_X9_layTakes at h
  refine r_iconst C dX9_layTakes_0 ?_
  refine r_istore_n (lv' := fun x11 => [(2, .int (gI x11)), (0, .ref (V.2.2 0)), (1, .int (gI a1))]) C h dX9_layTakes_1 rfl hl (by decide) (fun _ => rfl) (fun x11 ls h hl => ?_)
  refine w_X9_layTakes_L2 C hR _ _ ?_ _ _ _ H locs ls h hp (lv_sub hl [1, 2, 0] rfl)
  · intro M22 H locs ls h hp hl
    refine r_iconst C dX9_layTakes_32 ?_
    refine r_istore_n (lv' := fun x23 => [(2, .int (gI x23)), (0, .ref (V.2.2 0))]) C h dX9_layTakes_33 rfl hl (by decide) (fun _ => rfl) (fun x23 ls h hl => ?_)
    refine w_X9_layTakes_L34 C hR _ _ _ H locs ls h hp (lv_sub hl [1, 0] rfl)
theorem c_X9_layTakes (l : Launch) {V : g_V} (hok : g_ok mG V) {a1 : Int} {M : g_M} {res : g_M} (h : m_X9_layTakes a1 M = some res) : MetV mG V l yX9_layTakes cX9_layTakes 5 none 1 22 [.ref (V.2.2 0), .int (gI a1)] M res :=
  g_metV hok cal_X9_layTakes.2.2.2 rfl (Nat.le_of_ble_eq_true rfl) (@fun p e R s m args below meth c Q ls C hR hp hl => b_X9_layTakes C hR h hp hl)
set_option maxRecDepth 100000 in
set_option maxHeartbeats 4000000 in
theorem w_X9_shortest_L83 (C : g_CX mG V p R s m args meth c cX9_shortest 7 (some .int) RX9 2 46) {res : Int × g_M} (hR : g_RetI mG V p l e R s m args below meth c Q cX9_shortest .int res.1 res.2) (x24 : Int) (x25 : Int) (x27 : Int) (M28 : g_M) (k29 : Int → Option (Int × g_M)) (hk29 : ∀ (x32 : Int) (H : Heap) (locs : List Loc) (ls : Array Slot), k29 x32 = some res → g_PT mG V M28 s H locs → lv_has ls 7 [(0, .ref (V.2.2 0)), (3, .int (gI x24)), (4, .int (gI x25)), (5, .int (gI x32)), (6, .int (gI x27))] → W p l e R s m args below meth c H locs 0 0 Q (F0 m 114 ls [])) : ∀ (f : Nat) (x26 : Int) (H : Heap) (locs : List Loc) (ls : Array Slot), m_X9_shortest_L83 x24 x25 x27 M28 k29 f x26 = some res → g_PT mG V M28 s H locs → lv_has ls 7 [(0, .ref (V.2.2 0)), (3, .int (gI x24)), (4, .int (gI x25)), (5, .int (gI x26)), (6, .int (gI x27))] → W p l e R s m args below meth c H locs 0 0 Q (F0 m 83 ls []) := by
  intro f
  induction f with
  | zero => intro x26 H locs ls h hp hl; cases h
  | succ f ih =>
    intro x26 H locs ls h hp hl
    rw [m_X9_shortest_L83] at h
    refine lv_aload_n C.1 C.2.1 dX9_shortest_83 rfl (lv_at hl 0 rfl) ?_
    refine r_getr (t := 10) C hp mk_0 ms_0 mc_0 min_0 (j := 28) (by decide) rfl gw_1284 rfl dX9_shortest_84 ?_
    refine lv_aload_n C.1 C.2.1 dX9_shortest_87 rfl (lv_at hl 0 rfl) ?_
    refine lv_iload C.1 C.2.1 dX9_shortest_88 (lv_at hl 2 rfl) ?_
    refine lv_iload C.1 C.2.1 dX9_shortest_90 (lv_at hl 3 rfl) ?_
    obtain ⟨x30, hr, h⟩ := bd_of h
    refine r_callVI (As := [.int (gI x25), .int (gI x26)]) (rest := [.ref (V.2.2 10)]) C hl.1 hp (c_X9_nextOf l C.2.2.2.2.2.2.2.2.2.2.2 hr) gw_1603 gw_1605 gw_81 mk_0 ms_0 mc_0 cal_X9_nextOf rfl rfl (Nat.le_of_ble_eq_true rfl) ⟨Nat.le_of_ble_eq_true rfl, Nat.le_of_ble_eq_true rfl⟩ dX9_shortest_92 (fun H locs hp => ?_)
    refine r_iald C hp h mk_10 ms_10 dX9_shortest_95 (fun h => ?_)
    refine lv_aload_n C.1 C.2.1 dX9_shortest_96 rfl (lv_at hl 0 rfl) ?_
    refine r_getr (t := 10) C hp mk_0 ms_0 mc_0 min_0 (j := 28) (by decide) rfl gw_1284 rfl dX9_shortest_97 ?_
    refine lv_iload C.1 C.2.1 dX9_shortest_100 (lv_at hl 2 rfl) ?_
    refine r_iald C hp h mk_10 ms_10 dX9_shortest_102 (fun h => ?_)
    refine r_iconst C dX9_shortest_103 ?_
    refine r_isub C dX9_shortest_104 ?_
    refine r_icmp_eq (tgt := 114) C h dX9_shortest_105 (by decide) (fun h => ?_) (fun h => ?_)
    · exact hk29 _ _ _ _ h hp hl
    · refine r_iinc (lv' := fun x31 => [(5, .int (gI x31)), (0, .ref (V.2.2 0)), (3, .int (gI x24)), (4, .int (gI x25)), (6, .int (gI x27))]) C h dX9_shortest_108 hl (j := 3) rfl (by decide) (fun _ => rfl) (fun x31 ls h hl => ?_)
      refine r_goto (tgt := 83) C dX9_shortest_111 (by decide) ?_
      exact ih _ _ _ _ h hp (lv_sub hl [1, 2, 3, 0, 4] rfl)
set_option maxRecDepth 100000 in
set_option maxHeartbeats 4000000 in
theorem w_X9_shortest_L74 (C : g_CX mG V p R s m args meth c cX9_shortest 7 (some .int) RX9 2 46) {res : Int × g_M} (hR : g_RetI mG V p l e R s m args below meth c Q cX9_shortest .int res.1 res.2) (x18 : Int) (M22 : g_M)   : ∀ (f : Nat) (x19 : Int) (x20 : Int) (x21 : Int) (H : Heap) (locs : List Loc) (ls : Array Slot), m_X9_shortest_L74 x18 M22  f x19 x20 x21 = some res → g_PT mG V M22 s H locs → lv_has ls 7 [(0, .ref (V.2.2 0)), (3, .int (gI x18)), (4, .int (gI x19)), (5, .int (gI x20)), (6, .int (gI x21))] → W p l e R s m args below meth c H locs 0 0 Q (F0 m 74 ls []) := by
  intro f
  induction f with
  | zero => intro x19 x20 x21 H locs ls h hp hl; cases h
  | succ f ih =>
    intro x19 x20 x21 H locs ls h hp hl
    rw [m_X9_shortest_L74] at h
    refine lv_iload C.1 C.2.1 dX9_shortest_74 (lv_at hl 4 rfl) ?_
    refine lv_iload_n C.1 C.2.1 dX9_shortest_76 rfl (lv_at hl 1 rfl) ?_
    refine r_icmp_gt (tgt := 130) C h dX9_shortest_77 (by decide) (fun h => ?_) (fun h => ?_)
    · refine lv_iload C.1 C.2.1 dX9_shortest_130 (lv_at hl 3 rfl) ?_
      cases h
      exact hR _ _ _ _ dX9_shortest_132 rfl hp
    · refine r_iconst C dX9_shortest_80 ?_
      refine r_istore (lv' := fun x23 => [(5, .int (gI x23)), (0, .ref (V.2.2 0)), (3, .int (gI x18)), (4, .int (gI x19)), (6, .int (gI x21))]) C h dX9_shortest_81 hl (by decide) (fun _ => rfl) (fun x23 ls h hl => ?_)
      refine w_X9_shortest_L83 C hR _ _ _ _ _ ?_ _ _ H locs ls h hp (lv_sub hl [1, 2, 3, 0, 4] rfl)
      · intro x33 H locs ls h hp hl
        refine lv_aload_n C.1 C.2.1 dX9_shortest_114 rfl (lv_at hl 0 rfl) ?_
        refine lv_iload C.1 C.2.1 dX9_shortest_115 (lv_at hl 2 rfl) ?_
        refine lv_iload C.1 C.2.1 dX9_shortest_117 (lv_at hl 3 rfl) ?_
        obtain ⟨x34, hr, h⟩ := bd_of h
        refine r_callVI (As := [.int (gI x19), .int (gI x33)]) (rest := []) C hl.1 hp (c_X9_nextOf l C.2.2.2.2.2.2.2.2.2.2.2 hr) gw_1603 gw_1605 gw_81 mk_0 ms_0 mc_0 cal_X9_nextOf rfl rfl (Nat.le_of_ble_eq_true rfl) ⟨Nat.le_of_ble_eq_true rfl, Nat.le_of_ble_eq_true rfl⟩ dX9_shortest_119 (fun H locs hp => ?_)
        refine r_istore (lv' := fun x35 => [(4, .int (gI x35)), (0, .ref (V.2.2 0)), (3, .int (gI x18)), (5, .int (gI x33)), (6, .int (gI x21))]) C h dX9_shortest_122 hl (by decide) (fun _ => rfl) (fun x35 ls h hl => ?_)
        refine r_iinc (lv' := fun x36 => [(6, .int (gI x36)), (4, .int (gI x35)), (0, .ref (V.2.2 0)), (3, .int (gI x18)), (5, .int (gI x33))]) C h dX9_shortest_124 hl (j := 4) rfl (by decide) (fun _ => rfl) (fun x36 ls h hl => ?_)
        refine r_goto (tgt := 74) C dX9_shortest_127 (by decide) ?_
        exact ih _ _ _ _ _ _ h hp (lv_sub hl [2, 3, 1, 4, 0] rfl)
set_option maxRecDepth 100000 in
set_option maxHeartbeats 4000000 in
theorem b_X9_shortest (C : g_CX mG V p R s m args meth c cX9_shortest 7 (some .int) RX9 2 46) {res : Int × g_M} (hR : g_RetI mG V p l e R s m args below meth c Q cX9_shortest .int res.1 res.2) {a1 : Int} {a2 : Int} {a3 : Int} {M : g_M} {H : Heap} {locs : List Loc} {ls : Array Slot} (h : m_X9_shortest a1 a2 a3 M = some res) (hp : g_PT mG V M s H locs) (hl : lv_has ls 7 [(0, .ref (V.2.2 0)), (1, .int (gI a1)), (2, .int (gI a2)), (3, .int (gI a3))]) : W p l e R s m args below meth c H locs 0 0 Q (F0 m 0 ls []) := by
  unfold m_X9_shortest at h
  refine lv_iload_n C.1 C.2.1 dX9_shortest_0 rfl (lv_at hl 1 rfl) ?_
  obtain ⟨x11, hr, h⟩ := bd_of h
  refine r_callSI (As := [.int (gI a1)]) (rest := []) C hl.1 hp (c_X9_isAny l C.2.2.2.2.2.2.2.2.2.2.2 hr) gw_1388 gw_1389 cal_X9_isAny rfl rfl (Nat.le_of_ble_eq_true rfl) ⟨Nat.le_of_ble_eq_true rfl, Nat.le_of_ble_eq_true rfl⟩ dX9_shortest_1 (fun H locs hp => ?_)
  refine r_if_eq (tgt := 14) C h dX9_shortest_4 (by decide) (fun h => ?_) (fun h => ?_)
  · refine r_bipush C dX9_shortest_14 (by decide +kernel) ?_
    cases h
    exact hR _ _ _ _ dX9_shortest_16 rfl hp
  · refine lv_iload_n C.1 C.2.1 dX9_shortest_7 rfl (lv_at hl 2 rfl) ?_
    obtain ⟨x12, hr, h⟩ := bd_of h
    refine r_callSI (As := [.int (gI a2)]) (rest := []) C hl.1 hp (c_X9_isAny l C.2.2.2.2.2.2.2.2.2.2.2 hr) gw_1388 gw_1389 cal_X9_isAny rfl rfl (Nat.le_of_ble_eq_true rfl) ⟨Nat.le_of_ble_eq_true rfl, Nat.le_of_ble_eq_true rfl⟩ dX9_shortest_8 (fun H locs hp => ?_)
    refine r_if_ne (tgt := 17) C h dX9_shortest_11 (by decide) (fun h => ?_) (fun h => ?_)
    · refine lv_aload_n C.1 C.2.1 dX9_shortest_17 rfl (lv_at hl 0 rfl) ?_
      refine lv_iload_n C.1 C.2.1 dX9_shortest_18 rfl (lv_at hl 2 rfl) ?_
      obtain ⟨M13, hr, h⟩ := bd_of h
      refine r_callVV (As := [.int (gI a2)]) (rest := []) C hl.1 hp (c_X9_layTakes l C.2.2.2.2.2.2.2.2.2.2.2 hr) gw_1774 gw_1776 gw_99 mk_0 ms_0 mc_0 cal_X9_layTakes rfl rfl (Nat.le_of_ble_eq_true rfl) ⟨Nat.le_of_ble_eq_true rfl, Nat.le_of_ble_eq_true rfl⟩ dX9_shortest_19 (fun H locs hp => ?_)
      refine lv_aload_n C.1 C.2.1 dX9_shortest_22 rfl (lv_at hl 0 rfl) ?_
      refine r_getr (t := 10) C hp mk_0 ms_0 mc_0 min_0 (j := 28) (by decide) rfl gw_1284 rfl dX9_shortest_23 ?_
      refine lv_iload_n C.1 C.2.1 dX9_shortest_26 rfl (lv_at hl 1 rfl) ?_
      refine r_iald C hp h mk_10 ms_10 dX9_shortest_27 (fun h => ?_)
      refine r_ldcw (n := 1000000) C gw_1778 (by decide +kernel) dX9_shortest_28 ?_
      refine r_icmp_eq (tgt := 50) C h dX9_shortest_31 (by decide) (fun h => ?_) (fun h => ?_)
      · refine r_bipush C dX9_shortest_50 (by decide +kernel) ?_
        cases h
        exact hR _ _ _ _ dX9_shortest_52 rfl hp
      · refine lv_iload_n C.1 C.2.1 dX9_shortest_34 rfl (lv_at hl 3 rfl) ?_
        refine r_iconst C dX9_shortest_35 ?_
        refine lv_aload_n C.1 C.2.1 dX9_shortest_36 rfl (lv_at hl 0 rfl) ?_
        refine r_getr (t := 10) C hp mk_0 ms_0 mc_0 min_0 (j := 28) (by decide) rfl gw_1284 rfl dX9_shortest_37 ?_
        refine lv_iload_n C.1 C.2.1 dX9_shortest_40 rfl (lv_at hl 1 rfl) ?_
        refine r_iald C hp h mk_10 ms_10 dX9_shortest_41 (fun h => ?_)
        refine r_iconst C dX9_shortest_42 ?_
        refine r_isub C dX9_shortest_43 ?_
        obtain ⟨x14, hr, h⟩ := bd_of h
        refine r_callSI (As := [.int (gI a3), .int (gI (-1)), .int (gI ((M13 10 (gs a1).toNat) - 1))]) (rest := []) C hl.1 hp (c_X9_isIn l C.2.2.2.2.2.2.2.2.2.2.2 hr) gw_1378 gw_1379 cal_X9_isIn rfl rfl (Nat.le_of_ble_eq_true rfl) ⟨Nat.le_of_ble_eq_true rfl, Nat.le_of_ble_eq_true rfl⟩ dX9_shortest_44 (fun H locs hp => ?_)
        refine r_if_ne (tgt := 53) C h dX9_shortest_47 (by decide) (fun h => ?_) (fun h => ?_)
        · refine lv_iload_n C.1 C.2.1 dX9_shortest_53 rfl (lv_at hl 3 rfl) ?_
          refine r_iconst C dX9_shortest_54 ?_
          refine r_icmp_ne (tgt := 65) C h dX9_shortest_55 (by decide) (fun h => ?_) (fun h => ?_)
          · refine lv_iload_n C.1 C.2.1 dX9_shortest_65 rfl (lv_at hl 1 rfl) ?_
            refine r_istore (lv' := fun x15 => [(4, .int (gI x15)), (0, .ref (V.2.2 0)), (1, .int (gI a1)), (2, .int (gI a2)), (3, .int (gI a3))]) C h dX9_shortest_66 hl (by decide) (fun _ => rfl) (fun x15 ls h hl => ?_)
            refine r_iconst C dX9_shortest_68 ?_
            refine r_istore (lv' := fun x16 => [(5, .int (gI x16)), (4, .int (gI x15)), (0, .ref (V.2.2 0)), (1, .int (gI a1)), (2, .int (gI a2)), (3, .int (gI a3))]) C h dX9_shortest_69 hl (by decide) (fun _ => rfl) (fun x16 ls h hl => ?_)
            refine r_iconst C dX9_shortest_71 ?_
            refine r_istore (lv' := fun x17 => [(6, .int (gI x17)), (5, .int (gI x16)), (4, .int (gI x15)), (0, .ref (V.2.2 0)), (1, .int (gI a1)), (2, .int (gI a2)), (3, .int (gI a3))]) C h dX9_shortest_72 hl (by decide) (fun _ => rfl) (fun x17 ls h hl => ?_)
            refine w_X9_shortest_L74 C hR _ _ _ _ _ _ H locs ls h hp (lv_sub hl [3, 6, 2, 1, 0] rfl)
          · refine lv_aload_n C.1 C.2.1 dX9_shortest_58 rfl (lv_at hl 0 rfl) ?_
            refine r_getr (t := 10) C hp mk_0 ms_0 mc_0 min_0 (j := 28) (by decide) rfl gw_1284 rfl dX9_shortest_59 ?_
            refine lv_iload_n C.1 C.2.1 dX9_shortest_62 rfl (lv_at hl 1 rfl) ?_
            refine r_iald C hp h mk_10 ms_10 dX9_shortest_63 (fun h => ?_)
            cases h
            exact hR _ _ _ _ dX9_shortest_64 rfl hp
        · refine r_bipush C dX9_shortest_50 (by decide +kernel) ?_
          cases h
          exact hR _ _ _ _ dX9_shortest_52 rfl hp
    · refine r_bipush C dX9_shortest_14 (by decide +kernel) ?_
      cases h
      exact hR _ _ _ _ dX9_shortest_16 rfl hp
theorem c_X9_shortest (l : Launch) {V : g_V} (hok : g_ok mG V) {a1 : Int} {a2 : Int} {a3 : Int} {M : g_M} {x : Int} {M2 : g_M} (h : m_X9_shortest a1 a2 a3 M = some (x, M2)) : MetI mG V l yX9_shortest cX9_shortest 7 (some .int) 2 46 [.ref (V.2.2 0), .int (gI a1), .int (gI a2), .int (gI a3)] M x M2 :=
  g_metI hok cal_X9_shortest.2.2.2 rfl (Nat.le_of_ble_eq_true rfl) (@fun p e R s m args below meth c Q ls C hR hp hl => b_X9_shortest C hR h hp hl)
end
