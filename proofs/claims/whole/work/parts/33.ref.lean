theorem dX9_two_0 : decode cX9_two 0 = .ok (.iload_n 0, 1) := by decide +kernel
theorem dX9_two_1 : decode cX9_two 1 = .ok (.tableswitch 48 5 7 #[27, 34, 41], 27) := by decide +kernel
theorem dX9_two_28 : decode cX9_two 28 = .ok (.lload_n 1, 1) := by decide +kernel
theorem dX9_two_29 : decode cX9_two 29 = .ok (.lload_n 3, 1) := by decide +kernel
theorem dX9_two_30 : decode cX9_two 30 = .ok (.ladd, 1) := by decide +kernel
theorem dX9_two_31 : decode cX9_two 31 = .ok (.invokestatic 283, 3) := by decide +kernel
theorem dX9_two_34 : decode cX9_two 34 = .ok (.lreturn, 1) := by decide +kernel
theorem dX9_two_35 : decode cX9_two 35 = .ok (.lload_n 1, 1) := by decide +kernel
theorem dX9_two_36 : decode cX9_two 36 = .ok (.lload_n 3, 1) := by decide +kernel
theorem dX9_two_37 : decode cX9_two 37 = .ok (.lsub, 1) := by decide +kernel
theorem dX9_two_38 : decode cX9_two 38 = .ok (.invokestatic 283, 3) := by decide +kernel
theorem dX9_two_41 : decode cX9_two 41 = .ok (.lreturn, 1) := by decide +kernel
theorem dX9_two_42 : decode cX9_two 42 = .ok (.lload_n 1, 1) := by decide +kernel
theorem dX9_two_43 : decode cX9_two 43 = .ok (.lload_n 3, 1) := by decide +kernel
theorem dX9_two_44 : decode cX9_two 44 = .ok (.lmul, 1) := by decide +kernel
theorem dX9_two_45 : decode cX9_two 45 = .ok (.invokestatic 283, 3) := by decide +kernel
theorem dX9_two_48 : decode cX9_two 48 = .ok (.lreturn, 1) := by decide +kernel
theorem dX9_two_49 : decode cX9_two 49 = .ok (.lload_n 3, 1) := by decide +kernel
theorem dX9_two_50 : decode cX9_two 50 = .ok (.lconst 0, 1) := by decide +kernel
theorem dX9_two_51 : decode cX9_two 51 = .ok (.lcmp, 1) := by decide +kernel
theorem dX9_two_52 : decode cX9_two 52 = .ok (.ifCond .ne 7, 3) := by decide +kernel
theorem dX9_two_55 : decode cX9_two 55 = .ok (.lconst 0, 1) := by decide +kernel
theorem dX9_two_56 : decode cX9_two 56 = .ok (.goto 9, 3) := by decide +kernel
theorem dX9_two_59 : decode cX9_two 59 = .ok (.lload_n 1, 1) := by decide +kernel
theorem dX9_two_60 : decode cX9_two 60 = .ok (.lload_n 3, 1) := by decide +kernel
theorem dX9_two_61 : decode cX9_two 61 = .ok (.ldiv, 1) := by decide +kernel
theorem dX9_two_62 : decode cX9_two 62 = .ok (.invokestatic 283, 3) := by decide +kernel
theorem dX9_two_65 : decode cX9_two 65 = .ok (.lreturn, 1) := by decide +kernel
theorem dX9_isAsked_0 : decode cX9_isAsked 0 = .ok (.iload_n 0, 1) := by decide +kernel
theorem dX9_isAsked_1 : decode cX9_isAsked 1 = .ok (.bipush 10, 2) := by decide +kernel
theorem dX9_isAsked_3 : decode cX9_isAsked 3 = .ok (.if_icmp .ne 17, 3) := by decide +kernel
theorem dX9_isAsked_6 : decode cX9_isAsked 6 = .ok (.lload_n 1, 1) := by decide +kernel
theorem dX9_isAsked_7 : decode cX9_isAsked 7 = .ok (.lload_n 3, 1) := by decide +kernel
theorem dX9_isAsked_8 : decode cX9_isAsked 8 = .ok (.lcmp, 1) := by decide +kernel
theorem dX9_isAsked_9 : decode cX9_isAsked 9 = .ok (.ifCond .ge 7, 3) := by decide +kernel
theorem dX9_isAsked_12 : decode cX9_isAsked 12 = .ok (.iconst 1, 1) := by decide +kernel
theorem dX9_isAsked_13 : decode cX9_isAsked 13 = .ok (.goto 98, 3) := by decide +kernel
theorem dX9_isAsked_16 : decode cX9_isAsked 16 = .ok (.iconst 0, 1) := by decide +kernel
theorem dX9_isAsked_17 : decode cX9_isAsked 17 = .ok (.goto 94, 3) := by decide +kernel
theorem dX9_isAsked_20 : decode cX9_isAsked 20 = .ok (.iload_n 0, 1) := by decide +kernel
theorem dX9_isAsked_21 : decode cX9_isAsked 21 = .ok (.bipush 11, 2) := by decide +kernel
theorem dX9_isAsked_23 : decode cX9_isAsked 23 = .ok (.if_icmp .ne 17, 3) := by decide +kernel
theorem dX9_isAsked_26 : decode cX9_isAsked 26 = .ok (.lload_n 1, 1) := by decide +kernel
theorem dX9_isAsked_27 : decode cX9_isAsked 27 = .ok (.lload_n 3, 1) := by decide +kernel
theorem dX9_isAsked_28 : decode cX9_isAsked 28 = .ok (.lcmp, 1) := by decide +kernel
theorem dX9_isAsked_29 : decode cX9_isAsked 29 = .ok (.ifCond .gt 7, 3) := by decide +kernel
theorem dX9_isAsked_32 : decode cX9_isAsked 32 = .ok (.iconst 1, 1) := by decide +kernel
theorem dX9_isAsked_33 : decode cX9_isAsked 33 = .ok (.goto 78, 3) := by decide +kernel
theorem dX9_isAsked_36 : decode cX9_isAsked 36 = .ok (.iconst 0, 1) := by decide +kernel
theorem dX9_isAsked_37 : decode cX9_isAsked 37 = .ok (.goto 74, 3) := by decide +kernel
theorem dX9_isAsked_40 : decode cX9_isAsked 40 = .ok (.iload_n 0, 1) := by decide +kernel
theorem dX9_isAsked_41 : decode cX9_isAsked 41 = .ok (.bipush 12, 2) := by decide +kernel
theorem dX9_isAsked_43 : decode cX9_isAsked 43 = .ok (.if_icmp .ne 17, 3) := by decide +kernel
theorem dX9_isAsked_46 : decode cX9_isAsked 46 = .ok (.lload_n 1, 1) := by decide +kernel
theorem dX9_isAsked_47 : decode cX9_isAsked 47 = .ok (.lload_n 3, 1) := by decide +kernel
theorem dX9_isAsked_48 : decode cX9_isAsked 48 = .ok (.lcmp, 1) := by decide +kernel
theorem dX9_isAsked_49 : decode cX9_isAsked 49 = .ok (.ifCond .le 7, 3) := by decide +kernel
theorem dX9_isAsked_52 : decode cX9_isAsked 52 = .ok (.iconst 1, 1) := by decide +kernel
theorem dX9_isAsked_53 : decode cX9_isAsked 53 = .ok (.goto 58, 3) := by decide +kernel
theorem dX9_isAsked_56 : decode cX9_isAsked 56 = .ok (.iconst 0, 1) := by decide +kernel
theorem dX9_isAsked_57 : decode cX9_isAsked 57 = .ok (.goto 54, 3) := by decide +kernel
theorem dX9_isAsked_60 : decode cX9_isAsked 60 = .ok (.iload_n 0, 1) := by decide +kernel
theorem dX9_isAsked_61 : decode cX9_isAsked 61 = .ok (.bipush 13, 2) := by decide +kernel
theorem dX9_isAsked_63 : decode cX9_isAsked 63 = .ok (.if_icmp .ne 17, 3) := by decide +kernel
theorem dX9_isAsked_66 : decode cX9_isAsked 66 = .ok (.lload_n 1, 1) := by decide +kernel
theorem dX9_isAsked_67 : decode cX9_isAsked 67 = .ok (.lload_n 3, 1) := by decide +kernel
theorem dX9_isAsked_68 : decode cX9_isAsked 68 = .ok (.lcmp, 1) := by decide +kernel
theorem dX9_isAsked_69 : decode cX9_isAsked 69 = .ok (.ifCond .lt 7, 3) := by decide +kernel
theorem dX9_isAsked_72 : decode cX9_isAsked 72 = .ok (.iconst 1, 1) := by decide +kernel
theorem dX9_isAsked_73 : decode cX9_isAsked 73 = .ok (.goto 38, 3) := by decide +kernel
theorem dX9_isAsked_76 : decode cX9_isAsked 76 = .ok (.iconst 0, 1) := by decide +kernel
theorem dX9_isAsked_77 : decode cX9_isAsked 77 = .ok (.goto 34, 3) := by decide +kernel
theorem dX9_isAsked_80 : decode cX9_isAsked 80 = .ok (.iload_n 0, 1) := by decide +kernel
theorem dX9_isAsked_81 : decode cX9_isAsked 81 = .ok (.bipush 14, 2) := by decide +kernel
theorem dX9_isAsked_83 : decode cX9_isAsked 83 = .ok (.if_icmp .ne 17, 3) := by decide +kernel
theorem dX9_isAsked_86 : decode cX9_isAsked 86 = .ok (.lload_n 1, 1) := by decide +kernel
theorem dX9_isAsked_87 : decode cX9_isAsked 87 = .ok (.lload_n 3, 1) := by decide +kernel
theorem dX9_isAsked_88 : decode cX9_isAsked 88 = .ok (.lcmp, 1) := by decide +kernel
theorem dX9_isAsked_89 : decode cX9_isAsked 89 = .ok (.ifCond .ne 7, 3) := by decide +kernel
theorem dX9_isAsked_92 : decode cX9_isAsked 92 = .ok (.iconst 1, 1) := by decide +kernel
theorem dX9_isAsked_93 : decode cX9_isAsked 93 = .ok (.goto 18, 3) := by decide +kernel
theorem dX9_isAsked_96 : decode cX9_isAsked 96 = .ok (.iconst 0, 1) := by decide +kernel
theorem dX9_isAsked_97 : decode cX9_isAsked 97 = .ok (.goto 14, 3) := by decide +kernel
theorem dX9_isAsked_100 : decode cX9_isAsked 100 = .ok (.lload_n 1, 1) := by decide +kernel
theorem dX9_isAsked_101 : decode cX9_isAsked 101 = .ok (.lload_n 3, 1) := by decide +kernel
theorem dX9_isAsked_102 : decode cX9_isAsked 102 = .ok (.lcmp, 1) := by decide +kernel
theorem dX9_isAsked_103 : decode cX9_isAsked 103 = .ok (.ifCond .eq 7, 3) := by decide +kernel
theorem dX9_isAsked_106 : decode cX9_isAsked 106 = .ok (.iconst 1, 1) := by decide +kernel
theorem dX9_isAsked_107 : decode cX9_isAsked 107 = .ok (.goto 4, 3) := by decide +kernel
theorem dX9_isAsked_110 : decode cX9_isAsked 110 = .ok (.iconst 0, 1) := by decide +kernel
theorem dX9_isAsked_111 : decode cX9_isAsked 111 = .ok (.ireturn, 1) := by decide +kernel
theorem dX9_kindOf_0 : decode cX9_kindOf 0 = .ok (.lload_n 1, 1) := by decide +kernel
theorem dX9_kindOf_1 : decode cX9_kindOf 1 = .ok (.lconst 0, 1) := by decide +kernel
theorem dX9_kindOf_2 : decode cX9_kindOf 2 = .ok (.lcmp, 1) := by decide +kernel
theorem dX9_kindOf_3 : decode cX9_kindOf 3 = .ok (.ifCond .lt 25, 3) := by decide +kernel
theorem dX9_kindOf_6 : decode cX9_kindOf 6 = .ok (.lload_n 1, 1) := by decide +kernel
theorem dX9_kindOf_7 : decode cX9_kindOf 7 = .ok (.ldc2_w 287, 3) := by decide +kernel
theorem dX9_kindOf_10 : decode cX9_kindOf 10 = .ok (.lcmp, 1) := by decide +kernel
theorem dX9_kindOf_11 : decode cX9_kindOf 11 = .ok (.ifCond .ge 17, 3) := by decide +kernel
theorem dX9_kindOf_14 : decode cX9_kindOf 14 = .ok (.aload_n 0, 1) := by decide +kernel
theorem dX9_kindOf_15 : decode cX9_kindOf 15 = .ok (.getfield 7, 3) := by decide +kernel
theorem dX9_kindOf_18 : decode cX9_kindOf 18 = .ok (.bipush 114, 2) := by decide +kernel
theorem dX9_kindOf_20 : decode cX9_kindOf 20 = .ok (.lload_n 1, 1) := by decide +kernel
theorem dX9_kindOf_21 : decode cX9_kindOf 21 = .ok (.l2i, 1) := by decide +kernel
theorem dX9_kindOf_22 : decode cX9_kindOf 22 = .ok (.iadd, 1) := by decide +kernel
theorem dX9_kindOf_23 : decode cX9_kindOf 23 = .ok (.iaload, 1) := by decide +kernel
theorem dX9_kindOf_24 : decode cX9_kindOf 24 = .ok (.i2l, 1) := by decide +kernel
theorem dX9_kindOf_25 : decode cX9_kindOf 25 = .ok (.goto 4, 3) := by decide +kernel
theorem dX9_kindOf_28 : decode cX9_kindOf 28 = .ok (.lconst 0, 1) := by decide +kernel
theorem dX9_kindOf_29 : decode cX9_kindOf 29 = .ok (.lreturn, 1) := by decide +kernel
theorem dX9_restOf_0 : decode cX9_restOf 0 = .ok (.lload_n 2, 1) := by decide +kernel
theorem dX9_restOf_1 : decode cX9_restOf 1 = .ok (.lconst 0, 1) := by decide +kernel
theorem dX9_restOf_2 : decode cX9_restOf 2 = .ok (.lcmp, 1) := by decide +kernel
theorem dX9_restOf_3 : decode cX9_restOf 3 = .ok (.ifCond .ne 7, 3) := by decide +kernel
theorem dX9_restOf_6 : decode cX9_restOf 6 = .ok (.lconst 0, 1) := by decide +kernel
theorem dX9_restOf_7 : decode cX9_restOf 7 = .ok (.goto 6, 3) := by decide +kernel
theorem dX9_restOf_10 : decode cX9_restOf 10 = .ok (.lload_n 0, 1) := by decide +kernel
theorem dX9_restOf_11 : decode cX9_restOf 11 = .ok (.lload_n 2, 1) := by decide +kernel
theorem dX9_restOf_12 : decode cX9_restOf 12 = .ok (.lrem, 1) := by decide +kernel
theorem dX9_restOf_13 : decode cX9_restOf 13 = .ok (.lreturn, 1) := by decide +kernel
theorem dX9_joined_0 : decode cX9_joined 0 = .ok (.iload_n 0, 1) := by decide +kernel
theorem dX9_joined_1 : decode cX9_joined 1 = .ok (.bipush 21, 2) := by decide +kernel
theorem dX9_joined_3 : decode cX9_joined 3 = .ok (.if_icmp .ne 19, 3) := by decide +kernel
theorem dX9_joined_6 : decode cX9_joined 6 = .ok (.iload_n 1, 1) := by decide +kernel
theorem dX9_joined_7 : decode cX9_joined 7 = .ok (.ifCond .eq 11, 3) := by decide +kernel
theorem dX9_joined_10 : decode cX9_joined 10 = .ok (.iload_n 2, 1) := by decide +kernel
theorem dX9_joined_11 : decode cX9_joined 11 = .ok (.ifCond .eq 7, 3) := by decide +kernel
theorem dX9_joined_14 : decode cX9_joined 14 = .ok (.iconst 1, 1) := by decide +kernel
theorem dX9_joined_15 : decode cX9_joined 15 = .ok (.goto 20, 3) := by decide +kernel
theorem dX9_joined_18 : decode cX9_joined 18 = .ok (.iconst 0, 1) := by decide +kernel
theorem dX9_joined_19 : decode cX9_joined 19 = .ok (.goto 16, 3) := by decide +kernel
theorem dX9_joined_22 : decode cX9_joined 22 = .ok (.iload_n 1, 1) := by decide +kernel
theorem dX9_joined_23 : decode cX9_joined 23 = .ok (.ifCond .ne 7, 3) := by decide +kernel
theorem dX9_joined_26 : decode cX9_joined 26 = .ok (.iload_n 2, 1) := by decide +kernel
theorem dX9_joined_27 : decode cX9_joined 27 = .ok (.ifCond .eq 7, 3) := by decide +kernel
theorem dX9_joined_30 : decode cX9_joined 30 = .ok (.iconst 1, 1) := by decide +kernel
theorem dX9_joined_31 : decode cX9_joined 31 = .ok (.goto 4, 3) := by decide +kernel
theorem dX9_joined_34 : decode cX9_joined 34 = .ok (.iconst 0, 1) := by decide +kernel
theorem dX9_joined_35 : decode cX9_joined 35 = .ok (.ireturn, 1) := by decide +kernel
theorem dX9_summedUp_0 : decode cX9_summedUp 0 = .ok (.sipush 705, 3) := by decide +kernel
theorem dX9_summedUp_3 : decode cX9_summedUp 3 = .ok (.iload_n 1, 1) := by decide +kernel
theorem dX9_summedUp_4 : decode cX9_summedUp 4 = .ok (.imul, 1) := by decide +kernel
theorem dX9_summedUp_5 : decode cX9_summedUp 5 = .ok (.iconst 1, 1) := by decide +kernel
theorem dX9_summedUp_6 : decode cX9_summedUp 6 = .ok (.iadd, 1) := by decide +kernel
theorem dX9_summedUp_7 : decode cX9_summedUp 7 = .ok (.iconst 4, 1) := by decide +kernel
theorem dX9_summedUp_8 : decode cX9_summedUp 8 = .ok (.iload_n 2, 1) := by decide +kernel
theorem dX9_summedUp_9 : decode cX9_summedUp 9 = .ok (.imul, 1) := by decide +kernel
theorem dX9_summedUp_10 : decode cX9_summedUp 10 = .ok (.iadd, 1) := by decide +kernel
theorem dX9_summedUp_11 : decode cX9_summedUp 11 = .ok (.istore_n 3, 1) := by decide +kernel
theorem dX9_summedUp_12 : decode cX9_summedUp 12 = .ok (.sipush 705, 3) := by decide +kernel
theorem dX9_summedUp_15 : decode cX9_summedUp 15 = .ok (.iload_n 1, 1) := by decide +kernel
theorem dX9_summedUp_16 : decode cX9_summedUp 16 = .ok (.imul, 1) := by decide +kernel
theorem dX9_summedUp_17 : decode cX9_summedUp 17 = .ok (.bipush 97, 2) := by decide +kernel
theorem dX9_summedUp_19 : decode cX9_summedUp 19 = .ok (.iadd, 1) := by decide +kernel
theorem dX9_summedUp_20 : decode cX9_summedUp 20 = .ok (.istore 4, 2) := by decide +kernel
theorem dX9_summedUp_22 : decode cX9_summedUp 22 = .ok (.iconst 0, 1) := by decide +kernel
theorem dX9_summedUp_23 : decode cX9_summedUp 23 = .ok (.istore 5, 2) := by decide +kernel
theorem dX9_summedUp_25 : decode cX9_summedUp 25 = .ok (.iconst 0, 1) := by decide +kernel
theorem dX9_summedUp_26 : decode cX9_summedUp 26 = .ok (.istore 6, 2) := by decide +kernel
theorem dX9_summedUp_28 : decode cX9_summedUp 28 = .ok (.aload_n 0, 1) := by decide +kernel
theorem dX9_summedUp_29 : decode cX9_summedUp 29 = .ok (.getfield 16, 3) := by decide +kernel
theorem dX9_summedUp_32 : decode cX9_summedUp 32 = .ok (.iload_n 3, 1) := by decide +kernel
theorem dX9_summedUp_33 : decode cX9_summedUp 33 = .ok (.iconst 1, 1) := by decide +kernel
theorem dX9_summedUp_34 : decode cX9_summedUp 34 = .ok (.iadd, 1) := by decide +kernel
theorem dX9_summedUp_35 : decode cX9_summedUp 35 = .ok (.iaload, 1) := by decide +kernel
theorem dX9_summedUp_36 : decode cX9_summedUp 36 = .ok (.istore 7, 2) := by decide +kernel
theorem dX9_summedUp_38 : decode cX9_summedUp 38 = .ok (.iload 7, 2) := by decide +kernel
theorem dX9_summedUp_40 : decode cX9_summedUp 40 = .ok (.aload_n 0, 1) := by decide +kernel
theorem dX9_summedUp_41 : decode cX9_summedUp 41 = .ok (.getfield 16, 3) := by decide +kernel
theorem dX9_summedUp_44 : decode cX9_summedUp 44 = .ok (.iload_n 3, 1) := by decide +kernel
theorem dX9_summedUp_45 : decode cX9_summedUp 45 = .ok (.iconst 2, 1) := by decide +kernel
theorem dX9_summedUp_46 : decode cX9_summedUp 46 = .ok (.iadd, 1) := by decide +kernel
theorem dX9_summedUp_47 : decode cX9_summedUp 47 = .ok (.iaload, 1) := by decide +kernel
theorem dX9_summedUp_48 : decode cX9_summedUp 48 = .ok (.if_icmp .ge 353, 3) := by decide +kernel
theorem dX9_summedUp_51 : decode cX9_summedUp 51 = .ok (.aload_n 0, 1) := by decide +kernel
theorem dX9_summedUp_52 : decode cX9_summedUp 52 = .ok (.getfield 16, 3) := by decide +kernel
theorem dX9_summedUp_55 : decode cX9_summedUp 55 = .ok (.iload 4, 2) := by decide +kernel
theorem dX9_summedUp_57 : decode cX9_summedUp 57 = .ok (.iconst 2, 1) := by decide +kernel
theorem dX9_summedUp_58 : decode cX9_summedUp 58 = .ok (.iload 7, 2) := by decide +kernel
theorem dX9_summedUp_60 : decode cX9_summedUp 60 = .ok (.imul, 1) := by decide +kernel
theorem dX9_summedUp_61 : decode cX9_summedUp 61 = .ok (.iadd, 1) := by decide +kernel
theorem dX9_summedUp_62 : decode cX9_summedUp 62 = .ok (.iaload, 1) := by decide +kernel
theorem dX9_summedUp_63 : decode cX9_summedUp 63 = .ok (.istore 8, 2) := by decide +kernel
theorem dX9_summedUp_65 : decode cX9_summedUp 65 = .ok (.aload_n 0, 1) := by decide +kernel
theorem dX9_summedUp_66 : decode cX9_summedUp 66 = .ok (.getfield 16, 3) := by decide +kernel
theorem dX9_summedUp_69 : decode cX9_summedUp 69 = .ok (.iload 4, 2) := by decide +kernel
theorem dX9_summedUp_71 : decode cX9_summedUp 71 = .ok (.iconst 2, 1) := by decide +kernel
theorem dX9_summedUp_72 : decode cX9_summedUp 72 = .ok (.iload 7, 2) := by decide +kernel
theorem dX9_summedUp_74 : decode cX9_summedUp 74 = .ok (.imul, 1) := by decide +kernel
theorem dX9_summedUp_75 : decode cX9_summedUp 75 = .ok (.iadd, 1) := by decide +kernel
theorem dX9_summedUp_76 : decode cX9_summedUp 76 = .ok (.iconst 1, 1) := by decide +kernel
theorem dX9_summedUp_77 : decode cX9_summedUp 77 = .ok (.iadd, 1) := by decide +kernel
theorem dX9_summedUp_78 : decode cX9_summedUp 78 = .ok (.iaload, 1) := by decide +kernel
theorem dX9_summedUp_79 : decode cX9_summedUp 79 = .ok (.istore 9, 2) := by decide +kernel
theorem dX9_summedUp_81 : decode cX9_summedUp 81 = .ok (.iload 8, 2) := by decide +kernel
theorem dX9_summedUp_83 : decode cX9_summedUp 83 = .ok (.iconst 1, 1) := by decide +kernel
theorem dX9_summedUp_84 : decode cX9_summedUp 84 = .ok (.if_icmp .gt 35, 3) := by decide +kernel
theorem dX9_summedUp_87 : decode cX9_summedUp 87 = .ok (.aload_n 0, 1) := by decide +kernel
theorem dX9_summedUp_88 : decode cX9_summedUp 88 = .ok (.getfield 35, 3) := by decide +kernel
theorem dX9_summedUp_91 : decode cX9_summedUp 91 = .ok (.iload 5, 2) := by decide +kernel
theorem dX9_summedUp_93 : decode cX9_summedUp 93 = .ok (.iload 8, 2) := by decide +kernel
theorem dX9_summedUp_95 : decode cX9_summedUp 95 = .ok (.ifCond .ne 9, 3) := by decide +kernel
theorem dX9_summedUp_98 : decode cX9_summedUp 98 = .ok (.iload 9, 2) := by decide +kernel
theorem dX9_summedUp_100 : decode cX9_summedUp 100 = .ok (.i2l, 1) := by decide +kernel
theorem dX9_summedUp_101 : decode cX9_summedUp 101 = .ok (.goto 11, 3) := by decide +kernel
theorem dX9_summedUp_104 : decode cX9_summedUp 104 = .ok (.aload_n 0, 1) := by decide +kernel
theorem dX9_summedUp_105 : decode cX9_summedUp 105 = .ok (.getfield 32, 3) := by decide +kernel
theorem dX9_summedUp_108 : decode cX9_summedUp 108 = .ok (.iload 9, 2) := by decide +kernel
theorem dX9_summedUp_110 : decode cX9_summedUp 110 = .ok (.iaload, 1) := by decide +kernel
theorem dX9_summedUp_111 : decode cX9_summedUp 111 = .ok (.i2l, 1) := by decide +kernel
theorem dX9_summedUp_112 : decode cX9_summedUp 112 = .ok (.lastore, 1) := by decide +kernel
theorem dX9_summedUp_113 : decode cX9_summedUp 113 = .ok (.iinc 5 1, 3) := by decide +kernel
theorem dX9_summedUp_116 : decode cX9_summedUp 116 = .ok (.goto 279, 3) := by decide +kernel
theorem dX9_summedUp_119 : decode cX9_summedUp 119 = .ok (.iload 8, 2) := by decide +kernel
theorem dX9_summedUp_121 : decode cX9_summedUp 121 = .ok (.iconst 3, 1) := by decide +kernel
theorem dX9_summedUp_122 : decode cX9_summedUp 122 = .ok (.if_icmp .ne 38, 3) := by decide +kernel
theorem dX9_summedUp_125 : decode cX9_summedUp 125 = .ok (.iinc 5 (-1), 3) := by decide +kernel
theorem dX9_summedUp_128 : decode cX9_summedUp 128 = .ok (.iinc 6 (-1), 3) := by decide +kernel
theorem dX9_summedUp_131 : decode cX9_summedUp 131 = .ok (.aload_n 0, 1) := by decide +kernel
theorem dX9_summedUp_132 : decode cX9_summedUp 132 = .ok (.getfield 39, 3) := by decide +kernel
theorem dX9_summedUp_135 : decode cX9_summedUp 135 = .ok (.iload 6, 2) := by decide +kernel
theorem dX9_summedUp_137 : decode cX9_summedUp 137 = .ok (.baload, 1) := by decide +kernel
theorem dX9_summedUp_138 : decode cX9_summedUp 138 = .ok (.ifCond .ne 257, 3) := by decide +kernel
theorem dX9_summedUp_141 : decode cX9_summedUp 141 = .ok (.aload_n 0, 1) := by decide +kernel
theorem dX9_summedUp_142 : decode cX9_summedUp 142 = .ok (.getfield 35, 3) := by decide +kernel
theorem dX9_summedUp_145 : decode cX9_summedUp 145 = .ok (.iload 5, 2) := by decide +kernel
theorem dX9_summedUp_147 : decode cX9_summedUp 147 = .ok (.iconst 1, 1) := by decide +kernel
theorem dX9_summedUp_148 : decode cX9_summedUp 148 = .ok (.isub, 1) := by decide +kernel
theorem dX9_summedUp_149 : decode cX9_summedUp 149 = .ok (.aload_n 0, 1) := by decide +kernel
theorem dX9_summedUp_150 : decode cX9_summedUp 150 = .ok (.getfield 35, 3) := by decide +kernel
theorem dX9_summedUp_153 : decode cX9_summedUp 153 = .ok (.iload 5, 2) := by decide +kernel
theorem dX9_summedUp_155 : decode cX9_summedUp 155 = .ok (.laload, 1) := by decide +kernel
theorem dX9_summedUp_156 : decode cX9_summedUp 156 = .ok (.lastore, 1) := by decide +kernel
theorem dX9_summedUp_157 : decode cX9_summedUp 157 = .ok (.goto 238, 3) := by decide +kernel
theorem dX9_summedUp_160 : decode cX9_summedUp 160 = .ok (.iload 8, 2) := by decide +kernel
theorem dX9_summedUp_162 : decode cX9_summedUp 162 = .ok (.iconst 4, 1) := by decide +kernel
theorem dX9_summedUp_163 : decode cX9_summedUp 163 = .ok (.if_icmp .gt 47, 3) := by decide +kernel
theorem dX9_summedUp_166 : decode cX9_summedUp 166 = .ok (.aload_n 0, 1) := by decide +kernel
theorem dX9_summedUp_167 : decode cX9_summedUp 167 = .ok (.getfield 35, 3) := by decide +kernel
theorem dX9_summedUp_170 : decode cX9_summedUp 170 = .ok (.iload 5, 2) := by decide +kernel
theorem dX9_summedUp_172 : decode cX9_summedUp 172 = .ok (.iconst 1, 1) := by decide +kernel
theorem dX9_summedUp_173 : decode cX9_summedUp 173 = .ok (.isub, 1) := by decide +kernel
theorem dX9_summedUp_174 : decode cX9_summedUp 174 = .ok (.iload 8, 2) := by decide +kernel
theorem dX9_summedUp_176 : decode cX9_summedUp 176 = .ok (.iconst 4, 1) := by decide +kernel
theorem dX9_summedUp_177 : decode cX9_summedUp 177 = .ok (.if_icmp .ne 16, 3) := by decide +kernel
theorem dX9_summedUp_180 : decode cX9_summedUp 180 = .ok (.aload_n 0, 1) := by decide +kernel
theorem dX9_summedUp_181 : decode cX9_summedUp 181 = .ok (.getfield 35, 3) := by decide +kernel
theorem dX9_summedUp_184 : decode cX9_summedUp 184 = .ok (.iload 5, 2) := by decide +kernel
theorem dX9_summedUp_186 : decode cX9_summedUp 186 = .ok (.iconst 1, 1) := by decide +kernel
theorem dX9_summedUp_187 : decode cX9_summedUp 187 = .ok (.isub, 1) := by decide +kernel
theorem dX9_summedUp_188 : decode cX9_summedUp 188 = .ok (.laload, 1) := by decide +kernel
theorem dX9_summedUp_189 : decode cX9_summedUp 189 = .ok (.lneg, 1) := by decide +kernel
theorem dX9_summedUp_190 : decode cX9_summedUp 190 = .ok (.goto 16, 3) := by decide +kernel
theorem dX9_summedUp_193 : decode cX9_summedUp 193 = .ok (.aload_n 0, 1) := by decide +kernel
theorem dX9_summedUp_194 : decode cX9_summedUp 194 = .ok (.aload_n 0, 1) := by decide +kernel
theorem dX9_summedUp_195 : decode cX9_summedUp 195 = .ok (.getfield 35, 3) := by decide +kernel
theorem dX9_summedUp_198 : decode cX9_summedUp 198 = .ok (.iload 5, 2) := by decide +kernel
theorem dX9_summedUp_200 : decode cX9_summedUp 200 = .ok (.iconst 1, 1) := by decide +kernel
theorem dX9_summedUp_201 : decode cX9_summedUp 201 = .ok (.isub, 1) := by decide +kernel
theorem dX9_summedUp_202 : decode cX9_summedUp 202 = .ok (.laload, 1) := by decide +kernel
theorem dX9_summedUp_203 : decode cX9_summedUp 203 = .ok (.invokevirtual 289, 3) := by decide +kernel
theorem dX9_summedUp_206 : decode cX9_summedUp 206 = .ok (.lastore, 1) := by decide +kernel
theorem dX9_summedUp_207 : decode cX9_summedUp 207 = .ok (.goto 188, 3) := by decide +kernel
theorem dX9_summedUp_210 : decode cX9_summedUp 210 = .ok (.iload 8, 2) := by decide +kernel
theorem dX9_summedUp_212 : decode cX9_summedUp 212 = .ok (.bipush 10, 2) := by decide +kernel
theorem dX9_summedUp_214 : decode cX9_summedUp 214 = .ok (.if_icmp .ge 68, 3) := by decide +kernel
theorem dX9_summedUp_217 : decode cX9_summedUp 217 = .ok (.iinc 5 (-1), 3) := by decide +kernel
theorem dX9_summedUp_220 : decode cX9_summedUp 220 = .ok (.aload_n 0, 1) := by decide +kernel
theorem dX9_summedUp_221 : decode cX9_summedUp 221 = .ok (.getfield 35, 3) := by decide +kernel
theorem dX9_summedUp_224 : decode cX9_summedUp 224 = .ok (.iload 5, 2) := by decide +kernel
theorem dX9_summedUp_226 : decode cX9_summedUp 226 = .ok (.iconst 1, 1) := by decide +kernel
theorem dX9_summedUp_227 : decode cX9_summedUp 227 = .ok (.isub, 1) := by decide +kernel
theorem dX9_summedUp_228 : decode cX9_summedUp 228 = .ok (.iload 8, 2) := by decide +kernel
theorem dX9_summedUp_230 : decode cX9_summedUp 230 = .ok (.bipush 9, 2) := by decide +kernel
theorem dX9_summedUp_232 : decode cX9_summedUp 232 = .ok (.if_icmp .ne 25, 3) := by decide +kernel
theorem dX9_summedUp_235 : decode cX9_summedUp 235 = .ok (.aload_n 0, 1) := by decide +kernel
theorem dX9_summedUp_236 : decode cX9_summedUp 236 = .ok (.getfield 35, 3) := by decide +kernel
theorem dX9_summedUp_239 : decode cX9_summedUp 239 = .ok (.iload 5, 2) := by decide +kernel
theorem dX9_summedUp_241 : decode cX9_summedUp 241 = .ok (.iconst 1, 1) := by decide +kernel
theorem dX9_summedUp_242 : decode cX9_summedUp 242 = .ok (.isub, 1) := by decide +kernel
theorem dX9_summedUp_243 : decode cX9_summedUp 243 = .ok (.laload, 1) := by decide +kernel
theorem dX9_summedUp_244 : decode cX9_summedUp 244 = .ok (.aload_n 0, 1) := by decide +kernel
theorem dX9_summedUp_245 : decode cX9_summedUp 245 = .ok (.getfield 35, 3) := by decide +kernel
theorem dX9_summedUp_248 : decode cX9_summedUp 248 = .ok (.iload 5, 2) := by decide +kernel
theorem dX9_summedUp_250 : decode cX9_summedUp 250 = .ok (.laload, 1) := by decide +kernel
theorem dX9_summedUp_251 : decode cX9_summedUp 251 = .ok (.invokestatic 292, 3) := by decide +kernel
theorem dX9_summedUp_254 : decode cX9_summedUp 254 = .ok (.goto 24, 3) := by decide +kernel
theorem dX9_summedUp_257 : decode cX9_summedUp 257 = .ok (.iload 8, 2) := by decide +kernel
theorem dX9_summedUp_259 : decode cX9_summedUp 259 = .ok (.aload_n 0, 1) := by decide +kernel
theorem dX9_summedUp_260 : decode cX9_summedUp 260 = .ok (.getfield 35, 3) := by decide +kernel
theorem dX9_summedUp_263 : decode cX9_summedUp 263 = .ok (.iload 5, 2) := by decide +kernel
theorem dX9_summedUp_265 : decode cX9_summedUp 265 = .ok (.iconst 1, 1) := by decide +kernel
theorem dX9_summedUp_266 : decode cX9_summedUp 266 = .ok (.isub, 1) := by decide +kernel
theorem dX9_summedUp_267 : decode cX9_summedUp 267 = .ok (.laload, 1) := by decide +kernel
theorem dX9_summedUp_268 : decode cX9_summedUp 268 = .ok (.aload_n 0, 1) := by decide +kernel
theorem dX9_summedUp_269 : decode cX9_summedUp 269 = .ok (.getfield 35, 3) := by decide +kernel
theorem dX9_summedUp_272 : decode cX9_summedUp 272 = .ok (.iload 5, 2) := by decide +kernel
theorem dX9_summedUp_274 : decode cX9_summedUp 274 = .ok (.laload, 1) := by decide +kernel
theorem dX9_summedUp_275 : decode cX9_summedUp 275 = .ok (.invokestatic 296, 3) := by decide +kernel
theorem dX9_summedUp_278 : decode cX9_summedUp 278 = .ok (.lastore, 1) := by decide +kernel
theorem dX9_summedUp_279 : decode cX9_summedUp 279 = .ok (.goto 116, 3) := by decide +kernel
theorem dX9_summedUp_282 : decode cX9_summedUp 282 = .ok (.iload 8, 2) := by decide +kernel
theorem dX9_summedUp_284 : decode cX9_summedUp 284 = .ok (.bipush 20, 2) := by decide +kernel
theorem dX9_summedUp_286 : decode cX9_summedUp 286 = .ok (.if_icmp .ge 40, 3) := by decide +kernel
theorem dX9_summedUp_289 : decode cX9_summedUp 289 = .ok (.iinc 5 (-2), 3) := by decide +kernel
theorem dX9_summedUp_292 : decode cX9_summedUp 292 = .ok (.aload_n 0, 1) := by decide +kernel
theorem dX9_summedUp_293 : decode cX9_summedUp 293 = .ok (.getfield 39, 3) := by decide +kernel
theorem dX9_summedUp_296 : decode cX9_summedUp 296 = .ok (.iload 6, 2) := by decide +kernel
theorem dX9_summedUp_298 : decode cX9_summedUp 298 = .ok (.iload 8, 2) := by decide +kernel
theorem dX9_summedUp_300 : decode cX9_summedUp 300 = .ok (.aload_n 0, 1) := by decide +kernel
theorem dX9_summedUp_301 : decode cX9_summedUp 301 = .ok (.getfield 35, 3) := by decide +kernel
theorem dX9_summedUp_304 : decode cX9_summedUp 304 = .ok (.iload 5, 2) := by decide +kernel
theorem dX9_summedUp_306 : decode cX9_summedUp 306 = .ok (.laload, 1) := by decide +kernel
theorem dX9_summedUp_307 : decode cX9_summedUp 307 = .ok (.aload_n 0, 1) := by decide +kernel
theorem dX9_summedUp_308 : decode cX9_summedUp 308 = .ok (.getfield 35, 3) := by decide +kernel
theorem dX9_summedUp_311 : decode cX9_summedUp 311 = .ok (.iload 5, 2) := by decide +kernel
theorem dX9_summedUp_313 : decode cX9_summedUp 313 = .ok (.iconst 1, 1) := by decide +kernel
theorem dX9_summedUp_314 : decode cX9_summedUp 314 = .ok (.iadd, 1) := by decide +kernel
theorem dX9_summedUp_315 : decode cX9_summedUp 315 = .ok (.laload, 1) := by decide +kernel
theorem dX9_summedUp_316 : decode cX9_summedUp 316 = .ok (.invokestatic 300, 3) := by decide +kernel
theorem dX9_summedUp_319 : decode cX9_summedUp 319 = .ok (.bastore, 1) := by decide +kernel
theorem dX9_summedUp_320 : decode cX9_summedUp 320 = .ok (.iinc 6 1, 3) := by decide +kernel
theorem dX9_summedUp_323 : decode cX9_summedUp 323 = .ok (.goto 72, 3) := by decide +kernel
theorem dX9_summedUp_326 : decode cX9_summedUp 326 = .ok (.iload 8, 2) := by decide +kernel
theorem dX9_summedUp_328 : decode cX9_summedUp 328 = .ok (.bipush 20, 2) := by decide +kernel
theorem dX9_summedUp_330 : decode cX9_summedUp 330 = .ok (.if_icmp .ne 32, 3) := by decide +kernel
theorem dX9_summedUp_333 : decode cX9_summedUp 333 = .ok (.aload_n 0, 1) := by decide +kernel
theorem dX9_summedUp_334 : decode cX9_summedUp 334 = .ok (.getfield 39, 3) := by decide +kernel
theorem dX9_summedUp_337 : decode cX9_summedUp 337 = .ok (.iload 6, 2) := by decide +kernel
theorem dX9_summedUp_339 : decode cX9_summedUp 339 = .ok (.iconst 1, 1) := by decide +kernel
theorem dX9_summedUp_340 : decode cX9_summedUp 340 = .ok (.isub, 1) := by decide +kernel
theorem dX9_summedUp_341 : decode cX9_summedUp 341 = .ok (.aload_n 0, 1) := by decide +kernel
theorem dX9_summedUp_342 : decode cX9_summedUp 342 = .ok (.getfield 39, 3) := by decide +kernel
theorem dX9_summedUp_345 : decode cX9_summedUp 345 = .ok (.iload 6, 2) := by decide +kernel
theorem dX9_summedUp_347 : decode cX9_summedUp 347 = .ok (.iconst 1, 1) := by decide +kernel
theorem dX9_summedUp_348 : decode cX9_summedUp 348 = .ok (.isub, 1) := by decide +kernel
theorem dX9_summedUp_349 : decode cX9_summedUp 349 = .ok (.baload, 1) := by decide +kernel
theorem dX9_summedUp_350 : decode cX9_summedUp 350 = .ok (.ifCond .ne 7, 3) := by decide +kernel
theorem dX9_summedUp_353 : decode cX9_summedUp 353 = .ok (.iconst 1, 1) := by decide +kernel
theorem dX9_summedUp_354 : decode cX9_summedUp 354 = .ok (.goto 4, 3) := by decide +kernel
theorem dX9_summedUp_357 : decode cX9_summedUp 357 = .ok (.iconst 0, 1) := by decide +kernel
theorem dX9_summedUp_358 : decode cX9_summedUp 358 = .ok (.bastore, 1) := by decide +kernel
theorem dX9_summedUp_359 : decode cX9_summedUp 359 = .ok (.goto 36, 3) := by decide +kernel
theorem dX9_summedUp_362 : decode cX9_summedUp 362 = .ok (.iinc 6 (-1), 3) := by decide +kernel
theorem dX9_summedUp_365 : decode cX9_summedUp 365 = .ok (.aload_n 0, 1) := by decide +kernel
theorem dX9_summedUp_366 : decode cX9_summedUp 366 = .ok (.getfield 39, 3) := by decide +kernel
theorem dX9_summedUp_369 : decode cX9_summedUp 369 = .ok (.iload 6, 2) := by decide +kernel
theorem dX9_summedUp_371 : decode cX9_summedUp 371 = .ok (.iconst 1, 1) := by decide +kernel
theorem dX9_summedUp_372 : decode cX9_summedUp 372 = .ok (.isub, 1) := by decide +kernel
theorem dX9_summedUp_373 : decode cX9_summedUp 373 = .ok (.iload 8, 2) := by decide +kernel
theorem dX9_summedUp_375 : decode cX9_summedUp 375 = .ok (.aload_n 0, 1) := by decide +kernel
theorem dX9_summedUp_376 : decode cX9_summedUp 376 = .ok (.getfield 39, 3) := by decide +kernel
theorem dX9_summedUp_379 : decode cX9_summedUp 379 = .ok (.iload 6, 2) := by decide +kernel
theorem dX9_summedUp_381 : decode cX9_summedUp 381 = .ok (.iconst 1, 1) := by decide +kernel
theorem dX9_summedUp_382 : decode cX9_summedUp 382 = .ok (.isub, 1) := by decide +kernel
theorem dX9_summedUp_383 : decode cX9_summedUp 383 = .ok (.baload, 1) := by decide +kernel
theorem dX9_summedUp_384 : decode cX9_summedUp 384 = .ok (.aload_n 0, 1) := by decide +kernel
theorem dX9_summedUp_385 : decode cX9_summedUp 385 = .ok (.getfield 39, 3) := by decide +kernel
theorem dX9_summedUp_388 : decode cX9_summedUp 388 = .ok (.iload 6, 2) := by decide +kernel
theorem dX9_summedUp_390 : decode cX9_summedUp 390 = .ok (.baload, 1) := by decide +kernel
theorem dX9_summedUp_391 : decode cX9_summedUp 391 = .ok (.invokestatic 304, 3) := by decide +kernel
theorem dX9_summedUp_394 : decode cX9_summedUp 394 = .ok (.bastore, 1) := by decide +kernel
theorem dX9_summedUp_395 : decode cX9_summedUp 395 = .ok (.iinc 7 1, 3) := by decide +kernel
theorem dX9_summedUp_398 : decode cX9_summedUp 398 = .ok (.goto (-360), 3) := by decide +kernel
theorem dX9_summedUp_401 : decode cX9_summedUp 401 = .ok (.aload_n 0, 1) := by decide +kernel
theorem dX9_summedUp_402 : decode cX9_summedUp 402 = .ok (.getfield 35, 3) := by decide +kernel
theorem dX9_summedUp_405 : decode cX9_summedUp 405 = .ok (.iconst 0, 1) := by decide +kernel
theorem dX9_summedUp_406 : decode cX9_summedUp 406 = .ok (.laload, 1) := by decide +kernel
theorem dX9_summedUp_407 : decode cX9_summedUp 407 = .ok (.lreturn, 1) := by decide +kernel
theorem dX9_says_0 : decode cX9_says 0 = .ok (.iconst 0, 1) := by decide +kernel
theorem dX9_says_1 : decode cX9_says 1 = .ok (.istore 5, 2) := by decide +kernel
theorem dX9_says_3 : decode cX9_says 3 = .ok (.iload_n 1, 1) := by decide +kernel
theorem dX9_says_4 : decode cX9_says 4 = .ok (.ifCond .lt 59, 3) := by decide +kernel
theorem dX9_says_7 : decode cX9_says 7 = .ok (.iload 5, 2) := by decide +kernel
theorem dX9_says_9 : decode cX9_says 9 = .ok (.aload_n 0, 1) := by decide +kernel
theorem dX9_says_10 : decode cX9_says 10 = .ok (.getfield 16, 3) := by decide +kernel
theorem dX9_says_13 : decode cX9_says 13 = .ok (.sipush 705, 3) := by decide +kernel
theorem dX9_says_16 : decode cX9_says 16 = .ok (.iload_n 1, 1) := by decide +kernel
theorem dX9_says_17 : decode cX9_says 17 = .ok (.imul, 1) := by decide +kernel
theorem dX9_says_18 : decode cX9_says 18 = .ok (.iaload, 1) := by decide +kernel
theorem dX9_says_19 : decode cX9_says 19 = .ok (.if_icmp .ge 44, 3) := by decide +kernel
theorem dX9_says_22 : decode cX9_says 22 = .ok (.aload_n 0, 1) := by decide +kernel
theorem dX9_says_23 : decode cX9_says 23 = .ok (.getfield 16, 3) := by decide +kernel
theorem dX9_says_26 : decode cX9_says 26 = .ok (.sipush 705, 3) := by decide +kernel
theorem dX9_says_29 : decode cX9_says 29 = .ok (.iload_n 1, 1) := by decide +kernel
theorem dX9_says_30 : decode cX9_says 30 = .ok (.imul, 1) := by decide +kernel
theorem dX9_says_31 : decode cX9_says 31 = .ok (.iconst 1, 1) := by decide +kernel
theorem dX9_says_32 : decode cX9_says 32 = .ok (.iadd, 1) := by decide +kernel
theorem dX9_says_33 : decode cX9_says 33 = .ok (.iconst 4, 1) := by decide +kernel
theorem dX9_says_34 : decode cX9_says 34 = .ok (.iload 5, 2) := by decide +kernel
theorem dX9_says_36 : decode cX9_says 36 = .ok (.imul, 1) := by decide +kernel
theorem dX9_says_37 : decode cX9_says 37 = .ok (.iadd, 1) := by decide +kernel
theorem dX9_says_38 : decode cX9_says 38 = .ok (.iaload, 1) := by decide +kernel
theorem dX9_says_39 : decode cX9_says 39 = .ok (.iload_n 2, 1) := by decide +kernel
theorem dX9_says_40 : decode cX9_says 40 = .ok (.if_icmp .ne 17, 3) := by decide +kernel
theorem dX9_says_43 : decode cX9_says 43 = .ok (.aload_n 0, 1) := by decide +kernel
theorem dX9_says_44 : decode cX9_says 44 = .ok (.iload_n 1, 1) := by decide +kernel
theorem dX9_says_45 : decode cX9_says 45 = .ok (.iload 5, 2) := by decide +kernel
theorem dX9_says_47 : decode cX9_says 47 = .ok (.invokevirtual 308, 3) := by decide +kernel
theorem dX9_says_50 : decode cX9_says 50 = .ok (.iconst 0, 1) := by decide +kernel
theorem dX9_says_51 : decode cX9_says 51 = .ok (.iload 4, 2) := by decide +kernel
theorem dX9_says_53 : decode cX9_says 53 = .ok (.invokestatic 311, 3) := by decide +kernel
theorem dX9_says_56 : decode cX9_says 56 = .ok (.ireturn, 1) := by decide +kernel
theorem dX9_says_57 : decode cX9_says 57 = .ok (.iinc 5 1, 3) := by decide +kernel
theorem dX9_says_60 : decode cX9_says 60 = .ok (.goto (-57), 3) := by decide +kernel
theorem dX9_says_63 : decode cX9_says 63 = .ok (.iload_n 3, 1) := by decide +kernel
theorem dX9_says_64 : decode cX9_says 64 = .ok (.i2l, 1) := by decide +kernel
theorem dX9_says_65 : decode cX9_says 65 = .ok (.iconst 0, 1) := by decide +kernel
theorem dX9_says_66 : decode cX9_says 66 = .ok (.iload 4, 2) := by decide +kernel
theorem dX9_says_68 : decode cX9_says 68 = .ok (.invokestatic 311, 3) := by decide +kernel
theorem dX9_says_71 : decode cX9_says 71 = .ok (.ireturn, 1) := by decide +kernel
theorem dX9_name_0 : decode cX9_name 0 = .ok (.aload_n 0, 1) := by decide +kernel
theorem dX9_name_1 : decode cX9_name 1 = .ok (.getfield 32, 3) := by decide +kernel
theorem dX9_name_4 : decode cX9_name 4 = .ok (.iconst 0, 1) := by decide +kernel
theorem dX9_name_5 : decode cX9_name 5 = .ok (.aload_n 0, 1) := by decide +kernel
theorem dX9_name_6 : decode cX9_name 6 = .ok (.getfield 7, 3) := by decide +kernel
theorem dX9_name_9 : decode cX9_name 9 = .ok (.bipush 6, 2) := by decide +kernel
theorem dX9_name_11 : decode cX9_name 11 = .ok (.iaload, 1) := by decide +kernel
theorem dX9_name_12 : decode cX9_name 12 = .ok (.iastore, 1) := by decide +kernel
theorem dX9_name_13 : decode cX9_name 13 = .ok (.aload_n 0, 1) := by decide +kernel
theorem dX9_name_14 : decode cX9_name 14 = .ok (.getfield 32, 3) := by decide +kernel
theorem dX9_name_17 : decode cX9_name 17 = .ok (.iconst 1, 1) := by decide +kernel
theorem dX9_name_18 : decode cX9_name 18 = .ok (.aload_n 0, 1) := by decide +kernel
theorem dX9_name_19 : decode cX9_name 19 = .ok (.invokevirtual 315, 3) := by decide +kernel
theorem dX9_name_22 : decode cX9_name 22 = .ok (.invokestatic 318, 3) := by decide +kernel
theorem dX9_name_25 : decode cX9_name 25 = .ok (.iastore, 1) := by decide +kernel
theorem dX9_name_26 : decode cX9_name 26 = .ok (.aload_n 0, 1) := by decide +kernel
theorem dX9_name_27 : decode cX9_name 27 = .ok (.getfield 32, 3) := by decide +kernel
theorem dX9_name_30 : decode cX9_name 30 = .ok (.iconst 2, 1) := by decide +kernel
theorem dX9_name_31 : decode cX9_name 31 = .ok (.aload_n 0, 1) := by decide +kernel
theorem dX9_name_32 : decode cX9_name 32 = .ok (.invokevirtual 321, 3) := by decide +kernel
theorem dX9_name_35 : decode cX9_name 35 = .ok (.iastore, 1) := by decide +kernel
theorem dX9_name_36 : decode cX9_name 36 = .ok (.return_, 1) := by decide +kernel
theorem dX9_cueOf_0 : decode cX9_cueOf 0 = .ok (.aload_n 0, 1) := by decide +kernel
theorem dX9_cueOf_1 : decode cX9_cueOf 1 = .ok (.invokevirtual 324, 3) := by decide +kernel
theorem dX9_cueOf_4 : decode cX9_cueOf 4 = .ok (.aload_n 0, 1) := by decide +kernel
theorem dX9_cueOf_5 : decode cX9_cueOf 5 = .ok (.getfield 32, 3) := by decide +kernel
theorem dX9_cueOf_8 : decode cX9_cueOf 8 = .ok (.iconst 3, 1) := by decide +kernel
theorem dX9_cueOf_9 : decode cX9_cueOf 9 = .ok (.iload_n 1, 1) := by decide +kernel
theorem dX9_cueOf_10 : decode cX9_cueOf 10 = .ok (.iastore, 1) := by decide +kernel
theorem dX9_cueOf_11 : decode cX9_cueOf 11 = .ok (.aload_n 0, 1) := by decide +kernel
theorem dX9_cueOf_12 : decode cX9_cueOf 12 = .ok (.getfield 32, 3) := by decide +kernel
theorem dX9_cueOf_15 : decode cX9_cueOf 15 = .ok (.iconst 4, 1) := by decide +kernel
theorem dX9_cueOf_16 : decode cX9_cueOf 16 = .ok (.aload_n 0, 1) := by decide +kernel
theorem dX9_cueOf_17 : decode cX9_cueOf 17 = .ok (.getfield 7, 3) := by decide +kernel
theorem dX9_cueOf_20 : decode cX9_cueOf 20 = .ok (.bipush 10, 2) := by decide +kernel
theorem dX9_cueOf_22 : decode cX9_cueOf 22 = .ok (.iload_n 1, 1) := by decide +kernel
theorem dX9_cueOf_23 : decode cX9_cueOf 23 = .ok (.iadd, 1) := by decide +kernel
theorem dX9_cueOf_24 : decode cX9_cueOf 24 = .ok (.iaload, 1) := by decide +kernel
theorem dX9_cueOf_25 : decode cX9_cueOf 25 = .ok (.iastore, 1) := by decide +kernel
theorem dX9_cueOf_26 : decode cX9_cueOf 26 = .ok (.aload_n 0, 1) := by decide +kernel
theorem dX9_cueOf_27 : decode cX9_cueOf 27 = .ok (.getfield 32, 3) := by decide +kernel
theorem dX9_cueOf_30 : decode cX9_cueOf 30 = .ok (.iconst 5, 1) := by decide +kernel
theorem dX9_cueOf_31 : decode cX9_cueOf 31 = .ok (.iload_n 2, 1) := by decide +kernel
theorem dX9_cueOf_32 : decode cX9_cueOf 32 = .ok (.iastore, 1) := by decide +kernel
theorem dX9_cueOf_33 : decode cX9_cueOf 33 = .ok (.aload_n 0, 1) := by decide +kernel
theorem dX9_cueOf_34 : decode cX9_cueOf 34 = .ok (.aload_n 0, 1) := by decide +kernel
theorem dX9_cueOf_35 : decode cX9_cueOf 35 = .ok (.getfield 7, 3) := by decide +kernel
theorem dX9_cueOf_38 : decode cX9_cueOf 38 = .ok (.iconst 2, 1) := by decide +kernel
theorem dX9_cueOf_39 : decode cX9_cueOf 39 = .ok (.iaload, 1) := by decide +kernel
theorem dX9_cueOf_40 : decode cX9_cueOf 40 = .ok (.iconst 0, 1) := by decide +kernel
theorem dX9_cueOf_41 : decode cX9_cueOf 41 = .ok (.iload_n 2, 1) := by decide +kernel
theorem dX9_cueOf_42 : decode cX9_cueOf 42 = .ok (.iconst 3, 1) := by decide +kernel
theorem dX9_cueOf_43 : decode cX9_cueOf 43 = .ok (.if_icmp .gt 12, 3) := by decide +kernel
theorem dX9_cueOf_46 : decode cX9_cueOf 46 = .ok (.aload_n 0, 1) := by decide +kernel
theorem dX9_cueOf_47 : decode cX9_cueOf 47 = .ok (.getfield 32, 3) := by decide +kernel
theorem dX9_cueOf_50 : decode cX9_cueOf 50 = .ok (.iconst 1, 1) := by decide +kernel
theorem dX9_cueOf_51 : decode cX9_cueOf 51 = .ok (.iaload, 1) := by decide +kernel
theorem dX9_cueOf_52 : decode cX9_cueOf 52 = .ok (.ifCond .ne 7, 3) := by decide +kernel
theorem dX9_cueOf_55 : decode cX9_cueOf 55 = .ok (.iconst 0, 1) := by decide +kernel
theorem dX9_cueOf_56 : decode cX9_cueOf 56 = .ok (.goto 4, 3) := by decide +kernel
theorem dX9_cueOf_59 : decode cX9_cueOf 59 = .ok (.iload_n 2, 1) := by decide +kernel
theorem dX9_cueOf_60 : decode cX9_cueOf 60 = .ok (.iconst 3, 1) := by decide +kernel
theorem dX9_cueOf_61 : decode cX9_cueOf 61 = .ok (.invokevirtual 327, 3) := by decide +kernel
theorem dX9_cueOf_64 : decode cX9_cueOf 64 = .ok (.ireturn, 1) := by decide +kernel
theorem dX9_staysOf_0 : decode cX9_staysOf 0 = .ok (.aload_n 0, 1) := by decide +kernel
theorem dX9_staysOf_1 : decode cX9_staysOf 1 = .ok (.invokevirtual 324, 3) := by decide +kernel
theorem dX9_staysOf_4 : decode cX9_staysOf 4 = .ok (.aload_n 0, 1) := by decide +kernel
theorem dX9_staysOf_5 : decode cX9_staysOf 5 = .ok (.getfield 32, 3) := by decide +kernel
theorem dX9_staysOf_8 : decode cX9_staysOf 8 = .ok (.iconst 3, 1) := by decide +kernel
theorem dX9_staysOf_9 : decode cX9_staysOf 9 = .ok (.iload_n 1, 1) := by decide +kernel
theorem dX9_staysOf_10 : decode cX9_staysOf 10 = .ok (.iastore, 1) := by decide +kernel
theorem dX9_staysOf_11 : decode cX9_staysOf 11 = .ok (.aload_n 0, 1) := by decide +kernel
theorem dX9_staysOf_12 : decode cX9_staysOf 12 = .ok (.getfield 32, 3) := by decide +kernel
theorem dX9_staysOf_15 : decode cX9_staysOf 15 = .ok (.bipush 6, 2) := by decide +kernel
theorem dX9_staysOf_17 : decode cX9_staysOf 17 = .ok (.iload_n 2, 1) := by decide +kernel
theorem dX9_staysOf_18 : decode cX9_staysOf 18 = .ok (.iastore, 1) := by decide +kernel
theorem dX9_staysOf_19 : decode cX9_staysOf 19 = .ok (.aload_n 0, 1) := by decide +kernel
theorem dX9_staysOf_20 : decode cX9_staysOf 20 = .ok (.getfield 32, 3) := by decide +kernel
theorem dX9_staysOf_23 : decode cX9_staysOf 23 = .ok (.bipush 7, 2) := by decide +kernel
theorem dX9_staysOf_25 : decode cX9_staysOf 25 = .ok (.iload_n 3, 1) := by decide +kernel
theorem dX9_staysOf_26 : decode cX9_staysOf 26 = .ok (.iastore, 1) := by decide +kernel
theorem dX9_staysOf_27 : decode cX9_staysOf 27 = .ok (.aload_n 0, 1) := by decide +kernel
theorem dX9_staysOf_28 : decode cX9_staysOf 28 = .ok (.aload_n 0, 1) := by decide +kernel
theorem dX9_staysOf_29 : decode cX9_staysOf 29 = .ok (.getfield 7, 3) := by decide +kernel
theorem dX9_staysOf_32 : decode cX9_staysOf 32 = .ok (.iconst 2, 1) := by decide +kernel
theorem dX9_staysOf_33 : decode cX9_staysOf 33 = .ok (.iaload, 1) := by decide +kernel
theorem dX9_staysOf_34 : decode cX9_staysOf 34 = .ok (.iconst 1, 1) := by decide +kernel
theorem dX9_staysOf_35 : decode cX9_staysOf 35 = .ok (.iload_n 2, 1) := by decide +kernel
theorem dX9_staysOf_36 : decode cX9_staysOf 36 = .ok (.iconst 1, 1) := by decide +kernel
theorem dX9_staysOf_37 : decode cX9_staysOf 37 = .ok (.if_icmp .ne 7, 3) := by decide +kernel
theorem dX9_staysOf_40 : decode cX9_staysOf 40 = .ok (.iconst 1, 1) := by decide +kernel
theorem dX9_staysOf_41 : decode cX9_staysOf 41 = .ok (.goto 4, 3) := by decide +kernel
theorem dX9_staysOf_44 : decode cX9_staysOf 44 = .ok (.iconst 0, 1) := by decide +kernel
theorem dX9_staysOf_45 : decode cX9_staysOf 45 = .ok (.bipush 9, 2) := by decide +kernel
theorem dX9_staysOf_47 : decode cX9_staysOf 47 = .ok (.invokevirtual 327, 3) := by decide +kernel
theorem dX9_staysOf_50 : decode cX9_staysOf 50 = .ok (.ireturn, 1) := by decide +kernel
theorem dX9_gladdensOf_0 : decode cX9_gladdensOf 0 = .ok (.aload_n 0, 1) := by decide +kernel
theorem dX9_gladdensOf_1 : decode cX9_gladdensOf 1 = .ok (.invokevirtual 324, 3) := by decide +kernel
theorem dX9_gladdensOf_4 : decode cX9_gladdensOf 4 = .ok (.aload_n 0, 1) := by decide +kernel
theorem dX9_gladdensOf_5 : decode cX9_gladdensOf 5 = .ok (.getfield 32, 3) := by decide +kernel
theorem dX9_gladdensOf_8 : decode cX9_gladdensOf 8 = .ok (.bipush 8, 2) := by decide +kernel
theorem dX9_gladdensOf_10 : decode cX9_gladdensOf 10 = .ok (.iload_n 2, 1) := by decide +kernel
theorem dX9_gladdensOf_11 : decode cX9_gladdensOf 11 = .ok (.iastore, 1) := by decide +kernel
theorem dX9_gladdensOf_12 : decode cX9_gladdensOf 12 = .ok (.aload_n 0, 1) := by decide +kernel
theorem dX9_gladdensOf_13 : decode cX9_gladdensOf 13 = .ok (.getfield 32, 3) := by decide +kernel
theorem dX9_gladdensOf_16 : decode cX9_gladdensOf 16 = .ok (.bipush 9, 2) := by decide +kernel
theorem dX9_gladdensOf_18 : decode cX9_gladdensOf 18 = .ok (.aload_n 0, 1) := by decide +kernel
theorem dX9_gladdensOf_19 : decode cX9_gladdensOf 19 = .ok (.iload_n 2, 1) := by decide +kernel
theorem dX9_gladdensOf_20 : decode cX9_gladdensOf 20 = .ok (.iconst 1, 1) := by decide +kernel
theorem dX9_gladdensOf_21 : decode cX9_gladdensOf 21 = .ok (.invokevirtual 82, 3) := by decide +kernel
theorem dX9_gladdensOf_24 : decode cX9_gladdensOf 24 = .ok (.iastore, 1) := by decide +kernel
theorem dX9_gladdensOf_25 : decode cX9_gladdensOf 25 = .ok (.aload_n 0, 1) := by decide +kernel
theorem dX9_gladdensOf_26 : decode cX9_gladdensOf 26 = .ok (.getfield 32, 3) := by decide +kernel
theorem dX9_gladdensOf_29 : decode cX9_gladdensOf 29 = .ok (.bipush 10, 2) := by decide +kernel
theorem dX9_gladdensOf_31 : decode cX9_gladdensOf 31 = .ok (.aload_n 0, 1) := by decide +kernel
theorem dX9_gladdensOf_32 : decode cX9_gladdensOf 32 = .ok (.iload_n 2, 1) := by decide +kernel
theorem dX9_gladdensOf_33 : decode cX9_gladdensOf 33 = .ok (.iconst 0, 1) := by decide +kernel
theorem dX9_gladdensOf_34 : decode cX9_gladdensOf 34 = .ok (.invokevirtual 82, 3) := by decide +kernel
theorem dX9_gladdensOf_37 : decode cX9_gladdensOf 37 = .ok (.iastore, 1) := by decide +kernel
theorem dX9_gladdensOf_38 : decode cX9_gladdensOf 38 = .ok (.aload_n 0, 1) := by decide +kernel
theorem dX9_gladdensOf_39 : decode cX9_gladdensOf 39 = .ok (.getfield 32, 3) := by decide +kernel
theorem dX9_gladdensOf_42 : decode cX9_gladdensOf 42 = .ok (.bipush 11, 2) := by decide +kernel
theorem dX9_gladdensOf_44 : decode cX9_gladdensOf 44 = .ok (.iload_n 3, 1) := by decide +kernel
theorem dX9_gladdensOf_45 : decode cX9_gladdensOf 45 = .ok (.iastore, 1) := by decide +kernel
theorem dX9_gladdensOf_46 : decode cX9_gladdensOf 46 = .ok (.aload_n 0, 1) := by decide +kernel
theorem dX9_gladdensOf_47 : decode cX9_gladdensOf 47 = .ok (.iload_n 1, 1) := by decide +kernel
theorem dX9_gladdensOf_48 : decode cX9_gladdensOf 48 = .ok (.iconst 2, 1) := by decide +kernel
theorem dX9_gladdensOf_49 : decode cX9_gladdensOf 49 = .ok (.aload_n 0, 1) := by decide +kernel
theorem dX9_gladdensOf_50 : decode cX9_gladdensOf 50 = .ok (.iload_n 2, 1) := by decide +kernel
theorem dX9_gladdensOf_51 : decode cX9_gladdensOf 51 = .ok (.iconst 2, 1) := by decide +kernel
theorem dX9_gladdensOf_52 : decode cX9_gladdensOf 52 = .ok (.invokevirtual 82, 3) := by decide +kernel
theorem dX9_gladdensOf_55 : decode cX9_gladdensOf 55 = .ok (.bipush 99, 2) := by decide +kernel
theorem dX9_gladdensOf_57 : decode cX9_gladdensOf 57 = .ok (.invokevirtual 327, 3) := by decide +kernel
theorem dX9_gladdensOf_60 : decode cX9_gladdensOf 60 = .ok (.ireturn, 1) := by decide +kernel
theorem dX9_write_0 : decode cX9_write 0 = .ok (.aload_n 0, 1) := by decide +kernel
theorem dX9_write_1 : decode cX9_write 1 = .ok (.getfield 43, 3) := by decide +kernel
theorem dX9_write_4 : decode cX9_write 4 = .ok (.ifCond .ne 4, 3) := by decide +kernel
theorem dX9_write_7 : decode cX9_write 7 = .ok (.return_, 1) := by decide +kernel
theorem dX9_write_8 : decode cX9_write 8 = .ok (.aload_n 0, 1) := by decide +kernel
theorem dX9_write_9 : decode cX9_write 9 = .ok (.getfield 7, 3) := by decide +kernel
theorem dX9_write_12 : decode cX9_write 12 = .ok (.bipush 9, 2) := by decide +kernel
theorem dX9_write_14 : decode cX9_write 14 = .ok (.iaload, 1) := by decide +kernel
theorem dX9_write_15 : decode cX9_write 15 = .ok (.bipush 30, 2) := by decide +kernel
theorem dX9_write_17 : decode cX9_write 17 = .ok (.if_icmp .ne 54, 3) := by decide +kernel
theorem dX9_write_20 : decode cX9_write 20 = .ok (.iconst 2, 1) := by decide +kernel
theorem dX9_write_21 : decode cX9_write 21 = .ok (.istore 4, 2) := by decide +kernel
theorem dX9_write_23 : decode cX9_write 23 = .ok (.iload 4, 2) := by decide +kernel
theorem dX9_write_25 : decode cX9_write 25 = .ok (.bipush 60, 2) := by decide +kernel
theorem dX9_write_27 : decode cX9_write 27 = .ok (.if_icmp .ge 33, 3) := by decide +kernel
theorem dX9_write_30 : decode cX9_write 30 = .ok (.aload_n 0, 1) := by decide +kernel
theorem dX9_write_31 : decode cX9_write 31 = .ok (.getfield 7, 3) := by decide +kernel
theorem dX9_write_34 : decode cX9_write 34 = .ok (.sipush 3349, 3) := by decide +kernel
theorem dX9_write_37 : decode cX9_write 37 = .ok (.iload 4, 2) := by decide +kernel
theorem dX9_write_39 : decode cX9_write 39 = .ok (.iadd, 1) := by decide +kernel
theorem dX9_write_40 : decode cX9_write 40 = .ok (.iconst 2, 1) := by decide +kernel
theorem dX9_write_41 : decode cX9_write 41 = .ok (.isub, 1) := by decide +kernel
theorem dX9_write_42 : decode cX9_write 42 = .ok (.aload_n 0, 1) := by decide +kernel
theorem dX9_write_43 : decode cX9_write 43 = .ok (.getfield 7, 3) := by decide +kernel
theorem dX9_write_46 : decode cX9_write 46 = .ok (.sipush 3349, 3) := by decide +kernel
theorem dX9_write_49 : decode cX9_write 49 = .ok (.iload 4, 2) := by decide +kernel
theorem dX9_write_51 : decode cX9_write 51 = .ok (.iadd, 1) := by decide +kernel
theorem dX9_write_52 : decode cX9_write 52 = .ok (.iaload, 1) := by decide +kernel
theorem dX9_write_53 : decode cX9_write 53 = .ok (.iastore, 1) := by decide +kernel
theorem dX9_write_54 : decode cX9_write 54 = .ok (.iinc 4 1, 3) := by decide +kernel
theorem dX9_write_57 : decode cX9_write 57 = .ok (.goto (-34), 3) := by decide +kernel
theorem dX9_write_60 : decode cX9_write 60 = .ok (.aload_n 0, 1) := by decide +kernel
theorem dX9_write_61 : decode cX9_write 61 = .ok (.getfield 7, 3) := by decide +kernel
theorem dX9_write_64 : decode cX9_write 64 = .ok (.bipush 9, 2) := by decide +kernel
theorem dX9_write_66 : decode cX9_write 66 = .ok (.dup2, 1) := by decide +kernel
theorem dX9_write_67 : decode cX9_write 67 = .ok (.iaload, 1) := by decide +kernel
theorem dX9_write_68 : decode cX9_write 68 = .ok (.iconst 1, 1) := by decide +kernel
theorem dX9_write_69 : decode cX9_write 69 = .ok (.isub, 1) := by decide +kernel
theorem dX9_write_70 : decode cX9_write 70 = .ok (.iastore, 1) := by decide +kernel
theorem dX9_write_71 : decode cX9_write 71 = .ok (.aload_n 0, 1) := by decide +kernel
theorem dX9_write_72 : decode cX9_write 72 = .ok (.getfield 7, 3) := by decide +kernel
theorem dX9_write_75 : decode cX9_write 75 = .ok (.sipush 3349, 3) := by decide +kernel
theorem dX9_write_78 : decode cX9_write 78 = .ok (.iconst 2, 1) := by decide +kernel
theorem dX9_write_79 : decode cX9_write 79 = .ok (.aload_n 0, 1) := by decide +kernel
theorem dX9_write_80 : decode cX9_write 80 = .ok (.getfield 7, 3) := by decide +kernel
theorem dX9_write_83 : decode cX9_write 83 = .ok (.bipush 9, 2) := by decide +kernel
theorem dX9_write_85 : decode cX9_write 85 = .ok (.iaload, 1) := by decide +kernel
theorem dX9_write_86 : decode cX9_write 86 = .ok (.imul, 1) := by decide +kernel
theorem dX9_write_87 : decode cX9_write 87 = .ok (.iadd, 1) := by decide +kernel
theorem dX9_write_88 : decode cX9_write 88 = .ok (.aload_n 0, 1) := by decide +kernel
theorem dX9_write_89 : decode cX9_write 89 = .ok (.getfield 7, 3) := by decide +kernel
theorem dX9_write_92 : decode cX9_write 92 = .ok (.bipush 6, 2) := by decide +kernel
theorem dX9_write_94 : decode cX9_write 94 = .ok (.iaload, 1) := by decide +kernel
theorem dX9_write_95 : decode cX9_write 95 = .ok (.iastore, 1) := by decide +kernel
theorem dX9_write_96 : decode cX9_write 96 = .ok (.aload_n 0, 1) := by decide +kernel
theorem dX9_write_97 : decode cX9_write 97 = .ok (.getfield 7, 3) := by decide +kernel
theorem dX9_write_100 : decode cX9_write 100 = .ok (.sipush 3349, 3) := by decide +kernel
theorem dX9_write_103 : decode cX9_write 103 = .ok (.iconst 2, 1) := by decide +kernel
theorem dX9_write_104 : decode cX9_write 104 = .ok (.aload_n 0, 1) := by decide +kernel
theorem dX9_write_105 : decode cX9_write 105 = .ok (.getfield 7, 3) := by decide +kernel
theorem dX9_write_108 : decode cX9_write 108 = .ok (.bipush 9, 2) := by decide +kernel
theorem dX9_write_110 : decode cX9_write 110 = .ok (.iaload, 1) := by decide +kernel
theorem dX9_write_111 : decode cX9_write 111 = .ok (.imul, 1) := by decide +kernel
theorem dX9_write_112 : decode cX9_write 112 = .ok (.iadd, 1) := by decide +kernel
theorem dX9_write_113 : decode cX9_write 113 = .ok (.iconst 1, 1) := by decide +kernel
theorem dX9_write_114 : decode cX9_write 114 = .ok (.iadd, 1) := by decide +kernel
theorem dX9_write_115 : decode cX9_write 115 = .ok (.iload_n 1, 1) := by decide +kernel
theorem dX9_write_116 : decode cX9_write 116 = .ok (.iconst 2, 1) := by decide +kernel
theorem dX9_write_117 : decode cX9_write 117 = .ok (.imul, 1) := by decide +kernel
theorem dX9_write_118 : decode cX9_write 118 = .ok (.iload_n 2, 1) := by decide +kernel
theorem dX9_write_119 : decode cX9_write 119 = .ok (.iadd, 1) := by decide +kernel
theorem dX9_write_120 : decode cX9_write 120 = .ok (.bipush 64, 2) := by decide +kernel
theorem dX9_write_122 : decode cX9_write 122 = .ok (.imul, 1) := by decide +kernel
theorem dX9_write_123 : decode cX9_write 123 = .ok (.iload_n 3, 1) := by decide +kernel
theorem dX9_write_124 : decode cX9_write 124 = .ok (.iadd, 1) := by decide +kernel
theorem dX9_write_125 : decode cX9_write 125 = .ok (.iastore, 1) := by decide +kernel
theorem dX9_write_126 : decode cX9_write 126 = .ok (.aload_n 0, 1) := by decide +kernel
theorem dX9_write_127 : decode cX9_write 127 = .ok (.getfield 7, 3) := by decide +kernel
theorem dX9_write_130 : decode cX9_write 130 = .ok (.bipush 9, 2) := by decide +kernel
theorem dX9_write_132 : decode cX9_write 132 = .ok (.dup2, 1) := by decide +kernel
theorem dX9_write_133 : decode cX9_write 133 = .ok (.iaload, 1) := by decide +kernel
theorem dX9_write_134 : decode cX9_write 134 = .ok (.iconst 1, 1) := by decide +kernel
theorem dX9_write_135 : decode cX9_write 135 = .ok (.iadd, 1) := by decide +kernel
theorem dX9_write_136 : decode cX9_write 136 = .ok (.iastore, 1) := by decide +kernel
theorem dX9_write_137 : decode cX9_write 137 = .ok (.return_, 1) := by decide +kernel
theorem dX9_anew_0 : decode cX9_anew 0 = .ok (.aload_n 0, 1) := by decide +kernel
theorem dX9_anew_1 : decode cX9_anew 1 = .ok (.getfield 7, 3) := by decide +kernel
theorem dX9_anew_4 : decode cX9_anew 4 = .ok (.bipush 7, 2) := by decide +kernel
theorem dX9_anew_6 : decode cX9_anew 6 = .ok (.aload_n 0, 1) := by decide +kernel
theorem dX9_anew_7 : decode cX9_anew 7 = .ok (.getfield 7, 3) := by decide +kernel
theorem dX9_anew_10 : decode cX9_anew 10 = .ok (.bipush 7, 2) := by decide +kernel
theorem dX9_anew_12 : decode cX9_anew 12 = .ok (.iaload, 1) := by decide +kernel
theorem dX9_anew_13 : decode cX9_anew 13 = .ok (.i2l, 1) := by decide +kernel
theorem dX9_anew_14 : decode cX9_anew 14 = .ok (.ldc2_w 331, 3) := by decide +kernel
theorem dX9_anew_17 : decode cX9_anew 17 = .ok (.lmul, 1) := by decide +kernel
theorem dX9_anew_18 : decode cX9_anew 18 = .ok (.ldc2_w 333, 3) := by decide +kernel
theorem dX9_anew_21 : decode cX9_anew 21 = .ok (.ladd, 1) := by decide +kernel
theorem dX9_anew_22 : decode cX9_anew 22 = .ok (.ldc2_w 335, 3) := by decide +kernel
theorem dX9_anew_25 : decode cX9_anew 25 = .ok (.lrem, 1) := by decide +kernel
theorem dX9_anew_26 : decode cX9_anew 26 = .ok (.l2i, 1) := by decide +kernel
theorem dX9_anew_27 : decode cX9_anew 27 = .ok (.iastore, 1) := by decide +kernel
theorem dX9_anew_28 : decode cX9_anew 28 = .ok (.return_, 1) := by decide +kernel
section
variable {p : Program} {l : Launch} {e : Env} {R : Room} {s : State} {m : MethodId} {args : Array Value} {below : List Frame} {meth : Method} {c : Code} {Q : State → Prop} {V : g_V} {nf nl : Nat}
set_option maxRecDepth 100000 in
set_option maxHeartbeats 4000000 in
theorem b_X9_two (C : g_CX mG V p R s m args meth c cX9_two 5 (some .long) RX9 1 21) {res : Int} {M : g_M} (hR : g_RetL mG V p l e R s m args below meth c Q cX9_two res M) {a1 : Int} {a2 : Int} {a3 : Int} {H : Heap} {locs : List Loc} {ls : Array Slot} (h : m_X9_two a1 a2 a3 = some res) (hp : g_PT mG V M s H locs) (hl : lv_has ls 5 [(0, .int (gI a1)), (1, .long (gJ a2)), (3, .long (gJ a3))]) : W p l e R s m args below meth c H locs 0 0 Q (F0 m 0 ls []) := by
  unfold m_X9_two at h
  refine lv_iload_n C.1 C.2.1 dX9_two_0 rfl (lv_at hl 0 rfl) ?_
  refine r_ite h (fun hv h => ?_) (fun hv5 h => ?_)
  · refine r_tswIn (tgt := 28) (v := 5) C hv dX9_two_1 (by decide) rfl (by decide) ?_
    refine lv_lload_n C.1 C.2.1 dX9_two_28 rfl (lv_at hl 1 rfl) ?_
    refine lv_lload_n C.1 C.2.1 dX9_two_29 rfl (lv_at hl 2 rfl) ?_
    refine r_ladd C dX9_two_30 ?_
    obtain ⟨x11, hr, h⟩ := bd_of h
    refine r_callSL (As := [.long (gJ (a2 + a3))]) (rest := []) C hl.1 hp (c_X9_clip l C.2.2.2.2.2.2.2.2.2.2.2 hr) gw_1666 gw_1667 cal_X9_clip rfl rfl (Nat.le_of_ble_eq_true rfl) ⟨Nat.le_of_ble_eq_true rfl, Nat.le_of_ble_eq_true rfl⟩ dX9_two_31 (fun H locs hp => ?_)
    cases h
    exact hR _ _ _ _ dX9_two_34 hp
  refine r_ite h (fun hv h => ?_) (fun hv6 h => ?_)
  · refine r_tswIn (tgt := 35) (v := 6) C hv dX9_two_1 (by decide) rfl (by decide) ?_
    refine lv_lload_n C.1 C.2.1 dX9_two_35 rfl (lv_at hl 1 rfl) ?_
    refine lv_lload_n C.1 C.2.1 dX9_two_36 rfl (lv_at hl 2 rfl) ?_
    refine r_lsub C dX9_two_37 ?_
    obtain ⟨x12, hr, h⟩ := bd_of h
    refine r_callSL (As := [.long (gJ (a2 - a3))]) (rest := []) C hl.1 hp (c_X9_clip l C.2.2.2.2.2.2.2.2.2.2.2 hr) gw_1666 gw_1667 cal_X9_clip rfl rfl (Nat.le_of_ble_eq_true rfl) ⟨Nat.le_of_ble_eq_true rfl, Nat.le_of_ble_eq_true rfl⟩ dX9_two_38 (fun H locs hp => ?_)
    cases h
    exact hR _ _ _ _ dX9_two_41 hp
  refine r_ite h (fun hv h => ?_) (fun hv7 h => ?_)
  · refine r_tswIn (tgt := 42) (v := 7) C hv dX9_two_1 (by decide) rfl (by decide) ?_
    refine lv_lload_n C.1 C.2.1 dX9_two_42 rfl (lv_at hl 1 rfl) ?_
    refine lv_lload_n C.1 C.2.1 dX9_two_43 rfl (lv_at hl 2 rfl) ?_
    refine r_lmul C dX9_two_44 ?_
    obtain ⟨x13, hr, h⟩ := bd_of h
    refine r_callSL (As := [.long (gJ (a2 * a3))]) (rest := []) C hl.1 hp (c_X9_clip l C.2.2.2.2.2.2.2.2.2.2.2 hr) gw_1666 gw_1667 cal_X9_clip rfl rfl (Nat.le_of_ble_eq_true rfl) ⟨Nat.le_of_ble_eq_true rfl, Nat.le_of_ble_eq_true rfl⟩ dX9_two_45 (fun H locs hp => ?_)
    cases h
    exact hR _ _ _ _ dX9_two_48 hp
  have hd : W p l e R s m args below meth c H locs 0 0 Q (F0 m 49 ls []) := by
    refine lv_lload_n C.1 C.2.1 dX9_two_49 rfl (lv_at hl 2 rfl) ?_
    refine r_lconst (z := 0) C dX9_two_50 rfl ?_
    refine r_lcmp C dX9_two_51 ?_
    refine r_if_ne (tgt := 59) C h dX9_two_52 (by decide) (fun h => ?_) (fun h => ?_)
    · refine lv_lload_n C.1 C.2.1 dX9_two_59 rfl (lv_at hl 1 rfl) ?_
      refine lv_lload_n C.1 C.2.1 dX9_two_60 rfl (lv_at hl 2 rfl) ?_
      refine r_ldiv C h dX9_two_61 (fun h => ?_)
      obtain ⟨x14, hr, h⟩ := bd_of h
      refine r_callSL (As := [.long (gJ (g_ldiv a2 a3))]) (rest := []) C hl.1 hp (c_X9_clip l C.2.2.2.2.2.2.2.2.2.2.2 hr) gw_1666 gw_1667 cal_X9_clip rfl rfl (Nat.le_of_ble_eq_true rfl) ⟨Nat.le_of_ble_eq_true rfl, Nat.le_of_ble_eq_true rfl⟩ dX9_two_62 (fun H locs hp => ?_)
      cases h
      exact hR _ _ _ _ dX9_two_65 hp
    · refine r_lconst (z := 0) C dX9_two_55 rfl ?_
      refine r_goto (tgt := 65) C dX9_two_56 (by decide) ?_
      cases h
      exact hR _ _ _ _ dX9_two_65 hp
  exact r_tswOut (tgt := 49) C dX9_two_1 (by omega) (by decide) hd
theorem c_X9_two (l : Launch) {V : g_V} (hok : g_ok mG V) {a1 : Int} {a2 : Int} {a3 : Int} {M : g_M} {x : Int} (h : m_X9_two a1 a2 a3 = some x) : MetL mG V l yX9_two cX9_two 5 (some .long) 1 21 [.int (gI a1), .long (gJ a2), .long (gJ a3)] M x M :=
  g_metL hok cal_X9_two.2.2.2 rfl (Nat.le_of_ble_eq_true rfl) (@fun p e R s m args below meth c Q ls C hR hp hl => b_X9_two C hR h hp hl)
set_option maxRecDepth 100000 in
set_option maxHeartbeats 4000000 in
theorem b_X9_isAsked (C : g_CX mG V p R s m args meth c cX9_isAsked 5 (some .boolean) RX9 0 0) {res : Int} {M : g_M} (hR : g_RetI mG V p l e R s m args below meth c Q cX9_isAsked .boolean res M) {a1 : Int} {a2 : Int} {a3 : Int} {H : Heap} {locs : List Loc} {ls : Array Slot} (h : m_X9_isAsked a1 a2 a3 = some res) (hp : g_PT mG V M s H locs) (hl : lv_has ls 5 [(0, .int (gI a1)), (1, .long (gJ a2)), (3, .long (gJ a3))]) : W p l e R s m args below meth c H locs 0 0 Q (F0 m 0 ls []) := by
  unfold m_X9_isAsked at h
  refine lv_iload_n C.1 C.2.1 dX9_isAsked_0 rfl (lv_at hl 0 rfl) ?_
  refine r_bipush C dX9_isAsked_1 (by decide +kernel) ?_
  refine r_icmp_ne (tgt := 20) C h dX9_isAsked_3 (by decide) (fun h => ?_) (fun h => ?_)
  · refine lv_iload_n C.1 C.2.1 dX9_isAsked_20 rfl (lv_at hl 0 rfl) ?_
    refine r_bipush C dX9_isAsked_21 (by decide +kernel) ?_
    refine r_icmp_ne (tgt := 40) C h dX9_isAsked_23 (by decide) (fun h => ?_) (fun h => ?_)
    · refine lv_iload_n C.1 C.2.1 dX9_isAsked_40 rfl (lv_at hl 0 rfl) ?_
      refine r_bipush C dX9_isAsked_41 (by decide +kernel) ?_
      refine r_icmp_ne (tgt := 60) C h dX9_isAsked_43 (by decide) (fun h => ?_) (fun h => ?_)
      · refine lv_iload_n C.1 C.2.1 dX9_isAsked_60 rfl (lv_at hl 0 rfl) ?_
        refine r_bipush C dX9_isAsked_61 (by decide +kernel) ?_
        refine r_icmp_ne (tgt := 80) C h dX9_isAsked_63 (by decide) (fun h => ?_) (fun h => ?_)
        · refine lv_iload_n C.1 C.2.1 dX9_isAsked_80 rfl (lv_at hl 0 rfl) ?_
          refine r_bipush C dX9_isAsked_81 (by decide +kernel) ?_
          refine r_icmp_ne (tgt := 100) C h dX9_isAsked_83 (by decide) (fun h => ?_) (fun h => ?_)
          · refine lv_lload_n C.1 C.2.1 dX9_isAsked_100 rfl (lv_at hl 1 rfl) ?_
            refine lv_lload_n C.1 C.2.1 dX9_isAsked_101 rfl (lv_at hl 2 rfl) ?_
            refine r_lcmp C dX9_isAsked_102 ?_
            refine r_if_eq (tgt := 110) C h dX9_isAsked_103 (by decide) (fun h => ?_) (fun h => ?_)
            · refine r_iconst C dX9_isAsked_110 ?_
              cases h
              exact hR _ _ _ _ dX9_isAsked_111 g_nz0 hp
            · refine r_iconst C dX9_isAsked_106 ?_
              refine r_goto (tgt := 111) C dX9_isAsked_107 (by decide) ?_
              cases h
              exact hR _ _ _ _ dX9_isAsked_111 g_nz1 hp
          · refine lv_lload_n C.1 C.2.1 dX9_isAsked_86 rfl (lv_at hl 1 rfl) ?_
            refine lv_lload_n C.1 C.2.1 dX9_isAsked_87 rfl (lv_at hl 2 rfl) ?_
            refine r_lcmp C dX9_isAsked_88 ?_
            refine r_if_ne (tgt := 96) C h dX9_isAsked_89 (by decide) (fun h => ?_) (fun h => ?_)
            · refine r_iconst C dX9_isAsked_96 ?_
              refine r_goto (tgt := 111) C dX9_isAsked_97 (by decide) ?_
              cases h
              exact hR _ _ _ _ dX9_isAsked_111 g_nz0 hp
            · refine r_iconst C dX9_isAsked_92 ?_
              refine r_goto (tgt := 111) C dX9_isAsked_93 (by decide) ?_
              cases h
              exact hR _ _ _ _ dX9_isAsked_111 g_nz1 hp
        · refine lv_lload_n C.1 C.2.1 dX9_isAsked_66 rfl (lv_at hl 1 rfl) ?_
          refine lv_lload_n C.1 C.2.1 dX9_isAsked_67 rfl (lv_at hl 2 rfl) ?_
          refine r_lcmp C dX9_isAsked_68 ?_
          refine r_if_lt (tgt := 76) C h dX9_isAsked_69 (by decide) (fun h => ?_) (fun h => ?_)
          · refine r_iconst C dX9_isAsked_76 ?_
            refine r_goto (tgt := 111) C dX9_isAsked_77 (by decide) ?_
            cases h
            exact hR _ _ _ _ dX9_isAsked_111 g_nz0 hp
          · refine r_iconst C dX9_isAsked_72 ?_
            refine r_goto (tgt := 111) C dX9_isAsked_73 (by decide) ?_
            cases h
            exact hR _ _ _ _ dX9_isAsked_111 g_nz1 hp
      · refine lv_lload_n C.1 C.2.1 dX9_isAsked_46 rfl (lv_at hl 1 rfl) ?_
        refine lv_lload_n C.1 C.2.1 dX9_isAsked_47 rfl (lv_at hl 2 rfl) ?_
        refine r_lcmp C dX9_isAsked_48 ?_
        refine r_if_le (tgt := 56) C h dX9_isAsked_49 (by decide) (fun h => ?_) (fun h => ?_)
        · refine r_iconst C dX9_isAsked_56 ?_
          refine r_goto (tgt := 111) C dX9_isAsked_57 (by decide) ?_
          cases h
          exact hR _ _ _ _ dX9_isAsked_111 g_nz0 hp
        · refine r_iconst C dX9_isAsked_52 ?_
          refine r_goto (tgt := 111) C dX9_isAsked_53 (by decide) ?_
          cases h
          exact hR _ _ _ _ dX9_isAsked_111 g_nz1 hp
    · refine lv_lload_n C.1 C.2.1 dX9_isAsked_26 rfl (lv_at hl 1 rfl) ?_
      refine lv_lload_n C.1 C.2.1 dX9_isAsked_27 rfl (lv_at hl 2 rfl) ?_
      refine r_lcmp C dX9_isAsked_28 ?_
      refine r_if_gt (tgt := 36) C h dX9_isAsked_29 (by decide) (fun h => ?_) (fun h => ?_)
      · refine r_iconst C dX9_isAsked_36 ?_
        refine r_goto (tgt := 111) C dX9_isAsked_37 (by decide) ?_
        cases h
        exact hR _ _ _ _ dX9_isAsked_111 g_nz0 hp
      · refine r_iconst C dX9_isAsked_32 ?_
        refine r_goto (tgt := 111) C dX9_isAsked_33 (by decide) ?_
        cases h
        exact hR _ _ _ _ dX9_isAsked_111 g_nz1 hp
  · refine lv_lload_n C.1 C.2.1 dX9_isAsked_6 rfl (lv_at hl 1 rfl) ?_
    refine lv_lload_n C.1 C.2.1 dX9_isAsked_7 rfl (lv_at hl 2 rfl) ?_
    refine r_lcmp C dX9_isAsked_8 ?_
    refine r_if_ge (tgt := 16) C h dX9_isAsked_9 (by decide) (fun h => ?_) (fun h => ?_)
    · refine r_iconst C dX9_isAsked_16 ?_
      refine r_goto (tgt := 111) C dX9_isAsked_17 (by decide) ?_
      cases h
      exact hR _ _ _ _ dX9_isAsked_111 g_nz0 hp
    · refine r_iconst C dX9_isAsked_12 ?_
      refine r_goto (tgt := 111) C dX9_isAsked_13 (by decide) ?_
      cases h
      exact hR _ _ _ _ dX9_isAsked_111 g_nz1 hp
theorem c_X9_isAsked (l : Launch) {V : g_V} (hok : g_ok mG V) {a1 : Int} {a2 : Int} {a3 : Int} {M : g_M} {x : Int} (h : m_X9_isAsked a1 a2 a3 = some x) : MetI mG V l yX9_isAsked cX9_isAsked 5 (some .boolean) 0 0 [.int (gI a1), .long (gJ a2), .long (gJ a3)] M x M :=
  g_metI hok cal_X9_isAsked.2.2.2 rfl (Nat.le_of_ble_eq_true rfl) (@fun p e R s m args below meth c Q ls C hR hp hl => b_X9_isAsked C hR h hp hl)
set_option maxRecDepth 100000 in
set_option maxHeartbeats 4000000 in
theorem b_X9_kindOf (C : g_CX mG V p R s m args meth c cX9_kindOf 3 (some .long) RX9 0 0) {res : Int} {M : g_M} (hR : g_RetL mG V p l e R s m args below meth c Q cX9_kindOf res M) {a1 : Int} {H : Heap} {locs : List Loc} {ls : Array Slot} (h : m_X9_kindOf a1 M = some res) (hp : g_PT mG V M s H locs) (hl : lv_has ls 3 [(0, .ref (V.2.2 0)), (1, .long (gJ a1))]) : W p l e R s m args below meth c H locs 0 0 Q (F0 m 0 ls []) := by
  unfold m_X9_kindOf at h
  refine r_jn (P := fun J => ∀  (H : Heap) (locs : List Loc) (ls : Array Slot), J  = some res → g_PT mG V M s H locs → lv_has ls 3 [] → W p l e R s m args below meth c H locs 0 0 Q (F0 m 28 ls [])) h ?_ (fun J11 hJ11 h => ?_)
  · intro  H locs ls h hp hl
    refine r_lconst (z := 0) C dX9_kindOf_28 rfl ?_
    cases h
    exact hR _ _ _ _ dX9_kindOf_29 hp
  refine lv_lload_n C.1 C.2.1 dX9_kindOf_0 rfl (lv_at hl 1 rfl) ?_
  refine r_lconst (z := 0) C dX9_kindOf_1 rfl ?_
  refine r_lcmp C dX9_kindOf_2 ?_
  refine r_if_lt (tgt := 28) C h dX9_kindOf_3 (by decide) (fun h => ?_) (fun h => ?_)
  · exact hJ11  _ _ _ h hp (lv_sub hl [] rfl)
  · refine lv_lload_n C.1 C.2.1 dX9_kindOf_6 rfl (lv_at hl 1 rfl) ?_
    refine r_ldc2 (n := 12) C gw_1659 (by decide +kernel) dX9_kindOf_7 ?_
    refine r_lcmp C dX9_kindOf_10 ?_
    refine r_if_ge (tgt := 28) C h dX9_kindOf_11 (by decide) (fun h => ?_) (fun h => ?_)
    · exact hJ11  _ _ _ h hp (lv_sub hl [] rfl)
    · refine lv_aload_n C.1 C.2.1 dX9_kindOf_14 rfl (lv_at hl 0 rfl) ?_
      refine r_getr (t := 1) C hp mk_0 ms_0 mc_0 min_0 (j := 0) (by decide) rfl gw_1256 rfl dX9_kindOf_15 ?_
      refine r_bipush C dX9_kindOf_18 (by decide +kernel) ?_
      refine lv_lload_n C.1 C.2.1 dX9_kindOf_20 rfl (lv_at hl 1 rfl) ?_
      refine r_l2i C dX9_kindOf_21 ?_
      refine r_iadd C dX9_kindOf_22 ?_
      refine r_iald C hp h mk_1 ms_1 dX9_kindOf_23 (fun h => ?_)
      refine r_i2l C dX9_kindOf_24 ?_
      refine r_goto (tgt := 29) C dX9_kindOf_25 (by decide) ?_
      cases h
      exact hR _ _ _ _ dX9_kindOf_29 hp
theorem c_X9_kindOf (l : Launch) {V : g_V} (hok : g_ok mG V) {a1 : Int} {M : g_M} {x : Int} (h : m_X9_kindOf a1 M = some x) : MetL mG V l yX9_kindOf cX9_kindOf 3 (some .long) 0 0 [.ref (V.2.2 0), .long (gJ a1)] M x M :=
  g_metL hok cal_X9_kindOf.2.2.2 rfl (Nat.le_of_ble_eq_true rfl) (@fun p e R s m args below meth c Q ls C hR hp hl => b_X9_kindOf C hR h hp hl)
set_option maxRecDepth 100000 in
set_option maxHeartbeats 4000000 in
theorem b_X9_restOf (C : g_CX mG V p R s m args meth c cX9_restOf 4 (some .long) RX9 0 0) {res : Int} {M : g_M} (hR : g_RetL mG V p l e R s m args below meth c Q cX9_restOf res M) {a1 : Int} {a2 : Int} {H : Heap} {locs : List Loc} {ls : Array Slot} (h : m_X9_restOf a1 a2 = some res) (hp : g_PT mG V M s H locs) (hl : lv_has ls 4 [(0, .long (gJ a1)), (2, .long (gJ a2))]) : W p l e R s m args below meth c H locs 0 0 Q (F0 m 0 ls []) := by
  unfold m_X9_restOf at h
  refine lv_lload_n C.1 C.2.1 dX9_restOf_0 rfl (lv_at hl 1 rfl) ?_
  refine r_lconst (z := 0) C dX9_restOf_1 rfl ?_
  refine r_lcmp C dX9_restOf_2 ?_
  refine r_if_ne (tgt := 10) C h dX9_restOf_3 (by decide) (fun h => ?_) (fun h => ?_)
  · refine lv_lload_n C.1 C.2.1 dX9_restOf_10 rfl (lv_at hl 0 rfl) ?_
    refine lv_lload_n C.1 C.2.1 dX9_restOf_11 rfl (lv_at hl 1 rfl) ?_
    refine r_lrem C h dX9_restOf_12 (fun h => ?_)
    cases h
    exact hR _ _ _ _ dX9_restOf_13 hp
  · refine r_lconst (z := 0) C dX9_restOf_6 rfl ?_
    refine r_goto (tgt := 13) C dX9_restOf_7 (by decide) ?_
    cases h
    exact hR _ _ _ _ dX9_restOf_13 hp
theorem c_X9_restOf (l : Launch) {V : g_V} (hok : g_ok mG V) {a1 : Int} {a2 : Int} {M : g_M} {x : Int} (h : m_X9_restOf a1 a2 = some x) : MetL mG V l yX9_restOf cX9_restOf 4 (some .long) 0 0 [.long (gJ a1), .long (gJ a2)] M x M :=
  g_metL hok cal_X9_restOf.2.2.2 rfl (Nat.le_of_ble_eq_true rfl) (@fun p e R s m args below meth c Q ls C hR hp hl => b_X9_restOf C hR h hp hl)
set_option maxRecDepth 100000 in
set_option maxHeartbeats 4000000 in
theorem b_X9_joined (C : g_CX mG V p R s m args meth c cX9_joined 3 (some .boolean) RX9 0 0) {res : Int} {M : g_M} (hR : g_RetI mG V p l e R s m args below meth c Q cX9_joined .boolean res M) {a1 : Int} {a2 : Int} {a3 : Int} {H : Heap} {locs : List Loc} {ls : Array Slot} (h : m_X9_joined a1 a2 a3 = some res) (hp : g_PT mG V M s H locs) (hl : lv_has ls 3 [(0, .int (gI a1)), (1, .int (gI a2)), (2, .int (gI a3))]) : W p l e R s m args below meth c H locs 0 0 Q (F0 m 0 ls []) := by
  unfold m_X9_joined at h
  refine lv_iload_n C.1 C.2.1 dX9_joined_0 rfl (lv_at hl 0 rfl) ?_
  refine r_bipush C dX9_joined_1 (by decide +kernel) ?_
  refine r_icmp_ne (tgt := 22) C h dX9_joined_3 (by decide) (fun h => ?_) (fun h => ?_)
  · refine r_jn (P := fun J => ∀  (H : Heap) (locs : List Loc) (ls : Array Slot), J  = some res → g_PT mG V M s H locs → lv_has ls 3 [] → W p l e R s m args below meth c H locs 0 0 Q (F0 m 30 ls [])) h ?_ (fun J11 hJ11 h => ?_)
    · intro  H locs ls h hp hl
      refine r_iconst C dX9_joined_30 ?_
      refine r_goto (tgt := 35) C dX9_joined_31 (by decide) ?_
      cases h
      exact hR _ _ _ _ dX9_joined_35 g_nz1 hp
    refine lv_iload_n C.1 C.2.1 dX9_joined_22 rfl (lv_at hl 1 rfl) ?_
    refine r_if_ne (tgt := 30) C h dX9_joined_23 (by decide) (fun h => ?_) (fun h => ?_)
    · exact hJ11  _ _ _ h hp (lv_sub hl [] rfl)
    · refine lv_iload_n C.1 C.2.1 dX9_joined_26 rfl (lv_at hl 2 rfl) ?_
      refine r_if_eq (tgt := 34) C h dX9_joined_27 (by decide) (fun h => ?_) (fun h => ?_)
      · refine r_iconst C dX9_joined_34 ?_
        cases h
        exact hR _ _ _ _ dX9_joined_35 g_nz0 hp
      · exact hJ11  _ _ _ h hp (lv_sub hl [] rfl)
  · refine r_jn (P := fun J => ∀  (H : Heap) (locs : List Loc) (ls : Array Slot), J  = some res → g_PT mG V M s H locs → lv_has ls 3 [] → W p l e R s m args below meth c H locs 0 0 Q (F0 m 18 ls [])) h ?_ (fun J12 hJ12 h => ?_)
    · intro  H locs ls h hp hl
      refine r_iconst C dX9_joined_18 ?_
      refine r_goto (tgt := 35) C dX9_joined_19 (by decide) ?_
      cases h
      exact hR _ _ _ _ dX9_joined_35 g_nz0 hp
    refine lv_iload_n C.1 C.2.1 dX9_joined_6 rfl (lv_at hl 1 rfl) ?_
    refine r_if_eq (tgt := 18) C h dX9_joined_7 (by decide) (fun h => ?_) (fun h => ?_)
    · exact hJ12  _ _ _ h hp (lv_sub hl [] rfl)
    · refine lv_iload_n C.1 C.2.1 dX9_joined_10 rfl (lv_at hl 2 rfl) ?_
      refine r_if_eq (tgt := 18) C h dX9_joined_11 (by decide) (fun h => ?_) (fun h => ?_)
      · exact hJ12  _ _ _ h hp (lv_sub hl [] rfl)
      · refine r_iconst C dX9_joined_14 ?_
        refine r_goto (tgt := 35) C dX9_joined_15 (by decide) ?_
        cases h
        exact hR _ _ _ _ dX9_joined_35 g_nz1 hp
theorem c_X9_joined (l : Launch) {V : g_V} (hok : g_ok mG V) {a1 : Int} {a2 : Int} {a3 : Int} {M : g_M} {x : Int} (h : m_X9_joined a1 a2 a3 = some x) : MetI mG V l yX9_joined cX9_joined 3 (some .boolean) 0 0 [.int (gI a1), .int (gI a2), .int (gI a3)] M x M :=
  g_metI hok cal_X9_joined.2.2.2 rfl (Nat.le_of_ble_eq_true rfl) (@fun p e R s m args below meth c Q ls C hR hp hl => b_X9_joined C hR h hp hl)
set_option maxRecDepth 100000 in
set_option maxHeartbeats 4000000 in
theorem w_X9_summedUp_L38 (C : g_CX mG V p R s m args meth c cX9_summedUp 10 (some .long) RX9 2 45) {res : Int × g_M} (hR : g_RetL mG V p l e R s m args below meth c Q cX9_summedUp res.1 res.2) (x16 : Int) (x17 : Int) (k22 : g_M → Option (Int × g_M)) (hk22 : ∀ (M62 : g_M) (H : Heap) (locs : List Loc) (ls : Array Slot), k22 M62 = some res → g_PT mG V M62 s H locs → lv_has ls 10 [(0, .ref (V.2.2 0))] → W p l e R s m args below meth c H locs 0 0 Q (F0 m 401 ls [])) : ∀ (f : Nat) (x18 : Int) (x19 : Int) (x20 : Int) (M21 : g_M) (H : Heap) (locs : List Loc) (ls : Array Slot), m_X9_summedUp_L38 x16 x17 k22 f x18 x19 x20 M21 = some res → g_PT mG V M21 s H locs → lv_has ls 10 [(0, .ref (V.2.2 0)), (3, .int (gI x16)), (4, .int (gI x17)), (5, .int (gI x18)), (6, .int (gI x19)), (7, .int (gI x20))] → W p l e R s m args below meth c H locs 0 0 Q (F0 m 38 ls []) := by
  intro f
  induction f with
  | zero => intro x18 x19 x20 M21 H locs ls h hp hl; cases h
  | succ f ih =>
    intro x18 x19 x20 M21 H locs ls h hp hl
    rw [m_X9_summedUp_L38] at h
    refine lv_iload C.1 C.2.1 dX9_summedUp_38 (lv_at hl 5 rfl) ?_
    refine lv_aload_n C.1 C.2.1 dX9_summedUp_40 rfl (lv_at hl 0 rfl) ?_
    refine r_getr (t := 3) C hp mk_0 ms_0 mc_0 min_0 (j := 2) (by decide) rfl gw_1258 rfl dX9_summedUp_41 ?_
    refine lv_iload_n C.1 C.2.1 dX9_summedUp_44 rfl (lv_at hl 1 rfl) ?_
    refine r_iconst C dX9_summedUp_45 ?_
    refine r_iadd C dX9_summedUp_46 ?_
    refine r_iald C hp h mk_3 ms_3 dX9_summedUp_47 (fun h => ?_)
    refine r_icmp_ge (tgt := 401) C h dX9_summedUp_48 (by decide) (fun h => ?_) (fun h => ?_)
    · exact hk22 _ _ _ _ h hp (lv_sub hl [0] rfl)
    · refine r_jn (P := fun J => ∀ (x58 : Int) (x59 : Int) (M60 : g_M) (H : Heap) (locs : List Loc) (ls : Array Slot), J x58 x59 M60 = some res → g_PT mG V M60 s H locs → lv_has ls 10 [(0, .ref (V.2.2 0)), (3, .int (gI x16)), (4, .int (gI x17)), (5, .int (gI x58)), (6, .int (gI x59)), (7, .int (gI x20))] → W p l e R s m args below meth c H locs 0 0 Q (F0 m 395 ls [])) h ?_ (fun J23 hJ23 h => ?_)
      · intro x58 x59 M60 H locs ls h hp hl
        refine r_iinc (lv' := fun x61 => [(7, .int (gI x61)), (0, .ref (V.2.2 0)), (3, .int (gI x16)), (4, .int (gI x17)), (5, .int (gI x58)), (6, .int (gI x59))]) C h dX9_summedUp_395 hl (j := 5) rfl (by decide) (fun _ => rfl) (fun x61 ls h hl => ?_)
        refine r_goto (tgt := 38) C dX9_summedUp_398 (by decide) ?_
        exact ih _ _ _ _ _ _ _ h hp (lv_sub hl [1, 2, 3, 4, 5, 0] rfl)
      refine lv_aload_n C.1 C.2.1 dX9_summedUp_51 rfl (lv_at hl 0 rfl) ?_
      refine r_getr (t := 3) C hp mk_0 ms_0 mc_0 min_0 (j := 2) (by decide) rfl gw_1258 rfl dX9_summedUp_52 ?_
      refine lv_iload C.1 C.2.1 dX9_summedUp_55 (lv_at hl 2 rfl) ?_
      refine r_iconst C dX9_summedUp_57 ?_
      refine lv_iload C.1 C.2.1 dX9_summedUp_58 (lv_at hl 5 rfl) ?_
      refine r_imul C dX9_summedUp_60 ?_
      refine r_iadd C dX9_summedUp_61 ?_
      refine r_iald C hp h mk_3 ms_3 dX9_summedUp_62 (fun h => ?_)
      refine r_istore (lv' := fun x24 => [(8, .int (gI x24)), (0, .ref (V.2.2 0)), (3, .int (gI x16)), (4, .int (gI x17)), (5, .int (gI x18)), (6, .int (gI x19)), (7, .int (gI x20))]) C h dX9_summedUp_63 hl (by decide) (fun _ => rfl) (fun x24 ls h hl => ?_)
      refine lv_aload_n C.1 C.2.1 dX9_summedUp_65 rfl (lv_at hl 1 rfl) ?_
      refine r_getr (t := 3) C hp mk_0 ms_0 mc_0 min_0 (j := 2) (by decide) rfl gw_1258 rfl dX9_summedUp_66 ?_
      refine lv_iload C.1 C.2.1 dX9_summedUp_69 (lv_at hl 3 rfl) ?_
      refine r_iconst C dX9_summedUp_71 ?_
      refine lv_iload C.1 C.2.1 dX9_summedUp_72 (lv_at hl 6 rfl) ?_
      refine r_imul C dX9_summedUp_74 ?_
      refine r_iadd C dX9_summedUp_75 ?_
      refine r_iconst C dX9_summedUp_76 ?_
      refine r_iadd C dX9_summedUp_77 ?_
      refine r_iald C hp h mk_3 ms_3 dX9_summedUp_78 (fun h => ?_)
      refine r_istore (lv' := fun x25 => [(9, .int (gI x25)), (8, .int (gI x24)), (0, .ref (V.2.2 0)), (3, .int (gI x16)), (4, .int (gI x17)), (5, .int (gI x18)), (6, .int (gI x19)), (7, .int (gI x20))]) C h dX9_summedUp_79 hl (by decide) (fun _ => rfl) (fun x25 ls h hl => ?_)
      refine lv_iload C.1 C.2.1 dX9_summedUp_81 (lv_at hl 1 rfl) ?_
      refine r_iconst C dX9_summedUp_83 ?_
      refine r_icmp_gt (tgt := 119) C h dX9_summedUp_84 (by decide) (fun h => ?_) (fun h => ?_)
      · refine lv_iload C.1 C.2.1 dX9_summedUp_119 (lv_at hl 1 rfl) ?_
        refine r_iconst C dX9_summedUp_121 ?_
        refine r_icmp_ne (tgt := 160) C h dX9_summedUp_122 (by decide) (fun h => ?_) (fun h => ?_)
        · refine lv_iload C.1 C.2.1 dX9_summedUp_160 (lv_at hl 1 rfl) ?_
          refine r_iconst C dX9_summedUp_162 ?_
          refine r_icmp_gt (tgt := 210) C h dX9_summedUp_163 (by decide) (fun h => ?_) (fun h => ?_)
          · refine lv_iload C.1 C.2.1 dX9_summedUp_210 (lv_at hl 1 rfl) ?_
            refine r_bipush C dX9_summedUp_212 (by decide +kernel) ?_
            refine r_icmp_ge (tgt := 282) C h dX9_summedUp_214 (by decide) (fun h => ?_) (fun h => ?_)
            · refine lv_iload C.1 C.2.1 dX9_summedUp_282 (lv_at hl 1 rfl) ?_
              refine r_bipush C dX9_summedUp_284 (by decide +kernel) ?_
              refine r_icmp_ge (tgt := 326) C h dX9_summedUp_286 (by decide) (fun h => ?_) (fun h => ?_)
              · refine lv_iload C.1 C.2.1 dX9_summedUp_326 (lv_at hl 1 rfl) ?_
                refine r_bipush C dX9_summedUp_328 (by decide +kernel) ?_
                refine r_icmp_ne (tgt := 362) C h dX9_summedUp_330 (by decide) (fun h => ?_) (fun h => ?_)
                · refine r_iinc (lv' := fun x26 => [(6, .int (gI x26)), (9, .int (gI x25)), (8, .int (gI x24)), (0, .ref (V.2.2 0)), (3, .int (gI x16)), (4, .int (gI x17)), (5, .int (gI x18)), (7, .int (gI x20))]) C h dX9_summedUp_362 hl (j := 6) rfl (by decide) (fun _ => rfl) (fun x26 ls h hl => ?_)
                  refine lv_aload_n C.1 C.2.1 dX9_summedUp_365 rfl (lv_at hl 3 rfl) ?_
                  refine r_getr (t := 8) C hp mk_0 ms_0 mc_0 min_0 (j := 22) (by decide) rfl gw_1278 rfl dX9_summedUp_366 ?_
                  refine lv_iload C.1 C.2.1 dX9_summedUp_369 (lv_at hl 0 rfl) ?_
                  refine r_iconst C dX9_summedUp_371 ?_
                  refine r_isub C dX9_summedUp_372 ?_
                  refine lv_iload C.1 C.2.1 dX9_summedUp_373 (lv_at hl 2 rfl) ?_
                  refine lv_aload_n C.1 C.2.1 dX9_summedUp_375 rfl (lv_at hl 3 rfl) ?_
                  refine r_getr (t := 8) C hp mk_0 ms_0 mc_0 min_0 (j := 22) (by decide) rfl gw_1278 rfl dX9_summedUp_376 ?_
                  refine lv_iload C.1 C.2.1 dX9_summedUp_379 (lv_at hl 0 rfl) ?_
                  refine r_iconst C dX9_summedUp_381 ?_
                  refine r_isub C dX9_summedUp_382 ?_
                  refine r_zald C hp h mk_8 ms_8 dX9_summedUp_383 (fun h => ?_)
                  refine lv_aload_n C.1 C.2.1 dX9_summedUp_384 rfl (lv_at hl 3 rfl) ?_
                  refine r_getr (t := 8) C hp mk_0 ms_0 mc_0 min_0 (j := 22) (by decide) rfl gw_1278 rfl dX9_summedUp_385 ?_
                  refine lv_iload C.1 C.2.1 dX9_summedUp_388 (lv_at hl 0 rfl) ?_
                  refine r_zald C hp h mk_8 ms_8 dX9_summedUp_390 (fun h => ?_)
                  obtain ⟨x27, hr, h⟩ := bd_of h
                  refine r_callSI (As := [.int (gI x24), .int (gI (M21 8 (gs (x26 - 1)).toNat)), .int (gI (M21 8 (gs x26).toNat))]) (rest := [.int (gI (x26 - 1)), .ref (V.2.2 8)]) C hl.1 hp (c_X9_joined l C.2.2.2.2.2.2.2.2.2.2.2 hr) gw_1674 gw_1675 cal_X9_joined rfl rfl (Nat.le_of_ble_eq_true rfl) ⟨Nat.le_of_ble_eq_true rfl, Nat.le_of_ble_eq_true rfl⟩ dX9_summedUp_391 (fun H locs hp => ?_)
                  refine r_zast C hp h mk_8 ms_8 dX9_summedUp_394 (fun M28 H locs h hp => ?_)
                  exact hJ23 _ _ _ _ _ _ h hp (lv_sub hl [3, 4, 5, 6, 0, 7] rfl)
                · refine r_jn (P := fun J => ∀ (x30 : Int) (x31 : Int) (H : Heap) (locs : List Loc) (ls : Array Slot), J x30 x31 = some res → g_PT mG V M21 s H locs → lv_has ls 10 [(0, .ref (V.2.2 0)), (3, .int (gI x16)), (4, .int (gI x17)), (5, .int (gI x18)), (6, .int (gI x19)), (7, .int (gI x20))] → W p l e R s m args below meth c H locs 0 0 Q (F0 m 358 ls [.int (gI x30), .int (gI x31), .ref (V.2.2 8)])) h ?_ (fun J29 hJ29 h => ?_)
                  · intro x30 x31 H locs ls h hp hl
                    refine r_zast C hp h mk_8 ms_8 dX9_summedUp_358 (fun M32 H locs h hp => ?_)
                    refine r_goto (tgt := 395) C dX9_summedUp_359 (by decide) ?_
                    exact hJ23 _ _ _ _ _ _ h hp hl
                  refine lv_aload_n C.1 C.2.1 dX9_summedUp_333 rfl (lv_at hl 2 rfl) ?_
                  refine r_getr (t := 8) C hp mk_0 ms_0 mc_0 min_0 (j := 22) (by decide) rfl gw_1278 rfl dX9_summedUp_334 ?_
                  refine lv_iload C.1 C.2.1 dX9_summedUp_337 (lv_at hl 6 rfl) ?_
                  refine r_iconst C dX9_summedUp_339 ?_
                  refine r_isub C dX9_summedUp_340 ?_
                  refine lv_aload_n C.1 C.2.1 dX9_summedUp_341 rfl (lv_at hl 2 rfl) ?_
                  refine r_getr (t := 8) C hp mk_0 ms_0 mc_0 min_0 (j := 22) (by decide) rfl gw_1278 rfl dX9_summedUp_342 ?_
                  refine lv_iload C.1 C.2.1 dX9_summedUp_345 (lv_at hl 6 rfl) ?_
                  refine r_iconst C dX9_summedUp_347 ?_
                  refine r_isub C dX9_summedUp_348 ?_
                  refine r_zald C hp h mk_8 ms_8 dX9_summedUp_349 (fun h => ?_)
                  refine r_if_ne (tgt := 357) C h dX9_summedUp_350 (by decide) (fun h => ?_) (fun h => ?_)
                  · refine r_iconst C dX9_summedUp_357 ?_
                    exact hJ29 _ _ _ _ _ h hp (lv_sub hl [2, 3, 4, 5, 6, 7] rfl)
                  · refine r_iconst C dX9_summedUp_353 ?_
                    refine r_goto (tgt := 358) C dX9_summedUp_354 (by decide) ?_
                    exact hJ29 _ _ _ _ _ h hp (lv_sub hl [2, 3, 4, 5, 6, 7] rfl)
              · refine r_iinc (lv' := fun x33 => [(5, .int (gI x33)), (9, .int (gI x25)), (8, .int (gI x24)), (0, .ref (V.2.2 0)), (3, .int (gI x16)), (4, .int (gI x17)), (6, .int (gI x19)), (7, .int (gI x20))]) C h dX9_summedUp_289 hl (j := 5) rfl (by decide) (fun _ => rfl) (fun x33 ls h hl => ?_)
                refine lv_aload_n C.1 C.2.1 dX9_summedUp_292 rfl (lv_at hl 3 rfl) ?_
                refine r_getr (t := 8) C hp mk_0 ms_0 mc_0 min_0 (j := 22) (by decide) rfl gw_1278 rfl dX9_summedUp_293 ?_
                refine lv_iload C.1 C.2.1 dX9_summedUp_296 (lv_at hl 6 rfl) ?_
                refine lv_iload C.1 C.2.1 dX9_summedUp_298 (lv_at hl 2 rfl) ?_
                refine lv_aload_n C.1 C.2.1 dX9_summedUp_300 rfl (lv_at hl 3 rfl) ?_
                refine r_getr (t := 7) C hp mk_0 ms_0 mc_0 min_0 (j := 21) (by decide) rfl gw_1277 rfl dX9_summedUp_301 ?_
                refine lv_iload C.1 C.2.1 dX9_summedUp_304 (lv_at hl 0 rfl) ?_
                refine r_lald C hp h mk_7 ms_7 dX9_summedUp_306 (fun h => ?_)
                refine lv_aload_n C.1 C.2.1 dX9_summedUp_307 rfl (lv_at hl 3 rfl) ?_
                refine r_getr (t := 7) C hp mk_0 ms_0 mc_0 min_0 (j := 21) (by decide) rfl gw_1277 rfl dX9_summedUp_308 ?_
                refine lv_iload C.1 C.2.1 dX9_summedUp_311 (lv_at hl 0 rfl) ?_
                refine r_iconst C dX9_summedUp_313 ?_
                refine r_iadd C dX9_summedUp_314 ?_
                refine r_lald C hp h mk_7 ms_7 dX9_summedUp_315 (fun h => ?_)
                obtain ⟨x34, hr, h⟩ := bd_of h
                refine r_callSI (As := [.int (gI x24), .long (gJ (M21 7 (gs x33).toNat)), .long (gJ (M21 7 (gs (x33 + 1)).toNat))]) (rest := [.int (gI x19), .ref (V.2.2 8)]) C hl.1 hp (c_X9_isAsked l C.2.2.2.2.2.2.2.2.2.2.2 hr) gw_1671 gw_1672 cal_X9_isAsked rfl rfl (Nat.le_of_ble_eq_true rfl) ⟨Nat.le_of_ble_eq_true rfl, Nat.le_of_ble_eq_true rfl⟩ dX9_summedUp_316 (fun H locs hp => ?_)
                refine r_zast C hp h mk_8 ms_8 dX9_summedUp_319 (fun M35 H locs h hp => ?_)
                refine r_iinc (lv' := fun x36 => [(6, .int (gI x36)), (5, .int (gI x33)), (9, .int (gI x25)), (8, .int (gI x24)), (0, .ref (V.2.2 0)), (3, .int (gI x16)), (4, .int (gI x17)), (7, .int (gI x20))]) C h dX9_summedUp_320 hl (j := 6) rfl (by decide) (fun _ => rfl) (fun x36 ls h hl => ?_)
                refine r_goto (tgt := 395) C dX9_summedUp_323 (by decide) ?_
                exact hJ23 _ _ _ _ _ _ h hp (lv_sub hl [4, 5, 6, 1, 0, 7] rfl)
            · refine r_jn (P := fun J => ∀ (x41 : Int) (x42 : Int) (x43 : Int) (H : Heap) (locs : List Loc) (ls : Array Slot), J x41 x42 x43 = some res → g_PT mG V M21 s H locs → lv_has ls 10 [(0, .ref (V.2.2 0)), (3, .int (gI x16)), (4, .int (gI x17)), (5, .int (gI x41)), (6, .int (gI x19)), (7, .int (gI x20))] → W p l e R s m args below meth c H locs 0 0 Q (F0 m 278 ls [.long (gJ x42), .int (gI x43), .ref (V.2.2 7)])) h ?_ (fun J37 hJ37 h => ?_)
              · intro x41 x42 x43 H locs ls h hp hl
                refine r_last C hp h mk_7 ms_7 dX9_summedUp_278 (fun M44 H locs h hp => ?_)
                refine r_goto (tgt := 395) C dX9_summedUp_279 (by decide) ?_
                exact hJ23 _ _ _ _ _ _ h hp hl
              refine r_iinc (lv' := fun x38 => [(5, .int (gI x38)), (9, .int (gI x25)), (8, .int (gI x24)), (0, .ref (V.2.2 0)), (3, .int (gI x16)), (4, .int (gI x17)), (6, .int (gI x19)), (7, .int (gI x20))]) C h dX9_summedUp_217 hl (j := 5) rfl (by decide) (fun _ => rfl) (fun x38 ls h hl => ?_)
              refine lv_aload_n C.1 C.2.1 dX9_summedUp_220 rfl (lv_at hl 3 rfl) ?_
              refine r_getr (t := 7) C hp mk_0 ms_0 mc_0 min_0 (j := 21) (by decide) rfl gw_1277 rfl dX9_summedUp_221 ?_
              refine lv_iload C.1 C.2.1 dX9_summedUp_224 (lv_at hl 0 rfl) ?_
              refine r_iconst C dX9_summedUp_226 ?_
              refine r_isub C dX9_summedUp_227 ?_
              refine lv_iload C.1 C.2.1 dX9_summedUp_228 (lv_at hl 2 rfl) ?_
              refine r_bipush C dX9_summedUp_230 (by decide +kernel) ?_
              refine r_icmp_ne (tgt := 257) C h dX9_summedUp_232 (by decide) (fun h => ?_) (fun h => ?_)
              · refine lv_iload C.1 C.2.1 dX9_summedUp_257 (lv_at hl 2 rfl) ?_
                refine lv_aload_n C.1 C.2.1 dX9_summedUp_259 rfl (lv_at hl 3 rfl) ?_
                refine r_getr (t := 7) C hp mk_0 ms_0 mc_0 min_0 (j := 21) (by decide) rfl gw_1277 rfl dX9_summedUp_260 ?_
                refine lv_iload C.1 C.2.1 dX9_summedUp_263 (lv_at hl 0 rfl) ?_
                refine r_iconst C dX9_summedUp_265 ?_
                refine r_isub C dX9_summedUp_266 ?_
                refine r_lald C hp h mk_7 ms_7 dX9_summedUp_267 (fun h => ?_)
                refine lv_aload_n C.1 C.2.1 dX9_summedUp_268 rfl (lv_at hl 3 rfl) ?_
                refine r_getr (t := 7) C hp mk_0 ms_0 mc_0 min_0 (j := 21) (by decide) rfl gw_1277 rfl dX9_summedUp_269 ?_
                refine lv_iload C.1 C.2.1 dX9_summedUp_272 (lv_at hl 0 rfl) ?_
                refine r_lald C hp h mk_7 ms_7 dX9_summedUp_274 (fun h => ?_)
                obtain ⟨x39, hr, h⟩ := bd_of h
                refine r_callSL (As := [.int (gI x24), .long (gJ (M21 7 (gs (x38 - 1)).toNat)), .long (gJ (M21 7 (gs x38).toNat))]) (rest := [.int (gI (x38 - 1)), .ref (V.2.2 7)]) C hl.1 hp (c_X9_two l C.2.2.2.2.2.2.2.2.2.2.2 hr) gw_1663 gw_1664 cal_X9_two rfl rfl (Nat.le_of_ble_eq_true rfl) ⟨Nat.le_of_ble_eq_true rfl, Nat.le_of_ble_eq_true rfl⟩ dX9_summedUp_275 (fun H locs hp => ?_)
                exact hJ37 _ _ _ _ _ _ h hp (lv_sub hl [3, 4, 5, 0, 6, 7] rfl)
              · refine lv_aload_n C.1 C.2.1 dX9_summedUp_235 rfl (lv_at hl 3 rfl) ?_
                refine r_getr (t := 7) C hp mk_0 ms_0 mc_0 min_0 (j := 21) (by decide) rfl gw_1277 rfl dX9_summedUp_236 ?_
                refine lv_iload C.1 C.2.1 dX9_summedUp_239 (lv_at hl 0 rfl) ?_
                refine r_iconst C dX9_summedUp_241 ?_
                refine r_isub C dX9_summedUp_242 ?_
                refine r_lald C hp h mk_7 ms_7 dX9_summedUp_243 (fun h => ?_)
                refine lv_aload_n C.1 C.2.1 dX9_summedUp_244 rfl (lv_at hl 3 rfl) ?_
                refine r_getr (t := 7) C hp mk_0 ms_0 mc_0 min_0 (j := 21) (by decide) rfl gw_1277 rfl dX9_summedUp_245 ?_
                refine lv_iload C.1 C.2.1 dX9_summedUp_248 (lv_at hl 0 rfl) ?_
                refine r_lald C hp h mk_7 ms_7 dX9_summedUp_250 (fun h => ?_)
                obtain ⟨x40, hr, h⟩ := bd_of h
                refine r_callSL (As := [.long (gJ (M21 7 (gs (x38 - 1)).toNat)), .long (gJ (M21 7 (gs x38).toNat))]) (rest := [.int (gI (x38 - 1)), .ref (V.2.2 7)]) C hl.1 hp (c_X9_restOf l C.2.2.2.2.2.2.2.2.2.2.2 hr) gw_1660 gw_1661 cal_X9_restOf rfl rfl (Nat.le_of_ble_eq_true rfl) ⟨Nat.le_of_ble_eq_true rfl, Nat.le_of_ble_eq_true rfl⟩ dX9_summedUp_251 (fun H locs hp => ?_)
                refine r_goto (tgt := 278) C dX9_summedUp_254 (by decide) ?_
                exact hJ37 _ _ _ _ _ _ h hp (lv_sub hl [3, 4, 5, 0, 6, 7] rfl)
          · refine r_jn (P := fun J => ∀ (x47 : Int) (x48 : Int) (H : Heap) (locs : List Loc) (ls : Array Slot), J x47 x48 = some res → g_PT mG V M21 s H locs → lv_has ls 10 [(0, .ref (V.2.2 0)), (3, .int (gI x16)), (4, .int (gI x17)), (5, .int (gI x18)), (6, .int (gI x19)), (7, .int (gI x20))] → W p l e R s m args below meth c H locs 0 0 Q (F0 m 206 ls [.long (gJ x47), .int (gI x48), .ref (V.2.2 7)])) h ?_ (fun J45 hJ45 h => ?_)
            · intro x47 x48 H locs ls h hp hl
              refine r_last C hp h mk_7 ms_7 dX9_summedUp_206 (fun M49 H locs h hp => ?_)
              refine r_goto (tgt := 395) C dX9_summedUp_207 (by decide) ?_
              exact hJ23 _ _ _ _ _ _ h hp hl
            refine lv_aload_n C.1 C.2.1 dX9_summedUp_166 rfl (lv_at hl 2 rfl) ?_
            refine r_getr (t := 7) C hp mk_0 ms_0 mc_0 min_0 (j := 21) (by decide) rfl gw_1277 rfl dX9_summedUp_167 ?_
            refine lv_iload C.1 C.2.1 dX9_summedUp_170 (lv_at hl 5 rfl) ?_
            refine r_iconst C dX9_summedUp_172 ?_
            refine r_isub C dX9_summedUp_173 ?_
            refine lv_iload C.1 C.2.1 dX9_summedUp_174 (lv_at hl 1 rfl) ?_
            refine r_iconst C dX9_summedUp_176 ?_
            refine r_icmp_ne (tgt := 193) C h dX9_summedUp_177 (by decide) (fun h => ?_) (fun h => ?_)
            · refine lv_aload_n C.1 C.2.1 dX9_summedUp_193 rfl (lv_at hl 2 rfl) ?_
              refine lv_aload_n C.1 C.2.1 dX9_summedUp_194 rfl (lv_at hl 2 rfl) ?_
              refine r_getr (t := 7) C hp mk_0 ms_0 mc_0 min_0 (j := 21) (by decide) rfl gw_1277 rfl dX9_summedUp_195 ?_
              refine lv_iload C.1 C.2.1 dX9_summedUp_198 (lv_at hl 5 rfl) ?_
              refine r_iconst C dX9_summedUp_200 ?_
              refine r_isub C dX9_summedUp_201 ?_
              refine r_lald C hp h mk_7 ms_7 dX9_summedUp_202 (fun h => ?_)
              obtain ⟨x46, hr, h⟩ := bd_of h
              refine r_callVL (As := [.long (gJ (M21 7 (gs (x18 - 1)).toNat))]) (rest := [.int (gI (x18 - 1)), .ref (V.2.2 7)]) C hl.1 hp (c_X9_kindOf l C.2.2.2.2.2.2.2.2.2.2.2 hr) gw_1655 gw_1657 gw_91 mk_0 ms_0 mc_0 cal_X9_kindOf rfl rfl (Nat.le_of_ble_eq_true rfl) ⟨Nat.le_of_ble_eq_true rfl, Nat.le_of_ble_eq_true rfl⟩ dX9_summedUp_203 (fun H locs hp => ?_)
              exact hJ45 _ _ _ _ _ h hp (lv_sub hl [2, 3, 4, 5, 6, 7] rfl)
            · refine lv_aload_n C.1 C.2.1 dX9_summedUp_180 rfl (lv_at hl 2 rfl) ?_
              refine r_getr (t := 7) C hp mk_0 ms_0 mc_0 min_0 (j := 21) (by decide) rfl gw_1277 rfl dX9_summedUp_181 ?_
              refine lv_iload C.1 C.2.1 dX9_summedUp_184 (lv_at hl 5 rfl) ?_
              refine r_iconst C dX9_summedUp_186 ?_
              refine r_isub C dX9_summedUp_187 ?_
              refine r_lald C hp h mk_7 ms_7 dX9_summedUp_188 (fun h => ?_)
              refine r_lneg C dX9_summedUp_189 ?_
              refine r_goto (tgt := 206) C dX9_summedUp_190 (by decide) ?_
              exact hJ45 _ _ _ _ _ h hp (lv_sub hl [2, 3, 4, 5, 6, 7] rfl)
        · refine r_iinc (lv' := fun x50 => [(5, .int (gI x50)), (9, .int (gI x25)), (8, .int (gI x24)), (0, .ref (V.2.2 0)), (3, .int (gI x16)), (4, .int (gI x17)), (6, .int (gI x19)), (7, .int (gI x20))]) C h dX9_summedUp_125 hl (j := 5) rfl (by decide) (fun _ => rfl) (fun x50 ls h hl => ?_)
          refine r_iinc (lv' := fun x51 => [(6, .int (gI x51)), (5, .int (gI x50)), (9, .int (gI x25)), (8, .int (gI x24)), (0, .ref (V.2.2 0)), (3, .int (gI x16)), (4, .int (gI x17)), (7, .int (gI x20))]) C h dX9_summedUp_128 hl (j := 6) rfl (by decide) (fun _ => rfl) (fun x51 ls h hl => ?_)
          refine lv_aload_n C.1 C.2.1 dX9_summedUp_131 rfl (lv_at hl 4 rfl) ?_
          refine r_getr (t := 8) C hp mk_0 ms_0 mc_0 min_0 (j := 22) (by decide) rfl gw_1278 rfl dX9_summedUp_132 ?_
          refine lv_iload C.1 C.2.1 dX9_summedUp_135 (lv_at hl 0 rfl) ?_
          refine r_zald C hp h mk_8 ms_8 dX9_summedUp_137 (fun h => ?_)
          refine r_if_ne (tgt := 395) C h dX9_summedUp_138 (by decide) (fun h => ?_) (fun h => ?_)
          · exact hJ23 _ _ _ _ _ _ h hp (lv_sub hl [4, 5, 6, 1, 0, 7] rfl)
          · refine lv_aload_n C.1 C.2.1 dX9_summedUp_141 rfl (lv_at hl 4 rfl) ?_
            refine r_getr (t := 7) C hp mk_0 ms_0 mc_0 min_0 (j := 21) (by decide) rfl gw_1277 rfl dX9_summedUp_142 ?_
            refine lv_iload C.1 C.2.1 dX9_summedUp_145 (lv_at hl 1 rfl) ?_
            refine r_iconst C dX9_summedUp_147 ?_
            refine r_isub C dX9_summedUp_148 ?_
            refine lv_aload_n C.1 C.2.1 dX9_summedUp_149 rfl (lv_at hl 4 rfl) ?_
            refine r_getr (t := 7) C hp mk_0 ms_0 mc_0 min_0 (j := 21) (by decide) rfl gw_1277 rfl dX9_summedUp_150 ?_
            refine lv_iload C.1 C.2.1 dX9_summedUp_153 (lv_at hl 1 rfl) ?_
            refine r_lald C hp h mk_7 ms_7 dX9_summedUp_155 (fun h => ?_)
            refine r_last C hp h mk_7 ms_7 dX9_summedUp_156 (fun M52 H locs h hp => ?_)
            refine r_goto (tgt := 395) C dX9_summedUp_157 (by decide) ?_
            exact hJ23 _ _ _ _ _ _ h hp (lv_sub hl [4, 5, 6, 1, 0, 7] rfl)
      · refine r_jn (P := fun J => ∀ (x54 : Int) (x55 : Int) (H : Heap) (locs : List Loc) (ls : Array Slot), J x54 x55 = some res → g_PT mG V M21 s H locs → lv_has ls 10 [(0, .ref (V.2.2 0)), (3, .int (gI x16)), (4, .int (gI x17)), (5, .int (gI x18)), (6, .int (gI x19)), (7, .int (gI x20))] → W p l e R s m args below meth c H locs 0 0 Q (F0 m 112 ls [.long (gJ x54), .int (gI x55), .ref (V.2.2 7)])) h ?_ (fun J53 hJ53 h => ?_)
        · intro x54 x55 H locs ls h hp hl
          refine r_last C hp h mk_7 ms_7 dX9_summedUp_112 (fun M56 H locs h hp => ?_)
          refine r_iinc (lv' := fun x57 => [(5, .int (gI x57)), (0, .ref (V.2.2 0)), (3, .int (gI x16)), (4, .int (gI x17)), (6, .int (gI x19)), (7, .int (gI x20))]) C h dX9_summedUp_113 hl (j := 3) rfl (by decide) (fun _ => rfl) (fun x57 ls h hl => ?_)
          refine r_goto (tgt := 395) C dX9_summedUp_116 (by decide) ?_
          exact hJ23 _ _ _ _ _ _ h hp (lv_sub hl [1, 2, 3, 0, 4, 5] rfl)
        refine lv_aload_n C.1 C.2.1 dX9_summedUp_87 rfl (lv_at hl 2 rfl) ?_
        refine r_getr (t := 7) C hp mk_0 ms_0 mc_0 min_0 (j := 21) (by decide) rfl gw_1277 rfl dX9_summedUp_88 ?_
        refine lv_iload C.1 C.2.1 dX9_summedUp_91 (lv_at hl 5 rfl) ?_
        refine lv_iload C.1 C.2.1 dX9_summedUp_93 (lv_at hl 1 rfl) ?_
        refine r_if_ne (tgt := 104) C h dX9_summedUp_95 (by decide) (fun h => ?_) (fun h => ?_)
        · refine lv_aload_n C.1 C.2.1 dX9_summedUp_104 rfl (lv_at hl 2 rfl) ?_
          refine r_getr (t := 6) C hp mk_0 ms_0 mc_0 min_0 (j := 20) (by decide) rfl gw_1276 rfl dX9_summedUp_105 ?_
          refine lv_iload C.1 C.2.1 dX9_summedUp_108 (lv_at hl 0 rfl) ?_
          refine r_iald C hp h mk_6 ms_6 dX9_summedUp_110 (fun h => ?_)
          refine r_i2l C dX9_summedUp_111 ?_
          exact hJ53 _ _ _ _ _ h hp (lv_sub hl [2, 3, 4, 5, 6, 7] rfl)
        · refine lv_iload C.1 C.2.1 dX9_summedUp_98 (lv_at hl 0 rfl) ?_
          refine r_i2l C dX9_summedUp_100 ?_
          refine r_goto (tgt := 112) C dX9_summedUp_101 (by decide) ?_
          exact hJ53 _ _ _ _ _ h hp (lv_sub hl [2, 3, 4, 5, 6, 7] rfl)
set_option maxRecDepth 100000 in
set_option maxHeartbeats 4000000 in
theorem b_X9_summedUp (C : g_CX mG V p R s m args meth c cX9_summedUp 10 (some .long) RX9 2 45) {res : Int × g_M} (hR : g_RetL mG V p l e R s m args below meth c Q cX9_summedUp res.1 res.2) {a1 : Int} {a2 : Int} {M : g_M} {H : Heap} {locs : List Loc} {ls : Array Slot} (h : m_X9_summedUp a1 a2 M = some res) (hp : g_PT mG V M s H locs) (hl : lv_has ls 10 [(0, .ref (V.2.2 0)), (1, .int (gI a1)), (2, .int (gI a2))]) : W p l e R s m args below meth c H locs 0 0 Q (F0 m 0 ls []) := by
  unfold m_X9_summedUp at h
  refine r_sipush C dX9_summedUp_0 (by decide +kernel) ?_
  refine lv_iload_n C.1 C.2.1 dX9_summedUp_3 rfl (lv_at hl 1 rfl) ?_
  refine r_imul C dX9_summedUp_4 ?_
  refine r_iconst C dX9_summedUp_5 ?_
  refine r_iadd C dX9_summedUp_6 ?_
  refine r_iconst C dX9_summedUp_7 ?_
  refine lv_iload_n C.1 C.2.1 dX9_summedUp_8 rfl (lv_at hl 2 rfl) ?_
  refine r_imul C dX9_summedUp_9 ?_
  refine r_iadd C dX9_summedUp_10 ?_
  refine r_istore_n (lv' := fun x11 => [(3, .int (gI x11)), (0, .ref (V.2.2 0)), (1, .int (gI a1)), (2, .int (gI a2))]) C h dX9_summedUp_11 rfl hl (by decide) (fun _ => rfl) (fun x11 ls h hl => ?_)
  refine r_sipush C dX9_summedUp_12 (by decide +kernel) ?_
  refine lv_iload_n C.1 C.2.1 dX9_summedUp_15 rfl (lv_at hl 2 rfl) ?_
  refine r_imul C dX9_summedUp_16 ?_
  refine r_bipush C dX9_summedUp_17 (by decide +kernel) ?_
  refine r_iadd C dX9_summedUp_19 ?_
  refine r_istore (lv' := fun x12 => [(4, .int (gI x12)), (3, .int (gI x11)), (0, .ref (V.2.2 0)), (1, .int (gI a1)), (2, .int (gI a2))]) C h dX9_summedUp_20 hl (by decide) (fun _ => rfl) (fun x12 ls h hl => ?_)
  refine r_iconst C dX9_summedUp_22 ?_
  refine r_istore (lv' := fun x13 => [(5, .int (gI x13)), (4, .int (gI x12)), (3, .int (gI x11)), (0, .ref (V.2.2 0)), (1, .int (gI a1)), (2, .int (gI a2))]) C h dX9_summedUp_23 hl (by decide) (fun _ => rfl) (fun x13 ls h hl => ?_)
  refine r_iconst C dX9_summedUp_25 ?_
  refine r_istore (lv' := fun x14 => [(6, .int (gI x14)), (5, .int (gI x13)), (4, .int (gI x12)), (3, .int (gI x11)), (0, .ref (V.2.2 0)), (1, .int (gI a1)), (2, .int (gI a2))]) C h dX9_summedUp_26 hl (by decide) (fun _ => rfl) (fun x14 ls h hl => ?_)
  refine lv_aload_n C.1 C.2.1 dX9_summedUp_28 rfl (lv_at hl 4 rfl) ?_
  refine r_getr (t := 3) C hp mk_0 ms_0 mc_0 min_0 (j := 2) (by decide) rfl gw_1258 rfl dX9_summedUp_29 ?_
  refine lv_iload_n C.1 C.2.1 dX9_summedUp_32 rfl (lv_at hl 3 rfl) ?_
  refine r_iconst C dX9_summedUp_33 ?_
  refine r_iadd C dX9_summedUp_34 ?_
  refine r_iald C hp h mk_3 ms_3 dX9_summedUp_35 (fun h => ?_)
  refine r_istore (lv' := fun x15 => [(7, .int (gI x15)), (6, .int (gI x14)), (5, .int (gI x13)), (4, .int (gI x12)), (3, .int (gI x11)), (0, .ref (V.2.2 0)), (1, .int (gI a1)), (2, .int (gI a2))]) C h dX9_summedUp_36 hl (by decide) (fun _ => rfl) (fun x15 ls h hl => ?_)
  refine w_X9_summedUp_L38 C hR _ _ _ ?_ _ _ _ _ _ H locs ls h hp (lv_sub hl [5, 4, 3, 2, 1, 0] rfl)
  · intro M63 H locs ls h hp hl
    refine lv_aload_n C.1 C.2.1 dX9_summedUp_401 rfl (lv_at hl 0 rfl) ?_
    refine r_getr (t := 7) C hp mk_0 ms_0 mc_0 min_0 (j := 21) (by decide) rfl gw_1277 rfl dX9_summedUp_402 ?_
    refine r_iconst C dX9_summedUp_405 ?_
    refine r_lald C hp h mk_7 ms_7 dX9_summedUp_406 (fun h => ?_)
    cases h
    exact hR _ _ _ _ dX9_summedUp_407 hp
theorem c_X9_summedUp (l : Launch) {V : g_V} (hok : g_ok mG V) {a1 : Int} {a2 : Int} {M : g_M} {x : Int} {M2 : g_M} (h : m_X9_summedUp a1 a2 M = some (x, M2)) : MetL mG V l yX9_summedUp cX9_summedUp 10 (some .long) 2 45 [.ref (V.2.2 0), .int (gI a1), .int (gI a2)] M x M2 :=
  g_metL hok cal_X9_summedUp.2.2.2 rfl (Nat.le_of_ble_eq_true rfl) (@fun p e R s m args below meth c Q ls C hR hp hl => b_X9_summedUp C hR h hp hl)
set_option maxRecDepth 100000 in
set_option maxHeartbeats 4000000 in
theorem w_X9_says_L3 (C : g_CX mG V p R s m args meth c cX9_says 6 (some .int) RX9 3 74) {res : Int × g_M} (hR : g_RetI mG V p l e R s m args below meth c Q cX9_says .int res.1 res.2) (x12 : Int) (x13 : Int) (x14 : Int) (x15 : Int) (M17 : g_M) (k18 : Option (Int × g_M)) (k19 : Int → Option (Int × g_M)) (hk18 : ∀  (H : Heap) (locs : List Loc) (ls : Array Slot), k18  = some res → g_PT mG V M17 s H locs → lv_has ls 6 [(3, .int (gI x14)), (4, .int (gI x15))] → W p l e R s m args below meth c H locs 0 0 Q (F0 m 63 ls [])) (hk19 : ∀ (x21 : Int) (H : Heap) (locs : List Loc) (ls : Array Slot), k19 x21 = some res → g_PT mG V M17 s H locs → lv_has ls 6 [(0, .ref (V.2.2 0)), (1, .int (gI x12)), (4, .int (gI x15)), (5, .int (gI x21))] → W p l e R s m args below meth c H locs 0 0 Q (F0 m 43 ls [])) : ∀ (f : Nat) (x16 : Int) (H : Heap) (locs : List Loc) (ls : Array Slot), m_X9_says_L3 x12 x13 x14 x15 M17 k18 k19 f x16 = some res → g_PT mG V M17 s H locs → lv_has ls 6 [(0, .ref (V.2.2 0)), (1, .int (gI x12)), (2, .int (gI x13)), (3, .int (gI x14)), (4, .int (gI x15)), (5, .int (gI x16))] → W p l e R s m args below meth c H locs 0 0 Q (F0 m 3 ls []) := by
  intro f
  induction f with
  | zero => intro x16 H locs ls h hp hl; cases h
  | succ f ih =>
    intro x16 H locs ls h hp hl
    rw [m_X9_says_L3] at h
    refine lv_iload_n C.1 C.2.1 dX9_says_3 rfl (lv_at hl 1 rfl) ?_
    refine r_if_lt (tgt := 63) C h dX9_says_4 (by decide) (fun h => ?_) (fun h => ?_)
    · exact hk18  _ _ _ h hp (lv_sub hl [3, 4] rfl)
    · refine lv_iload C.1 C.2.1 dX9_says_7 (lv_at hl 5 rfl) ?_
      refine lv_aload_n C.1 C.2.1 dX9_says_9 rfl (lv_at hl 0 rfl) ?_
      refine r_getr (t := 3) C hp mk_0 ms_0 mc_0 min_0 (j := 2) (by decide) rfl gw_1258 rfl dX9_says_10 ?_
      refine r_sipush C dX9_says_13 (by decide +kernel) ?_
      refine lv_iload_n C.1 C.2.1 dX9_says_16 rfl (lv_at hl 1 rfl) ?_
      refine r_imul C dX9_says_17 ?_
      refine r_iald C hp h mk_3 ms_3 dX9_says_18 (fun h => ?_)
      refine r_icmp_ge (tgt := 63) C h dX9_says_19 (by decide) (fun h => ?_) (fun h => ?_)
      · exact hk18  _ _ _ h hp (lv_sub hl [3, 4] rfl)
      · refine lv_aload_n C.1 C.2.1 dX9_says_22 rfl (lv_at hl 0 rfl) ?_
        refine r_getr (t := 3) C hp mk_0 ms_0 mc_0 min_0 (j := 2) (by decide) rfl gw_1258 rfl dX9_says_23 ?_
        refine r_sipush C dX9_says_26 (by decide +kernel) ?_
        refine lv_iload_n C.1 C.2.1 dX9_says_29 rfl (lv_at hl 1 rfl) ?_
        refine r_imul C dX9_says_30 ?_
        refine r_iconst C dX9_says_31 ?_
        refine r_iadd C dX9_says_32 ?_
        refine r_iconst C dX9_says_33 ?_
        refine lv_iload C.1 C.2.1 dX9_says_34 (lv_at hl 5 rfl) ?_
        refine r_imul C dX9_says_36 ?_
        refine r_iadd C dX9_says_37 ?_
        refine r_iald C hp h mk_3 ms_3 dX9_says_38 (fun h => ?_)
        refine lv_iload_n C.1 C.2.1 dX9_says_39 rfl (lv_at hl 2 rfl) ?_
        refine r_icmp_ne (tgt := 57) C h dX9_says_40 (by decide) (fun h => ?_) (fun h => ?_)
        · refine r_iinc (lv' := fun x20 => [(5, .int (gI x20)), (0, .ref (V.2.2 0)), (1, .int (gI x12)), (2, .int (gI x13)), (3, .int (gI x14)), (4, .int (gI x15))]) C h dX9_says_57 hl (j := 5) rfl (by decide) (fun _ => rfl) (fun x20 ls h hl => ?_)
          refine r_goto (tgt := 3) C dX9_says_60 (by decide) ?_
          exact ih _ _ _ _ h hp (lv_sub hl [1, 2, 3, 4, 5, 0] rfl)
        · exact hk19 _ _ _ _ h hp (lv_sub hl [0, 1, 4, 5] rfl)
set_option maxRecDepth 100000 in
set_option maxHeartbeats 4000000 in
theorem b_X9_says (C : g_CX mG V p R s m args meth c cX9_says 6 (some .int) RX9 3 74) {res : Int × g_M} (hR : g_RetI mG V p l e R s m args below meth c Q cX9_says .int res.1 res.2) {a1 : Int} {a2 : Int} {a3 : Int} {a4 : Int} {M : g_M} {H : Heap} {locs : List Loc} {ls : Array Slot} (h : m_X9_says a1 a2 a3 a4 M = some res) (hp : g_PT mG V M s H locs) (hl : lv_has ls 6 [(0, .ref (V.2.2 0)), (1, .int (gI a1)), (2, .int (gI a2)), (3, .int (gI a3)), (4, .int (gI a4))]) : W p l e R s m args below meth c H locs 0 0 Q (F0 m 0 ls []) := by
  unfold m_X9_says at h
  refine r_iconst C dX9_says_0 ?_
  refine r_istore (lv' := fun x11 => [(5, .int (gI x11)), (0, .ref (V.2.2 0)), (1, .int (gI a1)), (2, .int (gI a2)), (3, .int (gI a3)), (4, .int (gI a4))]) C h dX9_says_1 hl (by decide) (fun _ => rfl) (fun x11 ls h hl => ?_)
  refine w_X9_says_L3 C hR _ _ _ _ _ _ _ ?_ ?_ _ _ H locs ls h hp (lv_sub hl [1, 2, 3, 4, 5, 0] rfl)
  · intro  H locs ls h hp hl
    refine lv_iload_n C.1 C.2.1 dX9_says_63 rfl (lv_at hl 0 rfl) ?_
    refine r_i2l C dX9_says_64 ?_
    refine r_iconst C dX9_says_65 ?_
    refine lv_iload C.1 C.2.1 dX9_says_66 (lv_at hl 1 rfl) ?_
    obtain ⟨x22, hr, h⟩ := bd_of h
    refine r_callSI (As := [.long (gJ (gs a3)), .int (gI 0), .int (gI a4)]) (rest := []) C hl.1 hp (c_X9_cut l C.2.2.2.2.2.2.2.2.2.2.2 hr) gw_1677 gw_1678 cal_X9_cut rfl rfl (Nat.le_of_ble_eq_true rfl) ⟨Nat.le_of_ble_eq_true rfl, Nat.le_of_ble_eq_true rfl⟩ dX9_says_68 (fun H locs hp => ?_)
    cases h
    exact hR _ _ _ _ dX9_says_71 rfl hp
  · intro x23 H locs ls h hp hl
    refine lv_aload_n C.1 C.2.1 dX9_says_43 rfl (lv_at hl 0 rfl) ?_
    refine lv_iload_n C.1 C.2.1 dX9_says_44 rfl (lv_at hl 1 rfl) ?_
    refine lv_iload C.1 C.2.1 dX9_says_45 (lv_at hl 3 rfl) ?_
    obtain ⟨x24, M25, hr, h⟩ := bW_of h
    refine r_callVL (As := [.int (gI a1), .int (gI x23)]) (rest := []) C hl.1 hp (c_X9_summedUp l C.2.2.2.2.2.2.2.2.2.2.2 hr) gw_1651 gw_1653 gw_90 mk_0 ms_0 mc_0 cal_X9_summedUp rfl rfl (Nat.le_of_ble_eq_true rfl) ⟨Nat.le_of_ble_eq_true rfl, Nat.le_of_ble_eq_true rfl⟩ dX9_says_47 (fun H locs hp => ?_)
    refine r_iconst C dX9_says_50 ?_
    refine lv_iload C.1 C.2.1 dX9_says_51 (lv_at hl 2 rfl) ?_
    obtain ⟨x26, hr, h⟩ := bd_of h
    refine r_callSI (As := [.long (gJ x24), .int (gI 0), .int (gI a4)]) (rest := []) C hl.1 hp (c_X9_cut l C.2.2.2.2.2.2.2.2.2.2.2 hr) gw_1677 gw_1678 cal_X9_cut rfl rfl (Nat.le_of_ble_eq_true rfl) ⟨Nat.le_of_ble_eq_true rfl, Nat.le_of_ble_eq_true rfl⟩ dX9_says_53 (fun H locs hp => ?_)
    cases h
    exact hR _ _ _ _ dX9_says_56 rfl hp
theorem c_X9_says (l : Launch) {V : g_V} (hok : g_ok mG V) {a1 : Int} {a2 : Int} {a3 : Int} {a4 : Int} {M : g_M} {x : Int} {M2 : g_M} (h : m_X9_says a1 a2 a3 a4 M = some (x, M2)) : MetI mG V l yX9_says cX9_says 6 (some .int) 3 74 [.ref (V.2.2 0), .int (gI a1), .int (gI a2), .int (gI a3), .int (gI a4)] M x M2 :=
  g_metI hok cal_X9_says.2.2.2 rfl (Nat.le_of_ble_eq_true rfl) (@fun p e R s m args below meth c Q ls C hR hp hl => b_X9_says C hR h hp hl)
set_option maxRecDepth 100000 in
set_option maxHeartbeats 4000000 in
theorem b_X9_name (C : g_CX mG V p R s m args meth c cX9_name 1 none RX9 3 65) {res : g_M} (hR : g_RetV mG V p l e R s m args below meth c Q cX9_name res)  {M : g_M} {H : Heap} {locs : List Loc} {ls : Array Slot} (h : m_X9_name M = some res) (hp : g_PT mG V M s H locs) (hl : lv_has ls 1 [(0, .ref (V.2.2 0))]) : W p l e R s m args below meth c H locs 0 0 Q (F0 m 0 ls []) := by
  unfold m_X9_name at h
  refine lv_aload_n C.1 C.2.1 dX9_name_0 rfl (lv_at hl 0 rfl) ?_
  refine r_getr (t := 6) C hp mk_0 ms_0 mc_0 min_0 (j := 20) (by decide) rfl gw_1276 rfl dX9_name_1 ?_
  refine r_iconst C dX9_name_4 ?_
  refine lv_aload_n C.1 C.2.1 dX9_name_5 rfl (lv_at hl 0 rfl) ?_
  refine r_getr (t := 1) C hp mk_0 ms_0 mc_0 min_0 (j := 0) (by decide) rfl gw_1256 rfl dX9_name_6 ?_
  refine r_bipush C dX9_name_9 (by decide +kernel) ?_
  refine r_iald C hp h mk_1 ms_1 dX9_name_11 (fun h => ?_)
  refine r_iast C hp h mk_6 ms_6 dX9_name_12 (fun M11 H locs h hp => ?_)
  refine lv_aload_n C.1 C.2.1 dX9_name_13 rfl (lv_at hl 0 rfl) ?_
  refine r_getr (t := 6) C hp mk_0 ms_0 mc_0 min_0 (j := 20) (by decide) rfl gw_1276 rfl dX9_name_14 ?_
  refine r_iconst C dX9_name_17 ?_
  refine lv_aload_n C.1 C.2.1 dX9_name_18 rfl (lv_at hl 0 rfl) ?_
  obtain ⟨x12, hr, h⟩ := bd_of h
  refine r_callVI (As := []) (rest := [.int (gI 1), .ref (V.2.2 6)]) C hl.1 hp (c_X9_seen l C.2.2.2.2.2.2.2.2.2.2.2 hr) gw_1639 gw_1641 gw_88 mk_0 ms_0 mc_0 cal_X9_seen rfl rfl (Nat.le_of_ble_eq_true rfl) ⟨Nat.le_of_ble_eq_true rfl, Nat.le_of_ble_eq_true rfl⟩ dX9_name_19 (fun H locs hp => ?_)
  obtain ⟨x13, hr, h⟩ := bd_of h
  refine r_callSI (As := [.int (gI x12)]) (rest := [.int (gI 1), .ref (V.2.2 6)]) C hl.1 hp (c_X9_bits l C.2.2.2.2.2.2.2.2.2.2.2 hr) gw_1643 gw_1644 cal_X9_bits rfl rfl (Nat.le_of_ble_eq_true rfl) ⟨Nat.le_of_ble_eq_true rfl, Nat.le_of_ble_eq_true rfl⟩ dX9_name_22 (fun H locs hp => ?_)
  refine r_iast C hp h mk_6 ms_6 dX9_name_25 (fun M14 H locs h hp => ?_)
  refine lv_aload_n C.1 C.2.1 dX9_name_26 rfl (lv_at hl 0 rfl) ?_
  refine r_getr (t := 6) C hp mk_0 ms_0 mc_0 min_0 (j := 20) (by decide) rfl gw_1276 rfl dX9_name_27 ?_
  refine r_iconst C dX9_name_30 ?_
  refine lv_aload_n C.1 C.2.1 dX9_name_31 rfl (lv_at hl 0 rfl) ?_
  obtain ⟨x15, hr, h⟩ := bd_of h
  refine r_callVI (As := []) (rest := [.int (gI 2), .ref (V.2.2 6)]) C hl.1 hp (c_X9_front l C.2.2.2.2.2.2.2.2.2.2.2 hr) gw_1646 gw_1367 gw_1368 mk_0 ms_0 mc_0 cal_X9_front rfl rfl (Nat.le_of_ble_eq_true rfl) ⟨Nat.le_of_ble_eq_true rfl, Nat.le_of_ble_eq_true rfl⟩ dX9_name_32 (fun H locs hp => ?_)
  refine r_iast C hp h mk_6 ms_6 dX9_name_35 (fun M16 H locs h hp => ?_)
  cases h
  exact hR _ _ _ _ dX9_name_36 hp
theorem c_X9_name (l : Launch) {V : g_V} (hok : g_ok mG V)  {M : g_M} {res : g_M} (h : m_X9_name M = some res) : MetV mG V l yX9_name cX9_name 1 none 3 65 [.ref (V.2.2 0)] M res :=
  g_metV hok cal_X9_name.2.2.2 rfl (Nat.le_of_ble_eq_true rfl) (@fun p e R s m args below meth c Q ls C hR hp hl => b_X9_name C hR h hp hl)
set_option maxRecDepth 100000 in
set_option maxHeartbeats 4000000 in
theorem b_X9_cueOf (C : g_CX mG V p R s m args meth c cX9_cueOf 3 (some .int) RX9 4 99) {res : Int × g_M} (hR : g_RetI mG V p l e R s m args below meth c Q cX9_cueOf .int res.1 res.2) {a1 : Int} {a2 : Int} {M : g_M} {H : Heap} {locs : List Loc} {ls : Array Slot} (h : m_X9_cueOf a1 a2 M = some res) (hp : g_PT mG V M s H locs) (hl : lv_has ls 3 [(0, .ref (V.2.2 0)), (1, .int (gI a1)), (2, .int (gI a2))]) : W p l e R s m args below meth c H locs 0 0 Q (F0 m 0 ls []) := by
  unfold m_X9_cueOf at h
  refine r_jn (P := fun J => ∀ (x20 : Int) (x21 : Int) (x22 : Int) (M23 : g_M) (H : Heap) (locs : List Loc) (ls : Array Slot), J x20 x21 x22 M23 = some res → g_PT mG V M23 s H locs → lv_has ls 3 [] → W p l e R s m args below meth c H locs 0 0 Q (F0 m 60 ls [.int (gI x20), .int (gI x21), .int (gI x22), .ref (V.2.2 0)])) h ?_ (fun J12 hJ12 h => ?_)
  · intro x20 x21 x22 M23 H locs ls h hp hl
    refine r_iconst C dX9_cueOf_60 ?_
    obtain ⟨x24, M25, hr, h⟩ := bW_of h
    refine r_callVI (As := [.int (gI x22), .int (gI x21), .int (gI x20), .int (gI 3)]) (rest := []) C hl.1 hp (c_X9_says l C.2.2.2.2.2.2.2.2.2.2.2 hr) gw_1647 gw_1649 gw_89 mk_0 ms_0 mc_0 cal_X9_says rfl rfl (Nat.le_of_ble_eq_true rfl) ⟨Nat.le_of_ble_eq_true rfl, Nat.le_of_ble_eq_true rfl⟩ dX9_cueOf_61 (fun H locs hp => ?_)
    cases h
    exact hR _ _ _ _ dX9_cueOf_64 rfl hp
  refine r_jn (P := fun J => ∀ (x17 : Int) (x18 : Int) (M19 : g_M) (H : Heap) (locs : List Loc) (ls : Array Slot), J x17 x18 M19 = some res → g_PT mG V M19 s H locs → lv_has ls 3 [] → W p l e R s m args below meth c H locs 0 0 Q (F0 m 55 ls [.int (gI x17), .int (gI x18), .ref (V.2.2 0)])) h ?_ (fun J11 hJ11 h => ?_)
  · intro x17 x18 M19 H locs ls h hp hl
    refine r_iconst C dX9_cueOf_55 ?_
    refine r_goto (tgt := 60) C dX9_cueOf_56 (by decide) ?_
    exact hJ12 _ _ _ _ _ _ _ h hp hl
  refine lv_aload_n C.1 C.2.1 dX9_cueOf_0 rfl (lv_at hl 0 rfl) ?_
  obtain ⟨M13, hr, h⟩ := bd_of h
  refine r_callVV (As := []) (rest := []) C hl.1 hp (c_X9_name l C.2.2.2.2.2.2.2.2.2.2.2 hr) gw_1635 gw_1637 gw_87 mk_0 ms_0 mc_0 cal_X9_name rfl rfl (Nat.le_of_ble_eq_true rfl) ⟨Nat.le_of_ble_eq_true rfl, Nat.le_of_ble_eq_true rfl⟩ dX9_cueOf_1 (fun H locs hp => ?_)
  refine lv_aload_n C.1 C.2.1 dX9_cueOf_4 rfl (lv_at hl 0 rfl) ?_
  refine r_getr (t := 6) C hp mk_0 ms_0 mc_0 min_0 (j := 20) (by decide) rfl gw_1276 rfl dX9_cueOf_5 ?_
  refine r_iconst C dX9_cueOf_8 ?_
  refine lv_iload_n C.1 C.2.1 dX9_cueOf_9 rfl (lv_at hl 1 rfl) ?_
  refine r_iast C hp h mk_6 ms_6 dX9_cueOf_10 (fun M14 H locs h hp => ?_)
  refine lv_aload_n C.1 C.2.1 dX9_cueOf_11 rfl (lv_at hl 0 rfl) ?_
  refine r_getr (t := 6) C hp mk_0 ms_0 mc_0 min_0 (j := 20) (by decide) rfl gw_1276 rfl dX9_cueOf_12 ?_
  refine r_iconst C dX9_cueOf_15 ?_
  refine lv_aload_n C.1 C.2.1 dX9_cueOf_16 rfl (lv_at hl 0 rfl) ?_
  refine r_getr (t := 1) C hp mk_0 ms_0 mc_0 min_0 (j := 0) (by decide) rfl gw_1256 rfl dX9_cueOf_17 ?_
  refine r_bipush C dX9_cueOf_20 (by decide +kernel) ?_
  refine lv_iload_n C.1 C.2.1 dX9_cueOf_22 rfl (lv_at hl 1 rfl) ?_
  refine r_iadd C dX9_cueOf_23 ?_
  refine r_iald C hp h mk_1 ms_1 dX9_cueOf_24 (fun h => ?_)
  refine r_iast C hp h mk_6 ms_6 dX9_cueOf_25 (fun M15 H locs h hp => ?_)
  refine lv_aload_n C.1 C.2.1 dX9_cueOf_26 rfl (lv_at hl 0 rfl) ?_
  refine r_getr (t := 6) C hp mk_0 ms_0 mc_0 min_0 (j := 20) (by decide) rfl gw_1276 rfl dX9_cueOf_27 ?_
  refine r_iconst C dX9_cueOf_30 ?_
  refine lv_iload_n C.1 C.2.1 dX9_cueOf_31 rfl (lv_at hl 2 rfl) ?_
  refine r_iast C hp h mk_6 ms_6 dX9_cueOf_32 (fun M16 H locs h hp => ?_)
  refine lv_aload_n C.1 C.2.1 dX9_cueOf_33 rfl (lv_at hl 0 rfl) ?_
  refine lv_aload_n C.1 C.2.1 dX9_cueOf_34 rfl (lv_at hl 0 rfl) ?_
  refine r_getr (t := 1) C hp mk_0 ms_0 mc_0 min_0 (j := 0) (by decide) rfl gw_1256 rfl dX9_cueOf_35 ?_
  refine r_iconst C dX9_cueOf_38 ?_
  refine r_iald C hp h mk_1 ms_1 dX9_cueOf_39 (fun h => ?_)
  refine r_iconst C dX9_cueOf_40 ?_
  refine lv_iload_n C.1 C.2.1 dX9_cueOf_41 rfl (lv_at hl 2 rfl) ?_
  refine r_iconst C dX9_cueOf_42 ?_
  refine r_icmp_gt (tgt := 55) C h dX9_cueOf_43 (by decide) (fun h => ?_) (fun h => ?_)
  · exact hJ11 _ _ _ _ _ _ h hp (lv_sub hl [] rfl)
  · refine lv_aload_n C.1 C.2.1 dX9_cueOf_46 rfl (lv_at hl 0 rfl) ?_
    refine r_getr (t := 6) C hp mk_0 ms_0 mc_0 min_0 (j := 20) (by decide) rfl gw_1276 rfl dX9_cueOf_47 ?_
    refine r_iconst C dX9_cueOf_50 ?_
    refine r_iald C hp h mk_6 ms_6 dX9_cueOf_51 (fun h => ?_)
    refine r_if_ne (tgt := 59) C h dX9_cueOf_52 (by decide) (fun h => ?_) (fun h => ?_)
    · refine lv_iload_n C.1 C.2.1 dX9_cueOf_59 rfl (lv_at hl 2 rfl) ?_
      exact hJ12 _ _ _ _ _ _ _ h hp (lv_sub hl [] rfl)
    · exact hJ11 _ _ _ _ _ _ h hp (lv_sub hl [] rfl)
theorem c_X9_cueOf (l : Launch) {V : g_V} (hok : g_ok mG V) {a1 : Int} {a2 : Int} {M : g_M} {x : Int} {M2 : g_M} (h : m_X9_cueOf a1 a2 M = some (x, M2)) : MetI mG V l yX9_cueOf cX9_cueOf 3 (some .int) 4 99 [.ref (V.2.2 0), .int (gI a1), .int (gI a2)] M x M2 :=
  g_metI hok cal_X9_cueOf.2.2.2 rfl (Nat.le_of_ble_eq_true rfl) (@fun p e R s m args below meth c Q ls C hR hp hl => b_X9_cueOf C hR h hp hl)
set_option maxRecDepth 100000 in
set_option maxHeartbeats 4000000 in
theorem b_X9_staysOf (C : g_CX mG V p R s m args meth c cX9_staysOf 4 (some .int) RX9 4 99) {res : Int × g_M} (hR : g_RetI mG V p l e R s m args below meth c Q cX9_staysOf .int res.1 res.2) {a1 : Int} {a2 : Int} {a3 : Int} {M : g_M} {H : Heap} {locs : List Loc} {ls : Array Slot} (h : m_X9_staysOf a1 a2 a3 M = some res) (hp : g_PT mG V M s H locs) (hl : lv_has ls 4 [(0, .ref (V.2.2 0)), (1, .int (gI a1)), (2, .int (gI a2)), (3, .int (gI a3))]) : W p l e R s m args below meth c H locs 0 0 Q (F0 m 0 ls []) := by
  unfold m_X9_staysOf at h
  refine r_jn (P := fun J => ∀ (x16 : Int) (x17 : Int) (x18 : Int) (M19 : g_M) (H : Heap) (locs : List Loc) (ls : Array Slot), J x16 x17 x18 M19 = some res → g_PT mG V M19 s H locs → lv_has ls 4 [] → W p l e R s m args below meth c H locs 0 0 Q (F0 m 45 ls [.int (gI x16), .int (gI x17), .int (gI x18), .ref (V.2.2 0)])) h ?_ (fun J11 hJ11 h => ?_)
  · intro x16 x17 x18 M19 H locs ls h hp hl
    refine r_bipush C dX9_staysOf_45 (by decide +kernel) ?_
    obtain ⟨x20, M21, hr, h⟩ := bW_of h
    refine r_callVI (As := [.int (gI x18), .int (gI x17), .int (gI x16), .int (gI 9)]) (rest := []) C hl.1 hp (c_X9_says l C.2.2.2.2.2.2.2.2.2.2.2 hr) gw_1647 gw_1649 gw_89 mk_0 ms_0 mc_0 cal_X9_says rfl rfl (Nat.le_of_ble_eq_true rfl) ⟨Nat.le_of_ble_eq_true rfl, Nat.le_of_ble_eq_true rfl⟩ dX9_staysOf_47 (fun H locs hp => ?_)
    cases h
    exact hR _ _ _ _ dX9_staysOf_50 rfl hp
  refine lv_aload_n C.1 C.2.1 dX9_staysOf_0 rfl (lv_at hl 0 rfl) ?_
  obtain ⟨M12, hr, h⟩ := bd_of h
  refine r_callVV (As := []) (rest := []) C hl.1 hp (c_X9_name l C.2.2.2.2.2.2.2.2.2.2.2 hr) gw_1635 gw_1637 gw_87 mk_0 ms_0 mc_0 cal_X9_name rfl rfl (Nat.le_of_ble_eq_true rfl) ⟨Nat.le_of_ble_eq_true rfl, Nat.le_of_ble_eq_true rfl⟩ dX9_staysOf_1 (fun H locs hp => ?_)
  refine lv_aload_n C.1 C.2.1 dX9_staysOf_4 rfl (lv_at hl 0 rfl) ?_
  refine r_getr (t := 6) C hp mk_0 ms_0 mc_0 min_0 (j := 20) (by decide) rfl gw_1276 rfl dX9_staysOf_5 ?_
  refine r_iconst C dX9_staysOf_8 ?_
  refine lv_iload_n C.1 C.2.1 dX9_staysOf_9 rfl (lv_at hl 1 rfl) ?_
  refine r_iast C hp h mk_6 ms_6 dX9_staysOf_10 (fun M13 H locs h hp => ?_)
  refine lv_aload_n C.1 C.2.1 dX9_staysOf_11 rfl (lv_at hl 0 rfl) ?_
  refine r_getr (t := 6) C hp mk_0 ms_0 mc_0 min_0 (j := 20) (by decide) rfl gw_1276 rfl dX9_staysOf_12 ?_
  refine r_bipush C dX9_staysOf_15 (by decide +kernel) ?_
  refine lv_iload_n C.1 C.2.1 dX9_staysOf_17 rfl (lv_at hl 2 rfl) ?_
  refine r_iast C hp h mk_6 ms_6 dX9_staysOf_18 (fun M14 H locs h hp => ?_)
  refine lv_aload_n C.1 C.2.1 dX9_staysOf_19 rfl (lv_at hl 0 rfl) ?_
  refine r_getr (t := 6) C hp mk_0 ms_0 mc_0 min_0 (j := 20) (by decide) rfl gw_1276 rfl dX9_staysOf_20 ?_
  refine r_bipush C dX9_staysOf_23 (by decide +kernel) ?_
  refine lv_iload_n C.1 C.2.1 dX9_staysOf_25 rfl (lv_at hl 3 rfl) ?_
  refine r_iast C hp h mk_6 ms_6 dX9_staysOf_26 (fun M15 H locs h hp => ?_)
  refine lv_aload_n C.1 C.2.1 dX9_staysOf_27 rfl (lv_at hl 0 rfl) ?_
  refine lv_aload_n C.1 C.2.1 dX9_staysOf_28 rfl (lv_at hl 0 rfl) ?_
  refine r_getr (t := 1) C hp mk_0 ms_0 mc_0 min_0 (j := 0) (by decide) rfl gw_1256 rfl dX9_staysOf_29 ?_
  refine r_iconst C dX9_staysOf_32 ?_
  refine r_iald C hp h mk_1 ms_1 dX9_staysOf_33 (fun h => ?_)
  refine r_iconst C dX9_staysOf_34 ?_
  refine lv_iload_n C.1 C.2.1 dX9_staysOf_35 rfl (lv_at hl 2 rfl) ?_
  refine r_iconst C dX9_staysOf_36 ?_
  refine r_icmp_ne (tgt := 44) C h dX9_staysOf_37 (by decide) (fun h => ?_) (fun h => ?_)
  · refine r_iconst C dX9_staysOf_44 ?_
    exact hJ11 _ _ _ _ _ _ _ h hp (lv_sub hl [] rfl)
  · refine r_iconst C dX9_staysOf_40 ?_
    refine r_goto (tgt := 45) C dX9_staysOf_41 (by decide) ?_
    exact hJ11 _ _ _ _ _ _ _ h hp (lv_sub hl [] rfl)
theorem c_X9_staysOf (l : Launch) {V : g_V} (hok : g_ok mG V) {a1 : Int} {a2 : Int} {a3 : Int} {M : g_M} {x : Int} {M2 : g_M} (h : m_X9_staysOf a1 a2 a3 M = some (x, M2)) : MetI mG V l yX9_staysOf cX9_staysOf 4 (some .int) 4 99 [.ref (V.2.2 0), .int (gI a1), .int (gI a2), .int (gI a3)] M x M2 :=
  g_metI hok cal_X9_staysOf.2.2.2 rfl (Nat.le_of_ble_eq_true rfl) (@fun p e R s m args below meth c Q ls C hR hp hl => b_X9_staysOf C hR h hp hl)
set_option maxRecDepth 100000 in
set_option maxHeartbeats 4000000 in
theorem b_X9_gladdensOf (C : g_CX mG V p R s m args meth c cX9_gladdensOf 4 (some .int) RX9 4 99) {res : Int × g_M} (hR : g_RetI mG V p l e R s m args below meth c Q cX9_gladdensOf .int res.1 res.2) {a1 : Int} {a2 : Int} {a3 : Int} {M : g_M} {H : Heap} {locs : List Loc} {ls : Array Slot} (h : m_X9_gladdensOf a1 a2 a3 M = some res) (hp : g_PT mG V M s H locs) (hl : lv_has ls 4 [(0, .ref (V.2.2 0)), (1, .int (gI a1)), (2, .int (gI a2)), (3, .int (gI a3))]) : W p l e R s m args below meth c H locs 0 0 Q (F0 m 0 ls []) := by
  unfold m_X9_gladdensOf at h
  refine lv_aload_n C.1 C.2.1 dX9_gladdensOf_0 rfl (lv_at hl 0 rfl) ?_
  obtain ⟨M11, hr, h⟩ := bd_of h
  refine r_callVV (As := []) (rest := []) C hl.1 hp (c_X9_name l C.2.2.2.2.2.2.2.2.2.2.2 hr) gw_1635 gw_1637 gw_87 mk_0 ms_0 mc_0 cal_X9_name rfl rfl (Nat.le_of_ble_eq_true rfl) ⟨Nat.le_of_ble_eq_true rfl, Nat.le_of_ble_eq_true rfl⟩ dX9_gladdensOf_1 (fun H locs hp => ?_)
  refine lv_aload_n C.1 C.2.1 dX9_gladdensOf_4 rfl (lv_at hl 0 rfl) ?_
  refine r_getr (t := 6) C hp mk_0 ms_0 mc_0 min_0 (j := 20) (by decide) rfl gw_1276 rfl dX9_gladdensOf_5 ?_
  refine r_bipush C dX9_gladdensOf_8 (by decide +kernel) ?_
  refine lv_iload_n C.1 C.2.1 dX9_gladdensOf_10 rfl (lv_at hl 2 rfl) ?_
  refine r_iast C hp h mk_6 ms_6 dX9_gladdensOf_11 (fun M12 H locs h hp => ?_)
  refine lv_aload_n C.1 C.2.1 dX9_gladdensOf_12 rfl (lv_at hl 0 rfl) ?_
  refine r_getr (t := 6) C hp mk_0 ms_0 mc_0 min_0 (j := 20) (by decide) rfl gw_1276 rfl dX9_gladdensOf_13 ?_
  refine r_bipush C dX9_gladdensOf_16 (by decide +kernel) ?_
  refine lv_aload_n C.1 C.2.1 dX9_gladdensOf_18 rfl (lv_at hl 0 rfl) ?_
  refine lv_iload_n C.1 C.2.1 dX9_gladdensOf_19 rfl (lv_at hl 2 rfl) ?_
  refine r_iconst C dX9_gladdensOf_20 ?_
  obtain ⟨x13, hr, h⟩ := bd_of h
  refine r_callVI (As := [.int (gI a2), .int (gI 1)]) (rest := [.int (gI 9), .ref (V.2.2 6)]) C hl.1 hp (c_X9_get l C.2.2.2.2.2.2.2.2.2.2.2 hr) gw_1374 gw_1376 gw_45 mk_0 ms_0 mc_0 cal_X9_get rfl rfl (Nat.le_of_ble_eq_true rfl) ⟨Nat.le_of_ble_eq_true rfl, Nat.le_of_ble_eq_true rfl⟩ dX9_gladdensOf_21 (fun H locs hp => ?_)
  refine r_iast C hp h mk_6 ms_6 dX9_gladdensOf_24 (fun M14 H locs h hp => ?_)
  refine lv_aload_n C.1 C.2.1 dX9_gladdensOf_25 rfl (lv_at hl 0 rfl) ?_
  refine r_getr (t := 6) C hp mk_0 ms_0 mc_0 min_0 (j := 20) (by decide) rfl gw_1276 rfl dX9_gladdensOf_26 ?_
  refine r_bipush C dX9_gladdensOf_29 (by decide +kernel) ?_
  refine lv_aload_n C.1 C.2.1 dX9_gladdensOf_31 rfl (lv_at hl 0 rfl) ?_
  refine lv_iload_n C.1 C.2.1 dX9_gladdensOf_32 rfl (lv_at hl 2 rfl) ?_
  refine r_iconst C dX9_gladdensOf_33 ?_
  obtain ⟨x15, hr, h⟩ := bd_of h
  refine r_callVI (As := [.int (gI a2), .int (gI 0)]) (rest := [.int (gI 10), .ref (V.2.2 6)]) C hl.1 hp (c_X9_get l C.2.2.2.2.2.2.2.2.2.2.2 hr) gw_1374 gw_1376 gw_45 mk_0 ms_0 mc_0 cal_X9_get rfl rfl (Nat.le_of_ble_eq_true rfl) ⟨Nat.le_of_ble_eq_true rfl, Nat.le_of_ble_eq_true rfl⟩ dX9_gladdensOf_34 (fun H locs hp => ?_)
  refine r_iast C hp h mk_6 ms_6 dX9_gladdensOf_37 (fun M16 H locs h hp => ?_)
  refine lv_aload_n C.1 C.2.1 dX9_gladdensOf_38 rfl (lv_at hl 0 rfl) ?_
  refine r_getr (t := 6) C hp mk_0 ms_0 mc_0 min_0 (j := 20) (by decide) rfl gw_1276 rfl dX9_gladdensOf_39 ?_
  refine r_bipush C dX9_gladdensOf_42 (by decide +kernel) ?_
  refine lv_iload_n C.1 C.2.1 dX9_gladdensOf_44 rfl (lv_at hl 3 rfl) ?_
  refine r_iast C hp h mk_6 ms_6 dX9_gladdensOf_45 (fun M17 H locs h hp => ?_)
  refine lv_aload_n C.1 C.2.1 dX9_gladdensOf_46 rfl (lv_at hl 0 rfl) ?_
  refine lv_iload_n C.1 C.2.1 dX9_gladdensOf_47 rfl (lv_at hl 1 rfl) ?_
  refine r_iconst C dX9_gladdensOf_48 ?_
  refine lv_aload_n C.1 C.2.1 dX9_gladdensOf_49 rfl (lv_at hl 0 rfl) ?_
  refine lv_iload_n C.1 C.2.1 dX9_gladdensOf_50 rfl (lv_at hl 2 rfl) ?_
  refine r_iconst C dX9_gladdensOf_51 ?_
  obtain ⟨x18, hr, h⟩ := bd_of h
  refine r_callVI (As := [.int (gI a2), .int (gI 2)]) (rest := [.int (gI 2), .int (gI a1), .ref (V.2.2 0)]) C hl.1 hp (c_X9_get l C.2.2.2.2.2.2.2.2.2.2.2 hr) gw_1374 gw_1376 gw_45 mk_0 ms_0 mc_0 cal_X9_get rfl rfl (Nat.le_of_ble_eq_true rfl) ⟨Nat.le_of_ble_eq_true rfl, Nat.le_of_ble_eq_true rfl⟩ dX9_gladdensOf_52 (fun H locs hp => ?_)
  refine r_bipush C dX9_gladdensOf_55 (by decide +kernel) ?_
  obtain ⟨x19, M20, hr, h⟩ := bW_of h
  refine r_callVI (As := [.int (gI a1), .int (gI 2), .int (gI x18), .int (gI 99)]) (rest := []) C hl.1 hp (c_X9_says l C.2.2.2.2.2.2.2.2.2.2.2 hr) gw_1647 gw_1649 gw_89 mk_0 ms_0 mc_0 cal_X9_says rfl rfl (Nat.le_of_ble_eq_true rfl) ⟨Nat.le_of_ble_eq_true rfl, Nat.le_of_ble_eq_true rfl⟩ dX9_gladdensOf_57 (fun H locs hp => ?_)
  cases h
  exact hR _ _ _ _ dX9_gladdensOf_60 rfl hp
theorem c_X9_gladdensOf (l : Launch) {V : g_V} (hok : g_ok mG V) {a1 : Int} {a2 : Int} {a3 : Int} {M : g_M} {x : Int} {M2 : g_M} (h : m_X9_gladdensOf a1 a2 a3 M = some (x, M2)) : MetI mG V l yX9_gladdensOf cX9_gladdensOf 4 (some .int) 4 99 [.ref (V.2.2 0), .int (gI a1), .int (gI a2), .int (gI a3)] M x M2 :=
  g_metI hok cal_X9_gladdensOf.2.2.2 rfl (Nat.le_of_ble_eq_true rfl) (@fun p e R s m args below meth c Q ls C hR hp hl => b_X9_gladdensOf C hR h hp hl)
set_option maxRecDepth 100000 in
set_option maxHeartbeats 4000000 in
theorem w_X9_write_L23 (C : g_CX mG V p R s m args meth c cX9_write 5 none RX9 0 0) {res : g_M} (hR : g_RetV mG V p l e R s m args below meth c Q cX9_write res) (x13 : Int) (x14 : Int) (x15 : Int) (k18 : g_M → Option (g_M)) (hk18 : ∀ (M21 : g_M) (H : Heap) (locs : List Loc) (ls : Array Slot), k18 M21 = some res → g_PT mG V M21 s H locs → lv_has ls 5 [(0, .ref (V.2.2 0)), (1, .int (gI x13)), (2, .int (gI x14)), (3, .int (gI x15))] → W p l e R s m args below meth c H locs 0 0 Q (F0 m 60 ls [])) : ∀ (f : Nat) (x16 : Int) (M17 : g_M) (H : Heap) (locs : List Loc) (ls : Array Slot), m_X9_write_L23 x13 x14 x15 k18 f x16 M17 = some res → g_PT mG V M17 s H locs → lv_has ls 5 [(0, .ref (V.2.2 0)), (1, .int (gI x13)), (2, .int (gI x14)), (3, .int (gI x15)), (4, .int (gI x16))] → W p l e R s m args below meth c H locs 0 0 Q (F0 m 23 ls []) := by
  intro f
  induction f with
  | zero => intro x16 M17 H locs ls h hp hl; cases h
  | succ f ih =>
    intro x16 M17 H locs ls h hp hl
    rw [m_X9_write_L23] at h
    refine lv_iload C.1 C.2.1 dX9_write_23 (lv_at hl 4 rfl) ?_
    refine r_bipush C dX9_write_25 (by decide +kernel) ?_
    refine r_icmp_ge (tgt := 60) C h dX9_write_27 (by decide) (fun h => ?_) (fun h => ?_)
    · exact hk18 _ _ _ _ h hp (lv_sub hl [0, 1, 2, 3] rfl)
    · refine lv_aload_n C.1 C.2.1 dX9_write_30 rfl (lv_at hl 0 rfl) ?_
      refine r_getr (t := 1) C hp mk_0 ms_0 mc_0 min_0 (j := 0) (by decide) rfl gw_1256 rfl dX9_write_31 ?_
      refine r_sipush C dX9_write_34 (by decide +kernel) ?_
      refine lv_iload C.1 C.2.1 dX9_write_37 (lv_at hl 4 rfl) ?_
      refine r_iadd C dX9_write_39 ?_
      refine r_iconst C dX9_write_40 ?_
      refine r_isub C dX9_write_41 ?_
      refine lv_aload_n C.1 C.2.1 dX9_write_42 rfl (lv_at hl 0 rfl) ?_
      refine r_getr (t := 1) C hp mk_0 ms_0 mc_0 min_0 (j := 0) (by decide) rfl gw_1256 rfl dX9_write_43 ?_
      refine r_sipush C dX9_write_46 (by decide +kernel) ?_
      refine lv_iload C.1 C.2.1 dX9_write_49 (lv_at hl 4 rfl) ?_
      refine r_iadd C dX9_write_51 ?_
      refine r_iald C hp h mk_1 ms_1 dX9_write_52 (fun h => ?_)
      refine r_iast C hp h mk_1 ms_1 dX9_write_53 (fun M19 H locs h hp => ?_)
      refine r_iinc (lv' := fun x20 => [(4, .int (gI x20)), (0, .ref (V.2.2 0)), (1, .int (gI x13)), (2, .int (gI x14)), (3, .int (gI x15))]) C h dX9_write_54 hl (j := 4) rfl (by decide) (fun _ => rfl) (fun x20 ls h hl => ?_)
      refine r_goto (tgt := 23) C dX9_write_57 (by decide) ?_
      exact ih _ _ _ _ _ h hp (lv_sub hl [1, 2, 3, 4, 0] rfl)
set_option maxRecDepth 100000 in
set_option maxHeartbeats 4000000 in
theorem b_X9_write (C : g_CX mG V p R s m args meth c cX9_write 5 none RX9 0 0) {res : g_M} (hR : g_RetV mG V p l e R s m args below meth c Q cX9_write res) {a1 : Int} {a2 : Int} {a3 : Int} {M : g_M} {H : Heap} {locs : List Loc} {ls : Array Slot} (h : m_X9_write a1 a2 a3 M = some res) (hp : g_PT mG V M s H locs) (hl : lv_has ls 5 [(0, .ref (V.2.2 0)), (1, .int (gI a1)), (2, .int (gI a2)), (3, .int (gI a3))]) : W p l e R s m args below meth c H locs 0 0 Q (F0 m 0 ls []) := by
  unfold m_X9_write at h
  refine lv_aload_n C.1 C.2.1 dX9_write_0 rfl (lv_at hl 0 rfl) ?_
  refine r_geti (t := 0) C hp mk_0 ms_0 mc_0 min_0 (j := 23) (by decide) rfl gw_1279 rfl dX9_write_1 ?_
  refine r_if_ne (tgt := 8) C h dX9_write_4 (by decide) (fun h => ?_) (fun h => ?_)
  · refine r_jn (P := fun J => ∀ (M24 : g_M) (H : Heap) (locs : List Loc) (ls : Array Slot), J M24 = some res → g_PT mG V M24 s H locs → lv_has ls 5 [(0, .ref (V.2.2 0)), (1, .int (gI a1)), (2, .int (gI a2)), (3, .int (gI a3))] → W p l e R s m args below meth c H locs 0 0 Q (F0 m 71 ls [])) h ?_ (fun J11 hJ11 h => ?_)
    · intro M24 H locs ls h hp hl
      refine lv_aload_n C.1 C.2.1 dX9_write_71 rfl (lv_at hl 0 rfl) ?_
      refine r_getr (t := 1) C hp mk_0 ms_0 mc_0 min_0 (j := 0) (by decide) rfl gw_1256 rfl dX9_write_72 ?_
      refine r_sipush C dX9_write_75 (by decide +kernel) ?_
      refine r_iconst C dX9_write_78 ?_
      refine lv_aload_n C.1 C.2.1 dX9_write_79 rfl (lv_at hl 0 rfl) ?_
      refine r_getr (t := 1) C hp mk_0 ms_0 mc_0 min_0 (j := 0) (by decide) rfl gw_1256 rfl dX9_write_80 ?_
      refine r_bipush C dX9_write_83 (by decide +kernel) ?_
      refine r_iald C hp h mk_1 ms_1 dX9_write_85 (fun h => ?_)
      refine r_imul C dX9_write_86 ?_
      refine r_iadd C dX9_write_87 ?_
      refine lv_aload_n C.1 C.2.1 dX9_write_88 rfl (lv_at hl 0 rfl) ?_
      refine r_getr (t := 1) C hp mk_0 ms_0 mc_0 min_0 (j := 0) (by decide) rfl gw_1256 rfl dX9_write_89 ?_
      refine r_bipush C dX9_write_92 (by decide +kernel) ?_
      refine r_iald C hp h mk_1 ms_1 dX9_write_94 (fun h => ?_)
      refine r_iast C hp h mk_1 ms_1 dX9_write_95 (fun M25 H locs h hp => ?_)
      refine lv_aload_n C.1 C.2.1 dX9_write_96 rfl (lv_at hl 0 rfl) ?_
      refine r_getr (t := 1) C hp mk_0 ms_0 mc_0 min_0 (j := 0) (by decide) rfl gw_1256 rfl dX9_write_97 ?_
      refine r_sipush C dX9_write_100 (by decide +kernel) ?_
      refine r_iconst C dX9_write_103 ?_
      refine lv_aload_n C.1 C.2.1 dX9_write_104 rfl (lv_at hl 0 rfl) ?_
      refine r_getr (t := 1) C hp mk_0 ms_0 mc_0 min_0 (j := 0) (by decide) rfl gw_1256 rfl dX9_write_105 ?_
      refine r_bipush C dX9_write_108 (by decide +kernel) ?_
      refine r_iald C hp h mk_1 ms_1 dX9_write_110 (fun h => ?_)
      refine r_imul C dX9_write_111 ?_
      refine r_iadd C dX9_write_112 ?_
      refine r_iconst C dX9_write_113 ?_
      refine r_iadd C dX9_write_114 ?_
      refine lv_iload_n C.1 C.2.1 dX9_write_115 rfl (lv_at hl 1 rfl) ?_
      refine r_iconst C dX9_write_116 ?_
      refine r_imul C dX9_write_117 ?_
      refine lv_iload_n C.1 C.2.1 dX9_write_118 rfl (lv_at hl 2 rfl) ?_
      refine r_iadd C dX9_write_119 ?_
      refine r_bipush C dX9_write_120 (by decide +kernel) ?_
      refine r_imul C dX9_write_122 ?_
      refine lv_iload_n C.1 C.2.1 dX9_write_123 rfl (lv_at hl 3 rfl) ?_
      refine r_iadd C dX9_write_124 ?_
      refine r_iast C hp h mk_1 ms_1 dX9_write_125 (fun M26 H locs h hp => ?_)
      refine lv_aload_n C.1 C.2.1 dX9_write_126 rfl (lv_at hl 0 rfl) ?_
      refine r_getr (t := 1) C hp mk_0 ms_0 mc_0 min_0 (j := 0) (by decide) rfl gw_1256 rfl dX9_write_127 ?_
      refine r_bipush C dX9_write_130 (by decide +kernel) ?_
      refine lv_dup2_11 C.1 C.2.1 dX9_write_132 rfl rfl ?_
      refine r_iald C hp h mk_1 ms_1 dX9_write_133 (fun h => ?_)
      refine r_iconst C dX9_write_134 ?_
      refine r_iadd C dX9_write_135 ?_
      refine r_iast C hp h mk_1 ms_1 dX9_write_136 (fun M27 H locs h hp => ?_)
      cases h
      exact hR _ _ _ _ dX9_write_137 hp
    refine lv_aload_n C.1 C.2.1 dX9_write_8 rfl (lv_at hl 0 rfl) ?_
    refine r_getr (t := 1) C hp mk_0 ms_0 mc_0 min_0 (j := 0) (by decide) rfl gw_1256 rfl dX9_write_9 ?_
    refine r_bipush C dX9_write_12 (by decide +kernel) ?_
    refine r_iald C hp h mk_1 ms_1 dX9_write_14 (fun h => ?_)
    refine r_bipush C dX9_write_15 (by decide +kernel) ?_
    refine r_icmp_ne (tgt := 71) C h dX9_write_17 (by decide) (fun h => ?_) (fun h => ?_)
    · exact hJ11 _ _ _ _ h hp hl
    · refine r_iconst C dX9_write_20 ?_
      refine r_istore (lv' := fun x12 => [(4, .int (gI x12)), (0, .ref (V.2.2 0)), (1, .int (gI a1)), (2, .int (gI a2)), (3, .int (gI a3))]) C h dX9_write_21 hl (by decide) (fun _ => rfl) (fun x12 ls h hl => ?_)
      refine w_X9_write_L23 C hR _ _ _ _ ?_ _ _ _ H locs ls h hp (lv_sub hl [1, 2, 3, 4, 0] rfl)
      · intro M22 H locs ls h hp hl
        refine lv_aload_n C.1 C.2.1 dX9_write_60 rfl (lv_at hl 0 rfl) ?_
        refine r_getr (t := 1) C hp mk_0 ms_0 mc_0 min_0 (j := 0) (by decide) rfl gw_1256 rfl dX9_write_61 ?_
        refine r_bipush C dX9_write_64 (by decide +kernel) ?_
        refine lv_dup2_11 C.1 C.2.1 dX9_write_66 rfl rfl ?_
        refine r_iald C hp h mk_1 ms_1 dX9_write_67 (fun h => ?_)
        refine r_iconst C dX9_write_68 ?_
        refine r_isub C dX9_write_69 ?_
        refine r_iast C hp h mk_1 ms_1 dX9_write_70 (fun M23 H locs h hp => ?_)
        exact hJ11 _ _ _ _ h hp hl
  · cases h
    exact hR _ _ _ _ dX9_write_7 hp
theorem c_X9_write (l : Launch) {V : g_V} (hok : g_ok mG V) {a1 : Int} {a2 : Int} {a3 : Int} {M : g_M} {res : g_M} (h : m_X9_write a1 a2 a3 M = some res) : MetV mG V l yX9_write cX9_write 5 none 0 0 [.ref (V.2.2 0), .int (gI a1), .int (gI a2), .int (gI a3)] M res :=
  g_metV hok cal_X9_write.2.2.2 rfl (Nat.le_of_ble_eq_true rfl) (@fun p e R s m args below meth c Q ls C hR hp hl => b_X9_write C hR h hp hl)
set_option maxRecDepth 100000 in
set_option maxHeartbeats 4000000 in
theorem b_X9_anew (C : g_CX mG V p R s m args meth c cX9_anew 1 none RX9 0 0) {res : g_M} (hR : g_RetV mG V p l e R s m args below meth c Q cX9_anew res)  {M : g_M} {H : Heap} {locs : List Loc} {ls : Array Slot} (h : m_X9_anew M = some res) (hp : g_PT mG V M s H locs) (hl : lv_has ls 1 [(0, .ref (V.2.2 0))]) : W p l e R s m args below meth c H locs 0 0 Q (F0 m 0 ls []) := by
  unfold m_X9_anew at h
  refine lv_aload_n C.1 C.2.1 dX9_anew_0 rfl (lv_at hl 0 rfl) ?_
  refine r_getr (t := 1) C hp mk_0 ms_0 mc_0 min_0 (j := 0) (by decide) rfl gw_1256 rfl dX9_anew_1 ?_
  refine r_bipush C dX9_anew_4 (by decide +kernel) ?_
  refine lv_aload_n C.1 C.2.1 dX9_anew_6 rfl (lv_at hl 0 rfl) ?_
  refine r_getr (t := 1) C hp mk_0 ms_0 mc_0 min_0 (j := 0) (by decide) rfl gw_1256 rfl dX9_anew_7 ?_
  refine r_bipush C dX9_anew_10 (by decide +kernel) ?_
  refine r_iald C hp h mk_1 ms_1 dX9_anew_12 (fun h => ?_)
  refine r_i2l C dX9_anew_13 ?_
  refine r_ldc2 (n := 443) C gw_1684 (by decide +kernel) dX9_anew_14 ?_
  refine r_lmul C dX9_anew_17 ?_
  refine r_ldc2 (n := 331) C gw_1685 (by decide +kernel) dX9_anew_18 ?_
  refine r_ladd C dX9_anew_21 ?_
  refine r_ldc2 (n := 30577) C gw_1686 (by decide +kernel) dX9_anew_22 ?_
  refine r_lrem C h dX9_anew_25 (fun h => ?_)
  refine r_l2i C dX9_anew_26 ?_
  refine r_iast C hp h mk_1 ms_1 dX9_anew_27 (fun M11 H locs h hp => ?_)
  cases h
  exact hR _ _ _ _ dX9_anew_28 hp
theorem c_X9_anew (l : Launch) {V : g_V} (hok : g_ok mG V)  {M : g_M} {res : g_M} (h : m_X9_anew M = some res) : MetV mG V l yX9_anew cX9_anew 1 none 0 0 [.ref (V.2.2 0)] M res :=
  g_metV hok cal_X9_anew.2.2.2 rfl (Nat.le_of_ble_eq_true rfl) (@fun p e R s m args below meth c Q ls C hR hp hl => b_X9_anew C hR h hp hl)
end
