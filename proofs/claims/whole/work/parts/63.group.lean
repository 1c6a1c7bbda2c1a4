theorem dX4_readSum_0 : decode cX4_readSum 0 = .ok (.aload_n 0, 1) := by decide +kernel
theorem dX4_readSum_1 : decode cX4_readSum 1 = .ok (.iload_n 1, 1) := by decide +kernel
theorem dX4_readSum_2 : decode cX4_readSum 2 = .ok (.invokevirtual 138, 3) := by decide +kernel
theorem dX4_readSum_5 : decode cX4_readSum 5 = .ok (.istore_n 2, 1) := by decide +kernel
theorem dX4_readSum_6 : decode cX4_readSum 6 = .ok (.iconst 0, 1) := by decide +kernel
theorem dX4_readSum_7 : decode cX4_readSum 7 = .ok (.istore_n 3, 1) := by decide +kernel
theorem dX4_readSum_8 : decode cX4_readSum 8 = .ok (.iload_n 3, 1) := by decide +kernel
theorem dX4_readSum_9 : decode cX4_readSum 9 = .ok (.sipush 300, 3) := by decide +kernel
theorem dX4_readSum_12 : decode cX4_readSum 12 = .ok (.if_icmp .ge 57, 3) := by decide +kernel
theorem dX4_readSum_15 : decode cX4_readSum 15 = .ok (.iload_n 2, 1) := by decide +kernel
theorem dX4_readSum_16 : decode cX4_readSum 16 = .ok (.ifCond .eq 53, 3) := by decide +kernel
theorem dX4_readSum_19 : decode cX4_readSum 19 = .ok (.aload_n 0, 1) := by decide +kernel
theorem dX4_readSum_20 : decode cX4_readSum 20 = .ok (.getfield 41, 3) := by decide +kernel
theorem dX4_readSum_23 : decode cX4_readSum 23 = .ok (.bipush 54, 2) := by decide +kernel
theorem dX4_readSum_25 : decode cX4_readSum 25 = .ok (.if_icmp .eq 12, 3) := by decide +kernel
theorem dX4_readSum_28 : decode cX4_readSum 28 = .ok (.aload_n 0, 1) := by decide +kernel
theorem dX4_readSum_29 : decode cX4_readSum 29 = .ok (.getfield 41, 3) := by decide +kernel
theorem dX4_readSum_32 : decode cX4_readSum 32 = .ok (.bipush 55, 2) := by decide +kernel
theorem dX4_readSum_34 : decode cX4_readSum 34 = .ok (.if_icmp .ne 35, 3) := by decide +kernel
theorem dX4_readSum_37 : decode cX4_readSum 37 = .ok (.aload_n 0, 1) := by decide +kernel
theorem dX4_readSum_38 : decode cX4_readSum 38 = .ok (.getfield 41, 3) := by decide +kernel
theorem dX4_readSum_41 : decode cX4_readSum 41 = .ok (.istore 4, 2) := by decide +kernel
theorem dX4_readSum_43 : decode cX4_readSum 43 = .ok (.aload_n 0, 1) := by decide +kernel
theorem dX4_readSum_44 : decode cX4_readSum 44 = .ok (.invokevirtual 38, 3) := by decide +kernel
theorem dX4_readSum_47 : decode cX4_readSum 47 = .ok (.aload_n 0, 1) := by decide +kernel
theorem dX4_readSum_48 : decode cX4_readSum 48 = .ok (.iload_n 1, 1) := by decide +kernel
theorem dX4_readSum_49 : decode cX4_readSum 49 = .ok (.invokevirtual 138, 3) := by decide +kernel
theorem dX4_readSum_52 : decode cX4_readSum 52 = .ok (.istore_n 2, 1) := by decide +kernel
theorem dX4_readSum_53 : decode cX4_readSum 53 = .ok (.aload_n 0, 1) := by decide +kernel
theorem dX4_readSum_54 : decode cX4_readSum 54 = .ok (.getfield 12, 3) := by decide +kernel
theorem dX4_readSum_57 : decode cX4_readSum 57 = .ok (.iload 4, 2) := by decide +kernel
theorem dX4_readSum_59 : decode cX4_readSum 59 = .ok (.iconst 0, 1) := by decide +kernel
theorem dX4_readSum_60 : decode cX4_readSum 60 = .ok (.invokevirtual 141, 3) := by decide +kernel
theorem dX4_readSum_63 : decode cX4_readSum 63 = .ok (.iinc 3 1, 3) := by decide +kernel
theorem dX4_readSum_66 : decode cX4_readSum 66 = .ok (.goto (-58), 3) := by decide +kernel
theorem dX4_readSum_69 : decode cX4_readSum 69 = .ok (.iload_n 2, 1) := by decide +kernel
theorem dX4_readSum_70 : decode cX4_readSum 70 = .ok (.ireturn, 1) := by decide +kernel
theorem dX4_readProduct_0 : decode cX4_readProduct 0 = .ok (.aload_n 0, 1) := by decide +kernel
theorem dX4_readProduct_1 : decode cX4_readProduct 1 = .ok (.iload_n 1, 1) := by decide +kernel
theorem dX4_readProduct_2 : decode cX4_readProduct 2 = .ok (.invokevirtual 145, 3) := by decide +kernel
theorem dX4_readProduct_5 : decode cX4_readProduct 5 = .ok (.istore_n 2, 1) := by decide +kernel
theorem dX4_readProduct_6 : decode cX4_readProduct 6 = .ok (.iconst 0, 1) := by decide +kernel
theorem dX4_readProduct_7 : decode cX4_readProduct 7 = .ok (.istore_n 3, 1) := by decide +kernel
theorem dX4_readProduct_8 : decode cX4_readProduct 8 = .ok (.iload_n 3, 1) := by decide +kernel
theorem dX4_readProduct_9 : decode cX4_readProduct 9 = .ok (.sipush 300, 3) := by decide +kernel
theorem dX4_readProduct_12 : decode cX4_readProduct 12 = .ok (.if_icmp .ge 53, 3) := by decide +kernel
theorem dX4_readProduct_15 : decode cX4_readProduct 15 = .ok (.iload_n 2, 1) := by decide +kernel
theorem dX4_readProduct_16 : decode cX4_readProduct 16 = .ok (.ifCond .eq 49, 3) := by decide +kernel
theorem dX4_readProduct_19 : decode cX4_readProduct 19 = .ok (.aload_n 0, 1) := by decide +kernel
theorem dX4_readProduct_20 : decode cX4_readProduct 20 = .ok (.getfield 41, 3) := by decide +kernel
theorem dX4_readProduct_23 : decode cX4_readProduct 23 = .ok (.bipush 56, 2) := by decide +kernel
theorem dX4_readProduct_25 : decode cX4_readProduct 25 = .ok (.bipush 58, 2) := by decide +kernel
theorem dX4_readProduct_27 : decode cX4_readProduct 27 = .ok (.invokestatic 96, 3) := by decide +kernel
theorem dX4_readProduct_30 : decode cX4_readProduct 30 = .ok (.ifCond .eq 35, 3) := by decide +kernel
theorem dX4_readProduct_33 : decode cX4_readProduct 33 = .ok (.aload_n 0, 1) := by decide +kernel
theorem dX4_readProduct_34 : decode cX4_readProduct 34 = .ok (.getfield 41, 3) := by decide +kernel
theorem dX4_readProduct_37 : decode cX4_readProduct 37 = .ok (.istore 4, 2) := by decide +kernel
theorem dX4_readProduct_39 : decode cX4_readProduct 39 = .ok (.aload_n 0, 1) := by decide +kernel
theorem dX4_readProduct_40 : decode cX4_readProduct 40 = .ok (.invokevirtual 38, 3) := by decide +kernel
theorem dX4_readProduct_43 : decode cX4_readProduct 43 = .ok (.aload_n 0, 1) := by decide +kernel
theorem dX4_readProduct_44 : decode cX4_readProduct 44 = .ok (.iload_n 1, 1) := by decide +kernel
theorem dX4_readProduct_45 : decode cX4_readProduct 45 = .ok (.invokevirtual 145, 3) := by decide +kernel
theorem dX4_readProduct_48 : decode cX4_readProduct 48 = .ok (.istore_n 2, 1) := by decide +kernel
theorem dX4_readProduct_49 : decode cX4_readProduct 49 = .ok (.aload_n 0, 1) := by decide +kernel
theorem dX4_readProduct_50 : decode cX4_readProduct 50 = .ok (.getfield 12, 3) := by decide +kernel
theorem dX4_readProduct_53 : decode cX4_readProduct 53 = .ok (.iload 4, 2) := by decide +kernel
theorem dX4_readProduct_55 : decode cX4_readProduct 55 = .ok (.iconst 0, 1) := by decide +kernel
theorem dX4_readProduct_56 : decode cX4_readProduct 56 = .ok (.invokevirtual 141, 3) := by decide +kernel
theorem dX4_readProduct_59 : decode cX4_readProduct 59 = .ok (.iinc 3 1, 3) := by decide +kernel
theorem dX4_readProduct_62 : decode cX4_readProduct 62 = .ok (.goto (-54), 3) := by decide +kernel
theorem dX4_readProduct_65 : decode cX4_readProduct 65 = .ok (.iload_n 2, 1) := by decide +kernel
theorem dX4_readProduct_66 : decode cX4_readProduct 66 = .ok (.ireturn, 1) := by decide +kernel
theorem dX4_readOne_0 : decode cX4_readOne 0 = .ok (.aload_n 0, 1) := by decide +kernel
theorem dX4_readOne_1 : decode cX4_readOne 1 = .ok (.getfield 41, 3) := by decide +kernel
theorem dX4_readOne_4 : decode cX4_readOne 4 = .ok (.bipush 40, 2) := by decide +kernel
theorem dX4_readOne_6 : decode cX4_readOne 6 = .ok (.if_icmp .ne 8, 3) := by decide +kernel
theorem dX4_readOne_9 : decode cX4_readOne 9 = .ok (.aload_n 0, 1) := by decide +kernel
theorem dX4_readOne_10 : decode cX4_readOne 10 = .ok (.invokevirtual 148, 3) := by decide +kernel
theorem dX4_readOne_13 : decode cX4_readOne 13 = .ok (.ireturn, 1) := by decide +kernel
theorem dX4_readOne_14 : decode cX4_readOne 14 = .ok (.aload_n 0, 1) := by decide +kernel
theorem dX4_readOne_15 : decode cX4_readOne 15 = .ok (.getfield 41, 3) := by decide +kernel
theorem dX4_readOne_18 : decode cX4_readOne 18 = .ok (.bipush 21, 2) := by decide +kernel
theorem dX4_readOne_20 : decode cX4_readOne 20 = .ok (.bipush 32, 2) := by decide +kernel
theorem dX4_readOne_22 : decode cX4_readOne 22 = .ok (.invokestatic 96, 3) := by decide +kernel
theorem dX4_readOne_25 : decode cX4_readOne 25 = .ok (.ifCond .eq 8, 3) := by decide +kernel
theorem dX4_readOne_28 : decode cX4_readOne 28 = .ok (.aload_n 0, 1) := by decide +kernel
theorem dX4_readOne_29 : decode cX4_readOne 29 = .ok (.invokevirtual 151, 3) := by decide +kernel
theorem dX4_readOne_32 : decode cX4_readOne 32 = .ok (.ireturn, 1) := by decide +kernel
theorem dX4_readOne_33 : decode cX4_readOne 33 = .ok (.aload_n 0, 1) := by decide +kernel
theorem dX4_readOne_34 : decode cX4_readOne 34 = .ok (.getfield 41, 3) := by decide +kernel
theorem dX4_readOne_37 : decode cX4_readOne 37 = .ok (.istore_n 2, 1) := by decide +kernel
theorem dX4_readOne_38 : decode cX4_readOne 38 = .ok (.iload_n 2, 1) := by decide +kernel
theorem dX4_readOne_39 : decode cX4_readOne 39 = .ok (.bipush 59, 2) := by decide +kernel
theorem dX4_readOne_41 : decode cX4_readOne 41 = .ok (.if_icmp .eq 27, 3) := by decide +kernel
theorem dX4_readOne_44 : decode cX4_readOne 44 = .ok (.iload_n 2, 1) := by decide +kernel
theorem dX4_readOne_45 : decode cX4_readOne 45 = .ok (.bipush 55, 2) := by decide +kernel
theorem dX4_readOne_47 : decode cX4_readOne 47 = .ok (.if_icmp .eq 21, 3) := by decide +kernel
theorem dX4_readOne_50 : decode cX4_readOne 50 = .ok (.iload_n 2, 1) := by decide +kernel
theorem dX4_readOne_51 : decode cX4_readOne 51 = .ok (.bipush 13, 2) := by decide +kernel
theorem dX4_readOne_53 : decode cX4_readOne 53 = .ok (.if_icmp .eq 15, 3) := by decide +kernel
theorem dX4_readOne_56 : decode cX4_readOne 56 = .ok (.iload_n 2, 1) := by decide +kernel
theorem dX4_readOne_57 : decode cX4_readOne 57 = .ok (.bipush 14, 2) := by decide +kernel
theorem dX4_readOne_59 : decode cX4_readOne 59 = .ok (.if_icmp .eq 9, 3) := by decide +kernel
theorem dX4_readOne_62 : decode cX4_readOne 62 = .ok (.aload_n 0, 1) := by decide +kernel
theorem dX4_readOne_63 : decode cX4_readOne 63 = .ok (.iconst 1, 1) := by decide +kernel
theorem dX4_readOne_64 : decode cX4_readOne 64 = .ok (.invokevirtual 93, 3) := by decide +kernel
theorem dX4_readOne_67 : decode cX4_readOne 67 = .ok (.ireturn, 1) := by decide +kernel
theorem dX4_readOne_68 : decode cX4_readOne 68 = .ok (.iload_n 1, 1) := by decide +kernel
theorem dX4_readOne_69 : decode cX4_readOne 69 = .ok (.bipush 8, 2) := by decide +kernel
theorem dX4_readOne_71 : decode cX4_readOne 71 = .ok (.if_icmp .lt 9, 3) := by decide +kernel
theorem dX4_readOne_74 : decode cX4_readOne 74 = .ok (.aload_n 0, 1) := by decide +kernel
theorem dX4_readOne_75 : decode cX4_readOne 75 = .ok (.iconst 3, 1) := by decide +kernel
theorem dX4_readOne_76 : decode cX4_readOne 76 = .ok (.invokevirtual 93, 3) := by decide +kernel
theorem dX4_readOne_79 : decode cX4_readOne 79 = .ok (.ireturn, 1) := by decide +kernel
theorem dX4_readOne_80 : decode cX4_readOne 80 = .ok (.aload_n 0, 1) := by decide +kernel
theorem dX4_readOne_81 : decode cX4_readOne 81 = .ok (.invokevirtual 38, 3) := by decide +kernel
theorem dX4_readOne_84 : decode cX4_readOne 84 = .ok (.iload_n 2, 1) := by decide +kernel
theorem dX4_readOne_85 : decode cX4_readOne 85 = .ok (.bipush 59, 2) := by decide +kernel
theorem dX4_readOne_87 : decode cX4_readOne 87 = .ok (.if_icmp .ne 28, 3) := by decide +kernel
theorem dX4_readOne_90 : decode cX4_readOne 90 = .ok (.aload_n 0, 1) := by decide +kernel
theorem dX4_readOne_91 : decode cX4_readOne 91 = .ok (.iload_n 1, 1) := by decide +kernel
theorem dX4_readOne_92 : decode cX4_readOne 92 = .ok (.iconst 1, 1) := by decide +kernel
theorem dX4_readOne_93 : decode cX4_readOne 93 = .ok (.iadd, 1) := by decide +kernel
theorem dX4_readOne_94 : decode cX4_readOne 94 = .ok (.invokevirtual 125, 3) := by decide +kernel
theorem dX4_readOne_97 : decode cX4_readOne 97 = .ok (.ifCond .eq 16, 3) := by decide +kernel
theorem dX4_readOne_100 : decode cX4_readOne 100 = .ok (.aload_n 0, 1) := by decide +kernel
theorem dX4_readOne_101 : decode cX4_readOne 101 = .ok (.bipush 60, 2) := by decide +kernel
theorem dX4_readOne_103 : decode cX4_readOne 103 = .ok (.invokevirtual 113, 3) := by decide +kernel
theorem dX4_readOne_106 : decode cX4_readOne 106 = .ok (.ifCond .eq 7, 3) := by decide +kernel
theorem dX4_readOne_109 : decode cX4_readOne 109 = .ok (.iconst 1, 1) := by decide +kernel
theorem dX4_readOne_110 : decode cX4_readOne 110 = .ok (.goto 4, 3) := by decide +kernel
theorem dX4_readOne_113 : decode cX4_readOne 113 = .ok (.iconst 0, 1) := by decide +kernel
theorem dX4_readOne_114 : decode cX4_readOne 114 = .ok (.ireturn, 1) := by decide +kernel
theorem dX4_readOne_115 : decode cX4_readOne 115 = .ok (.iload_n 2, 1) := by decide +kernel
theorem dX4_readOne_116 : decode cX4_readOne 116 = .ok (.bipush 14, 2) := by decide +kernel
theorem dX4_readOne_118 : decode cX4_readOne 118 = .ok (.if_icmp .ne 11, 3) := by decide +kernel
theorem dX4_readOne_121 : decode cX4_readOne 121 = .ok (.aload_n 0, 1) := by decide +kernel
theorem dX4_readOne_122 : decode cX4_readOne 122 = .ok (.iload_n 1, 1) := by decide +kernel
theorem dX4_readOne_123 : decode cX4_readOne 123 = .ok (.iconst 1, 1) := by decide +kernel
theorem dX4_readOne_124 : decode cX4_readOne 124 = .ok (.iadd, 1) := by decide +kernel
theorem dX4_readOne_125 : decode cX4_readOne 125 = .ok (.invokevirtual 154, 3) := by decide +kernel
theorem dX4_readOne_128 : decode cX4_readOne 128 = .ok (.ireturn, 1) := by decide +kernel
theorem dX4_readOne_129 : decode cX4_readOne 129 = .ok (.aload_n 0, 1) := by decide +kernel
theorem dX4_readOne_130 : decode cX4_readOne 130 = .ok (.iload_n 1, 1) := by decide +kernel
theorem dX4_readOne_131 : decode cX4_readOne 131 = .ok (.iconst 1, 1) := by decide +kernel
theorem dX4_readOne_132 : decode cX4_readOne 132 = .ok (.iadd, 1) := by decide +kernel
theorem dX4_readOne_133 : decode cX4_readOne 133 = .ok (.invokevirtual 145, 3) := by decide +kernel
theorem dX4_readOne_136 : decode cX4_readOne 136 = .ok (.istore_n 3, 1) := by decide +kernel
theorem dX4_readOne_137 : decode cX4_readOne 137 = .ok (.aload_n 0, 1) := by decide +kernel
theorem dX4_readOne_138 : decode cX4_readOne 138 = .ok (.getfield 12, 3) := by decide +kernel
theorem dX4_readOne_141 : decode cX4_readOne 141 = .ok (.iload_n 2, 1) := by decide +kernel
theorem dX4_readOne_142 : decode cX4_readOne 142 = .ok (.bipush 55, 2) := by decide +kernel
theorem dX4_readOne_144 : decode cX4_readOne 144 = .ok (.if_icmp .ne 8, 3) := by decide +kernel
theorem dX4_readOne_147 : decode cX4_readOne 147 = .ok (.bipush 70, 2) := by decide +kernel
theorem dX4_readOne_149 : decode cX4_readOne 149 = .ok (.goto 5, 3) := by decide +kernel
theorem dX4_readOne_152 : decode cX4_readOne 152 = .ok (.bipush 13, 2) := by decide +kernel
theorem dX4_readOne_154 : decode cX4_readOne 154 = .ok (.iconst 0, 1) := by decide +kernel
theorem dX4_readOne_155 : decode cX4_readOne 155 = .ok (.invokevirtual 141, 3) := by decide +kernel
theorem dX4_readOne_158 : decode cX4_readOne 158 = .ok (.iload_n 3, 1) := by decide +kernel
theorem dX4_readOne_159 : decode cX4_readOne 159 = .ok (.ireturn, 1) := by decide +kernel
theorem dX4_readConstant_0 : decode cX4_readConstant 0 = .ok (.aload_n 0, 1) := by decide +kernel
theorem dX4_readConstant_1 : decode cX4_readConstant 1 = .ok (.getfield 78, 3) := by decide +kernel
theorem dX4_readConstant_4 : decode cX4_readConstant 4 = .ok (.sipush 9999, 3) := by decide +kernel
theorem dX4_readConstant_7 : decode cX4_readConstant 7 = .ok (.if_icmp .le 9, 3) := by decide +kernel
theorem dX4_readConstant_10 : decode cX4_readConstant 10 = .ok (.aload_n 0, 1) := by decide +kernel
theorem dX4_readConstant_11 : decode cX4_readConstant 11 = .ok (.iconst 2, 1) := by decide +kernel
theorem dX4_readConstant_12 : decode cX4_readConstant 12 = .ok (.invokevirtual 93, 3) := by decide +kernel
theorem dX4_readConstant_15 : decode cX4_readConstant 15 = .ok (.ireturn, 1) := by decide +kernel
theorem dX4_readConstant_16 : decode cX4_readConstant 16 = .ok (.aload_n 0, 1) := by decide +kernel
theorem dX4_readConstant_17 : decode cX4_readConstant 17 = .ok (.getfield 12, 3) := by decide +kernel
theorem dX4_readConstant_20 : decode cX4_readConstant 20 = .ok (.bipush 40, 2) := by decide +kernel
theorem dX4_readConstant_22 : decode cX4_readConstant 22 = .ok (.aload_n 0, 1) := by decide +kernel
theorem dX4_readConstant_23 : decode cX4_readConstant 23 = .ok (.getfield 78, 3) := by decide +kernel
theorem dX4_readConstant_26 : decode cX4_readConstant 26 = .ok (.invokevirtual 141, 3) := by decide +kernel
theorem dX4_readConstant_29 : decode cX4_readConstant 29 = .ok (.aload_n 0, 1) := by decide +kernel
theorem dX4_readConstant_30 : decode cX4_readConstant 30 = .ok (.invokevirtual 38, 3) := by decide +kernel
theorem dX4_readConstant_33 : decode cX4_readConstant 33 = .ok (.iconst 1, 1) := by decide +kernel
theorem dX4_readConstant_34 : decode cX4_readConstant 34 = .ok (.ireturn, 1) := by decide +kernel
theorem dX4_readName_0 : decode cX4_readName 0 = .ok (.aload_n 0, 1) := by decide +kernel
theorem dX4_readName_1 : decode cX4_readName 1 = .ok (.getfield 41, 3) := by decide +kernel
theorem dX4_readName_4 : decode cX4_readName 4 = .ok (.bipush 21, 2) := by decide +kernel
theorem dX4_readName_6 : decode cX4_readName 6 = .ok (.isub, 1) := by decide +kernel
theorem dX4_readName_7 : decode cX4_readName 7 = .ok (.istore_n 1, 1) := by decide +kernel
theorem dX4_readName_8 : decode cX4_readName 8 = .ok (.getstatic 157, 3) := by decide +kernel
theorem dX4_readName_11 : decode cX4_readName 11 = .ok (.iload_n 1, 1) := by decide +kernel
theorem dX4_readName_12 : decode cX4_readName 12 = .ok (.iaload, 1) := by decide +kernel
theorem dX4_readName_13 : decode cX4_readName 13 = .ok (.aload_n 0, 1) := by decide +kernel
theorem dX4_readName_14 : decode cX4_readName 14 = .ok (.getfield 116, 3) := by decide +kernel
theorem dX4_readName_17 : decode cX4_readName 17 = .ok (.ishr, 1) := by decide +kernel
theorem dX4_readName_18 : decode cX4_readName 18 = .ok (.iconst 1, 1) := by decide +kernel
theorem dX4_readName_19 : decode cX4_readName 19 = .ok (.iand, 1) := by decide +kernel
theorem dX4_readName_20 : decode cX4_readName 20 = .ok (.ifCond .ne 9, 3) := by decide +kernel
theorem dX4_readName_23 : decode cX4_readName 23 = .ok (.aload_n 0, 1) := by decide +kernel
theorem dX4_readName_24 : decode cX4_readName 24 = .ok (.iconst 5, 1) := by decide +kernel
theorem dX4_readName_25 : decode cX4_readName 25 = .ok (.invokevirtual 93, 3) := by decide +kernel
theorem dX4_readName_28 : decode cX4_readName 28 = .ok (.ireturn, 1) := by decide +kernel
theorem dX4_readName_29 : decode cX4_readName 29 = .ok (.aload_n 0, 1) := by decide +kernel
theorem dX4_readName_30 : decode cX4_readName 30 = .ok (.getfield 12, 3) := by decide +kernel
theorem dX4_readName_33 : decode cX4_readName 33 = .ok (.aload_n 0, 1) := by decide +kernel
theorem dX4_readName_34 : decode cX4_readName 34 = .ok (.getfield 41, 3) := by decide +kernel
theorem dX4_readName_37 : decode cX4_readName 37 = .ok (.iconst 0, 1) := by decide +kernel
theorem dX4_readName_38 : decode cX4_readName 38 = .ok (.invokevirtual 141, 3) := by decide +kernel
theorem dX4_readName_41 : decode cX4_readName 41 = .ok (.aload_n 0, 1) := by decide +kernel
theorem dX4_readName_42 : decode cX4_readName 42 = .ok (.invokevirtual 38, 3) := by decide +kernel
theorem dX4_readName_45 : decode cX4_readName 45 = .ok (.iconst 1, 1) := by decide +kernel
theorem dX4_readName_46 : decode cX4_readName 46 = .ok (.ireturn, 1) := by decide +kernel
theorem dX4_readIf_0 : decode cX4_readIf 0 = .ok (.aload_n 0, 1) := by decide +kernel
theorem dX4_readIf_1 : decode cX4_readIf 1 = .ok (.iload_n 1, 1) := by decide +kernel
theorem dX4_readIf_2 : decode cX4_readIf 2 = .ok (.invokevirtual 160, 3) := by decide +kernel
theorem dX4_readIf_5 : decode cX4_readIf 5 = .ok (.ifCond .eq 12, 3) := by decide +kernel
theorem dX4_readIf_8 : decode cX4_readIf 8 = .ok (.aload_n 0, 1) := by decide +kernel
theorem dX4_readIf_9 : decode cX4_readIf 9 = .ok (.bipush 15, 2) := by decide +kernel
theorem dX4_readIf_11 : decode cX4_readIf 11 = .ok (.invokevirtual 113, 3) := by decide +kernel
theorem dX4_readIf_14 : decode cX4_readIf 14 = .ok (.ifCond .ne 5, 3) := by decide +kernel
theorem dX4_readIf_17 : decode cX4_readIf 17 = .ok (.iconst 0, 1) := by decide +kernel
theorem dX4_readIf_18 : decode cX4_readIf 18 = .ok (.ireturn, 1) := by decide +kernel
theorem dX4_readIf_19 : decode cX4_readIf 19 = .ok (.aload_n 0, 1) := by decide +kernel
theorem dX4_readIf_20 : decode cX4_readIf 20 = .ok (.getfield 12, 3) := by decide +kernel
theorem dX4_readIf_23 : decode cX4_readIf 23 = .ok (.getfield 122, 3) := by decide +kernel
theorem dX4_readIf_26 : decode cX4_readIf 26 = .ok (.istore_n 2, 1) := by decide +kernel
theorem dX4_readIf_27 : decode cX4_readIf 27 = .ok (.aload_n 0, 1) := by decide +kernel
theorem dX4_readIf_28 : decode cX4_readIf 28 = .ok (.getfield 12, 3) := by decide +kernel
theorem dX4_readIf_31 : decode cX4_readIf 31 = .ok (.bipush 72, 2) := by decide +kernel
theorem dX4_readIf_33 : decode cX4_readIf 33 = .ok (.iconst 0, 1) := by decide +kernel
theorem dX4_readIf_34 : decode cX4_readIf 34 = .ok (.invokevirtual 141, 3) := by decide +kernel
theorem dX4_readIf_37 : decode cX4_readIf 37 = .ok (.aload_n 0, 1) := by decide +kernel
theorem dX4_readIf_38 : decode cX4_readIf 38 = .ok (.iload_n 1, 1) := by decide +kernel
theorem dX4_readIf_39 : decode cX4_readIf 39 = .ok (.invokevirtual 125, 3) := by decide +kernel
theorem dX4_readIf_42 : decode cX4_readIf 42 = .ok (.ifCond .eq 12, 3) := by decide +kernel
theorem dX4_readIf_45 : decode cX4_readIf 45 = .ok (.aload_n 0, 1) := by decide +kernel
theorem dX4_readIf_46 : decode cX4_readIf 46 = .ok (.bipush 16, 2) := by decide +kernel
theorem dX4_readIf_48 : decode cX4_readIf 48 = .ok (.invokevirtual 113, 3) := by decide +kernel
theorem dX4_readIf_51 : decode cX4_readIf 51 = .ok (.ifCond .ne 5, 3) := by decide +kernel
theorem dX4_readIf_54 : decode cX4_readIf 54 = .ok (.iconst 0, 1) := by decide +kernel
theorem dX4_readIf_55 : decode cX4_readIf 55 = .ok (.ireturn, 1) := by decide +kernel
theorem dX4_readIf_56 : decode cX4_readIf 56 = .ok (.aload_n 0, 1) := by decide +kernel
theorem dX4_readIf_57 : decode cX4_readIf 57 = .ok (.getfield 12, 3) := by decide +kernel
theorem dX4_readIf_60 : decode cX4_readIf 60 = .ok (.getfield 122, 3) := by decide +kernel
theorem dX4_readIf_63 : decode cX4_readIf 63 = .ok (.istore_n 3, 1) := by decide +kernel
theorem dX4_readIf_64 : decode cX4_readIf 64 = .ok (.aload_n 0, 1) := by decide +kernel
theorem dX4_readIf_65 : decode cX4_readIf 65 = .ok (.getfield 12, 3) := by decide +kernel
theorem dX4_readIf_68 : decode cX4_readIf 68 = .ok (.bipush 71, 2) := by decide +kernel
theorem dX4_readIf_70 : decode cX4_readIf 70 = .ok (.iconst 0, 1) := by decide +kernel
theorem dX4_readIf_71 : decode cX4_readIf 71 = .ok (.invokevirtual 141, 3) := by decide +kernel
theorem dX4_readIf_74 : decode cX4_readIf 74 = .ok (.aload_n 0, 1) := by decide +kernel
theorem dX4_readIf_75 : decode cX4_readIf 75 = .ok (.getfield 12, 3) := by decide +kernel
theorem dX4_readIf_78 : decode cX4_readIf 78 = .ok (.iload_n 2, 1) := by decide +kernel
theorem dX4_readIf_79 : decode cX4_readIf 79 = .ok (.invokevirtual 163, 3) := by decide +kernel
theorem dX4_readIf_82 : decode cX4_readIf 82 = .ok (.aload_n 0, 1) := by decide +kernel
theorem dX4_readIf_83 : decode cX4_readIf 83 = .ok (.iload_n 1, 1) := by decide +kernel
theorem dX4_readIf_84 : decode cX4_readIf 84 = .ok (.invokevirtual 125, 3) := by decide +kernel
theorem dX4_readIf_87 : decode cX4_readIf 87 = .ok (.ifCond .eq 12, 3) := by decide +kernel
theorem dX4_readIf_90 : decode cX4_readIf 90 = .ok (.aload_n 0, 1) := by decide +kernel
theorem dX4_readIf_91 : decode cX4_readIf 91 = .ok (.bipush 17, 2) := by decide +kernel
theorem dX4_readIf_93 : decode cX4_readIf 93 = .ok (.invokevirtual 113, 3) := by decide +kernel
theorem dX4_readIf_96 : decode cX4_readIf 96 = .ok (.ifCond .ne 5, 3) := by decide +kernel
theorem dX4_readIf_99 : decode cX4_readIf 99 = .ok (.iconst 0, 1) := by decide +kernel
theorem dX4_readIf_100 : decode cX4_readIf 100 = .ok (.ireturn, 1) := by decide +kernel
theorem dX4_readIf_101 : decode cX4_readIf 101 = .ok (.aload_n 0, 1) := by decide +kernel
theorem dX4_readIf_102 : decode cX4_readIf 102 = .ok (.getfield 12, 3) := by decide +kernel
theorem dX4_readIf_105 : decode cX4_readIf 105 = .ok (.iload_n 3, 1) := by decide +kernel
theorem dX4_readIf_106 : decode cX4_readIf 106 = .ok (.invokevirtual 163, 3) := by decide +kernel
theorem dX4_readIf_109 : decode cX4_readIf 109 = .ok (.iconst 1, 1) := by decide +kernel
theorem dX4_readIf_110 : decode cX4_readIf 110 = .ok (.ireturn, 1) := by decide +kernel
theorem dX4_readEither_0 : decode cX4_readEither 0 = .ok (.aload_n 0, 1) := by decide +kernel
theorem dX4_readEither_1 : decode cX4_readEither 1 = .ok (.iload_n 1, 1) := by decide +kernel
theorem dX4_readEither_2 : decode cX4_readEither 2 = .ok (.invokevirtual 166, 3) := by decide +kernel
theorem dX4_readEither_5 : decode cX4_readEither 5 = .ok (.istore_n 2, 1) := by decide +kernel
theorem dX4_readEither_6 : decode cX4_readEither 6 = .ok (.iconst 0, 1) := by decide +kernel
theorem dX4_readEither_7 : decode cX4_readEither 7 = .ok (.istore_n 3, 1) := by decide +kernel
theorem dX4_readEither_8 : decode cX4_readEither 8 = .ok (.iload_n 3, 1) := by decide +kernel
theorem dX4_readEither_9 : decode cX4_readEither 9 = .ok (.sipush 300, 3) := by decide +kernel
theorem dX4_readEither_12 : decode cX4_readEither 12 = .ok (.if_icmp .ge 42, 3) := by decide +kernel
theorem dX4_readEither_15 : decode cX4_readEither 15 = .ok (.iload_n 2, 1) := by decide +kernel
theorem dX4_readEither_16 : decode cX4_readEither 16 = .ok (.ifCond .eq 38, 3) := by decide +kernel
theorem dX4_readEither_19 : decode cX4_readEither 19 = .ok (.aload_n 0, 1) := by decide +kernel
theorem dX4_readEither_20 : decode cX4_readEither 20 = .ok (.getfield 41, 3) := by decide +kernel
theorem dX4_readEither_23 : decode cX4_readEither 23 = .ok (.bipush 20, 2) := by decide +kernel
theorem dX4_readEither_25 : decode cX4_readEither 25 = .ok (.if_icmp .ne 29, 3) := by decide +kernel
theorem dX4_readEither_28 : decode cX4_readEither 28 = .ok (.aload_n 0, 1) := by decide +kernel
theorem dX4_readEither_29 : decode cX4_readEither 29 = .ok (.invokevirtual 38, 3) := by decide +kernel
theorem dX4_readEither_32 : decode cX4_readEither 32 = .ok (.aload_n 0, 1) := by decide +kernel
theorem dX4_readEither_33 : decode cX4_readEither 33 = .ok (.iload_n 1, 1) := by decide +kernel
theorem dX4_readEither_34 : decode cX4_readEither 34 = .ok (.invokevirtual 166, 3) := by decide +kernel
theorem dX4_readEither_37 : decode cX4_readEither 37 = .ok (.istore_n 2, 1) := by decide +kernel
theorem dX4_readEither_38 : decode cX4_readEither 38 = .ok (.aload_n 0, 1) := by decide +kernel
theorem dX4_readEither_39 : decode cX4_readEither 39 = .ok (.getfield 12, 3) := by decide +kernel
theorem dX4_readEither_42 : decode cX4_readEither 42 = .ok (.bipush 20, 2) := by decide +kernel
theorem dX4_readEither_44 : decode cX4_readEither 44 = .ok (.iconst 0, 1) := by decide +kernel
theorem dX4_readEither_45 : decode cX4_readEither 45 = .ok (.invokevirtual 141, 3) := by decide +kernel
theorem dX4_readEither_48 : decode cX4_readEither 48 = .ok (.iinc 3 1, 3) := by decide +kernel
theorem dX4_readEither_51 : decode cX4_readEither 51 = .ok (.goto (-43), 3) := by decide +kernel
theorem dX4_readEither_54 : decode cX4_readEither 54 = .ok (.iload_n 2, 1) := by decide +kernel
theorem dX4_readEither_55 : decode cX4_readEither 55 = .ok (.ireturn, 1) := by decide +kernel
theorem dX4_readBoth_0 : decode cX4_readBoth 0 = .ok (.aload_n 0, 1) := by decide +kernel
theorem dX4_readBoth_1 : decode cX4_readBoth 1 = .ok (.iload_n 1, 1) := by decide +kernel
theorem dX4_readBoth_2 : decode cX4_readBoth 2 = .ok (.invokevirtual 169, 3) := by decide +kernel
theorem dX4_readBoth_5 : decode cX4_readBoth 5 = .ok (.istore_n 2, 1) := by decide +kernel
theorem dX4_readBoth_6 : decode cX4_readBoth 6 = .ok (.iconst 0, 1) := by decide +kernel
theorem dX4_readBoth_7 : decode cX4_readBoth 7 = .ok (.istore_n 3, 1) := by decide +kernel
theorem dX4_readBoth_8 : decode cX4_readBoth 8 = .ok (.iload_n 3, 1) := by decide +kernel
theorem dX4_readBoth_9 : decode cX4_readBoth 9 = .ok (.sipush 300, 3) := by decide +kernel
theorem dX4_readBoth_12 : decode cX4_readBoth 12 = .ok (.if_icmp .ge 42, 3) := by decide +kernel
theorem dX4_readBoth_15 : decode cX4_readBoth 15 = .ok (.iload_n 2, 1) := by decide +kernel
theorem dX4_readBoth_16 : decode cX4_readBoth 16 = .ok (.ifCond .eq 38, 3) := by decide +kernel
theorem dX4_readBoth_19 : decode cX4_readBoth 19 = .ok (.aload_n 0, 1) := by decide +kernel
theorem dX4_readBoth_20 : decode cX4_readBoth 20 = .ok (.getfield 41, 3) := by decide +kernel
theorem dX4_readBoth_23 : decode cX4_readBoth 23 = .ok (.bipush 19, 2) := by decide +kernel
theorem dX4_readBoth_25 : decode cX4_readBoth 25 = .ok (.if_icmp .ne 29, 3) := by decide +kernel
theorem dX4_readBoth_28 : decode cX4_readBoth 28 = .ok (.aload_n 0, 1) := by decide +kernel
theorem dX4_readBoth_29 : decode cX4_readBoth 29 = .ok (.invokevirtual 38, 3) := by decide +kernel
theorem dX4_readBoth_32 : decode cX4_readBoth 32 = .ok (.aload_n 0, 1) := by decide +kernel
theorem dX4_readBoth_33 : decode cX4_readBoth 33 = .ok (.iload_n 1, 1) := by decide +kernel
theorem dX4_readBoth_34 : decode cX4_readBoth 34 = .ok (.invokevirtual 169, 3) := by decide +kernel
theorem dX4_readBoth_37 : decode cX4_readBoth 37 = .ok (.istore_n 2, 1) := by decide +kernel
theorem dX4_readBoth_38 : decode cX4_readBoth 38 = .ok (.aload_n 0, 1) := by decide +kernel
theorem dX4_readBoth_39 : decode cX4_readBoth 39 = .ok (.getfield 12, 3) := by decide +kernel
theorem dX4_readBoth_42 : decode cX4_readBoth 42 = .ok (.bipush 19, 2) := by decide +kernel
theorem dX4_readBoth_44 : decode cX4_readBoth 44 = .ok (.iconst 0, 1) := by decide +kernel
theorem dX4_readBoth_45 : decode cX4_readBoth 45 = .ok (.invokevirtual 141, 3) := by decide +kernel
theorem dX4_readBoth_48 : decode cX4_readBoth 48 = .ok (.iinc 3 1, 3) := by decide +kernel
theorem dX4_readBoth_51 : decode cX4_readBoth 51 = .ok (.goto (-43), 3) := by decide +kernel
theorem dX4_readBoth_54 : decode cX4_readBoth 54 = .ok (.iload_n 2, 1) := by decide +kernel
theorem dX4_readBoth_55 : decode cX4_readBoth 55 = .ok (.ireturn, 1) := by decide +kernel
theorem dX4_readAsk_0 : decode cX4_readAsk 0 = .ok (.aload_n 0, 1) := by decide +kernel
theorem dX4_readAsk_1 : decode cX4_readAsk 1 = .ok (.getfield 41, 3) := by decide +kernel
theorem dX4_readAsk_4 : decode cX4_readAsk 4 = .ok (.bipush 18, 2) := by decide +kernel
theorem dX4_readAsk_6 : decode cX4_readAsk 6 = .ok (.if_icmp .ne 9, 3) := by decide +kernel
theorem dX4_readAsk_9 : decode cX4_readAsk 9 = .ok (.aload_n 0, 1) := by decide +kernel
theorem dX4_readAsk_10 : decode cX4_readAsk 10 = .ok (.iload_n 1, 1) := by decide +kernel
theorem dX4_readAsk_11 : decode cX4_readAsk 11 = .ok (.invokevirtual 172, 3) := by decide +kernel
theorem dX4_readAsk_14 : decode cX4_readAsk 14 = .ok (.ireturn, 1) := by decide +kernel
theorem dX4_readAsk_15 : decode cX4_readAsk 15 = .ok (.aload_n 0, 1) := by decide +kernel
theorem dX4_readAsk_16 : decode cX4_readAsk 16 = .ok (.iload_n 1, 1) := by decide +kernel
theorem dX4_readAsk_17 : decode cX4_readAsk 17 = .ok (.invokevirtual 125, 3) := by decide +kernel
theorem dX4_readAsk_20 : decode cX4_readAsk 20 = .ok (.ifCond .ne 5, 3) := by decide +kernel
theorem dX4_readAsk_23 : decode cX4_readAsk 23 = .ok (.iconst 0, 1) := by decide +kernel
theorem dX4_readAsk_24 : decode cX4_readAsk 24 = .ok (.ireturn, 1) := by decide +kernel
theorem dX4_readAsk_25 : decode cX4_readAsk 25 = .ok (.aload_n 0, 1) := by decide +kernel
theorem dX4_readAsk_26 : decode cX4_readAsk 26 = .ok (.getfield 41, 3) := by decide +kernel
theorem dX4_readAsk_29 : decode cX4_readAsk 29 = .ok (.istore_n 2, 1) := by decide +kernel
theorem dX4_readAsk_30 : decode cX4_readAsk 30 = .ok (.iload_n 2, 1) := by decide +kernel
theorem dX4_readAsk_31 : decode cX4_readAsk 31 = .ok (.bipush 50, 2) := by decide +kernel
theorem dX4_readAsk_33 : decode cX4_readAsk 33 = .ok (.bipush 53, 2) := by decide +kernel
theorem dX4_readAsk_35 : decode cX4_readAsk 35 = .ok (.invokestatic 96, 3) := by decide +kernel
theorem dX4_readAsk_38 : decode cX4_readAsk 38 = .ok (.ifCond .ne 21, 3) := by decide +kernel
theorem dX4_readAsk_41 : decode cX4_readAsk 41 = .ok (.iload_n 2, 1) := by decide +kernel
theorem dX4_readAsk_42 : decode cX4_readAsk 42 = .ok (.bipush 62, 2) := by decide +kernel
theorem dX4_readAsk_44 : decode cX4_readAsk 44 = .ok (.if_icmp .eq 15, 3) := by decide +kernel
theorem dX4_readAsk_47 : decode cX4_readAsk 47 = .ok (.iload_n 2, 1) := by decide +kernel
theorem dX4_readAsk_48 : decode cX4_readAsk 48 = .ok (.bipush 63, 2) := by decide +kernel
theorem dX4_readAsk_50 : decode cX4_readAsk 50 = .ok (.if_icmp .eq 9, 3) := by decide +kernel
theorem dX4_readAsk_53 : decode cX4_readAsk 53 = .ok (.aload_n 0, 1) := by decide +kernel
theorem dX4_readAsk_54 : decode cX4_readAsk 54 = .ok (.iconst 1, 1) := by decide +kernel
theorem dX4_readAsk_55 : decode cX4_readAsk 55 = .ok (.invokevirtual 93, 3) := by decide +kernel
theorem dX4_readAsk_58 : decode cX4_readAsk 58 = .ok (.ireturn, 1) := by decide +kernel
theorem dX4_readAsk_59 : decode cX4_readAsk 59 = .ok (.aload_n 0, 1) := by decide +kernel
theorem dX4_readAsk_60 : decode cX4_readAsk 60 = .ok (.invokevirtual 38, 3) := by decide +kernel
theorem dX4_readAsk_63 : decode cX4_readAsk 63 = .ok (.aload_n 0, 1) := by decide +kernel
theorem dX4_readAsk_64 : decode cX4_readAsk 64 = .ok (.iload_n 1, 1) := by decide +kernel
theorem dX4_readAsk_65 : decode cX4_readAsk 65 = .ok (.invokevirtual 125, 3) := by decide +kernel
theorem dX4_readAsk_68 : decode cX4_readAsk 68 = .ok (.istore_n 3, 1) := by decide +kernel
theorem dX4_readAsk_69 : decode cX4_readAsk 69 = .ok (.aload_n 0, 1) := by decide +kernel
theorem dX4_readAsk_70 : decode cX4_readAsk 70 = .ok (.getfield 12, 3) := by decide +kernel
theorem dX4_readAsk_73 : decode cX4_readAsk 73 = .ok (.iload_n 2, 1) := by decide +kernel
theorem dX4_readAsk_74 : decode cX4_readAsk 74 = .ok (.iconst 0, 1) := by decide +kernel
theorem dX4_readAsk_75 : decode cX4_readAsk 75 = .ok (.invokevirtual 141, 3) := by decide +kernel
theorem dX4_readAsk_78 : decode cX4_readAsk 78 = .ok (.iload_n 3, 1) := by decide +kernel
theorem dX4_readAsk_79 : decode cX4_readAsk 79 = .ok (.ireturn, 1) := by decide +kernel
theorem dX4_readNot_0 : decode cX4_readNot 0 = .ok (.iload_n 1, 1) := by decide +kernel
theorem dX4_readNot_1 : decode cX4_readNot 1 = .ok (.bipush 8, 2) := by decide +kernel
theorem dX4_readNot_3 : decode cX4_readNot 3 = .ok (.if_icmp .lt 9, 3) := by decide +kernel
theorem dX4_readNot_6 : decode cX4_readNot 6 = .ok (.aload_n 0, 1) := by decide +kernel
theorem dX4_readNot_7 : decode cX4_readNot 7 = .ok (.iconst 3, 1) := by decide +kernel
theorem dX4_readNot_8 : decode cX4_readNot 8 = .ok (.invokevirtual 93, 3) := by decide +kernel
theorem dX4_readNot_11 : decode cX4_readNot 11 = .ok (.ireturn, 1) := by decide +kernel
theorem dX4_readNot_12 : decode cX4_readNot 12 = .ok (.aload_n 0, 1) := by decide +kernel
theorem dX4_readNot_13 : decode cX4_readNot 13 = .ok (.invokevirtual 38, 3) := by decide +kernel
theorem dX4_readNot_16 : decode cX4_readNot 16 = .ok (.aload_n 0, 1) := by decide +kernel
theorem dX4_readNot_17 : decode cX4_readNot 17 = .ok (.iload_n 1, 1) := by decide +kernel
theorem dX4_readNot_18 : decode cX4_readNot 18 = .ok (.iconst 1, 1) := by decide +kernel
theorem dX4_readNot_19 : decode cX4_readNot 19 = .ok (.iadd, 1) := by decide +kernel
theorem dX4_readNot_20 : decode cX4_readNot 20 = .ok (.invokevirtual 169, 3) := by decide +kernel
theorem dX4_readNot_23 : decode cX4_readNot 23 = .ok (.istore_n 2, 1) := by decide +kernel
theorem dX4_readNot_24 : decode cX4_readNot 24 = .ok (.aload_n 0, 1) := by decide +kernel
theorem dX4_readNot_25 : decode cX4_readNot 25 = .ok (.getfield 12, 3) := by decide +kernel
theorem dX4_readNot_28 : decode cX4_readNot 28 = .ok (.bipush 18, 2) := by decide +kernel
theorem dX4_readNot_30 : decode cX4_readNot 30 = .ok (.iconst 0, 1) := by decide +kernel
theorem dX4_readNot_31 : decode cX4_readNot 31 = .ok (.invokevirtual 141, 3) := by decide +kernel
theorem dX4_readNot_34 : decode cX4_readNot 34 = .ok (.iload_n 2, 1) := by decide +kernel
theorem dX4_readNot_35 : decode cX4_readNot 35 = .ok (.ireturn, 1) := by decide +kernel
def x_RC (V : g_V) (l : Launch) (rc : Nat → Int → g_M → Option (Int × g_M)) (nf nl : Nat) : Prop := ∀ (d : Int) (M M2 : g_M) (x : Int), (rc 0 d M = some (x, M2) → MetI xG V l yX4_readSum cX4_readSum 5 (some .boolean) nf nl [.ref (V.2.2 23), .int (gI d)] M x M2) ∧ (rc 1 d M = some (x, M2) → MetI xG V l yX4_readProduct cX4_readProduct 5 (some .boolean) nf nl [.ref (V.2.2 23), .int (gI d)] M x M2) ∧ (rc 2 d M = some (x, M2) → MetI xG V l yX4_readOne cX4_readOne 4 (some .boolean) nf nl [.ref (V.2.2 23), .int (gI d)] M x M2) ∧ (rc 3 d M = some (x, M2) → MetI xG V l yX4_readIf cX4_readIf 4 (some .boolean) nf nl [.ref (V.2.2 23), .int (gI d)] M x M2) ∧ (rc 4 d M = some (x, M2) → MetI xG V l yX4_readEither cX4_readEither 4 (some .boolean) nf nl [.ref (V.2.2 23), .int (gI d)] M x M2) ∧ (rc 5 d M = some (x, M2) → MetI xG V l yX4_readBoth cX4_readBoth 4 (some .boolean) nf nl [.ref (V.2.2 23), .int (gI d)] M x M2) ∧ (rc 6 d M = some (x, M2) → MetI xG V l yX4_readAsk cX4_readAsk 4 (some .boolean) nf nl [.ref (V.2.2 23), .int (gI d)] M x M2) ∧ (rc 7 d M = some (x, M2) → MetI xG V l yX4_readNot cX4_readNot 3 (some .boolean) nf nl [.ref (V.2.2 23), .int (gI d)] M x M2)
theorem x_RC_0 {V : g_V} {l : Launch} {rc : Nat → Int → g_M → Option (Int × g_M)} {nf nl : Nat} (h : x_RC V l rc nf nl) {d : Int} {M M2 : g_M} {x : Int} (hr : rc 0 d M = some (x, M2)) : MetI xG V l yX4_readSum cX4_readSum 5 (some .boolean) nf nl [.ref (V.2.2 23), .int (gI d)] M x M2 := (h d M M2 x).1 hr
theorem x_RC_1 {V : g_V} {l : Launch} {rc : Nat → Int → g_M → Option (Int × g_M)} {nf nl : Nat} (h : x_RC V l rc nf nl) {d : Int} {M M2 : g_M} {x : Int} (hr : rc 1 d M = some (x, M2)) : MetI xG V l yX4_readProduct cX4_readProduct 5 (some .boolean) nf nl [.ref (V.2.2 23), .int (gI d)] M x M2 := (h d M M2 x).2.1 hr
theorem x_RC_2 {V : g_V} {l : Launch} {rc : Nat → Int → g_M → Option (Int × g_M)} {nf nl : Nat} (h : x_RC V l rc nf nl) {d : Int} {M M2 : g_M} {x : Int} (hr : rc 2 d M = some (x, M2)) : MetI xG V l yX4_readOne cX4_readOne 4 (some .boolean) nf nl [.ref (V.2.2 23), .int (gI d)] M x M2 := (h d M M2 x).2.2.1 hr
theorem x_RC_3 {V : g_V} {l : Launch} {rc : Nat → Int → g_M → Option (Int × g_M)} {nf nl : Nat} (h : x_RC V l rc nf nl) {d : Int} {M M2 : g_M} {x : Int} (hr : rc 3 d M = some (x, M2)) : MetI xG V l yX4_readIf cX4_readIf 4 (some .boolean) nf nl [.ref (V.2.2 23), .int (gI d)] M x M2 := (h d M M2 x).2.2.2.1 hr
theorem x_RC_4 {V : g_V} {l : Launch} {rc : Nat → Int → g_M → Option (Int × g_M)} {nf nl : Nat} (h : x_RC V l rc nf nl) {d : Int} {M M2 : g_M} {x : Int} (hr : rc 4 d M = some (x, M2)) : MetI xG V l yX4_readEither cX4_readEither 4 (some .boolean) nf nl [.ref (V.2.2 23), .int (gI d)] M x M2 := (h d M M2 x).2.2.2.2.1 hr
theorem x_RC_5 {V : g_V} {l : Launch} {rc : Nat → Int → g_M → Option (Int × g_M)} {nf nl : Nat} (h : x_RC V l rc nf nl) {d : Int} {M M2 : g_M} {x : Int} (hr : rc 5 d M = some (x, M2)) : MetI xG V l yX4_readBoth cX4_readBoth 4 (some .boolean) nf nl [.ref (V.2.2 23), .int (gI d)] M x M2 := (h d M M2 x).2.2.2.2.2.1 hr
theorem x_RC_6 {V : g_V} {l : Launch} {rc : Nat → Int → g_M → Option (Int × g_M)} {nf nl : Nat} (h : x_RC V l rc nf nl) {d : Int} {M M2 : g_M} {x : Int} (hr : rc 6 d M = some (x, M2)) : MetI xG V l yX4_readAsk cX4_readAsk 4 (some .boolean) nf nl [.ref (V.2.2 23), .int (gI d)] M x M2 := (h d M M2 x).2.2.2.2.2.2.1 hr
theorem x_RC_7 {V : g_V} {l : Launch} {rc : Nat → Int → g_M → Option (Int × g_M)} {nf nl : Nat} (h : x_RC V l rc nf nl) {d : Int} {M M2 : g_M} {x : Int} (hr : rc 7 d M = some (x, M2)) : MetI xG V l yX4_readNot cX4_readNot 3 (some .boolean) nf nl [.ref (V.2.2 23), .int (gI d)] M x M2 := (h d M M2 x).2.2.2.2.2.2.2 hr
section
variable {p : Program} {l : Launch} {e : Env} {R : Room} {s : State} {m : MethodId} {args : Array Value} {below : List Frame} {meth : Method} {c : Code} {Q : State → Prop} {V : g_V} {nf nl : Nat}
set_option maxRecDepth 100000 in
set_option maxHeartbeats 4000000 in
theorem w_X4_readSum_L8 (C : g_CX xG V p R s m args meth c cX4_readSum 5 (some .boolean) RX4 nf nl) {res : Int × g_M} (hR : g_RetI xG V p l e R s m args below meth c Q cX4_readSum .boolean res.1 res.2) (rc : Nat → Int → g_M → Option (Int × g_M)) {nfr nlr : Nat} (hroom : nfr + 1 ≤ nf ∧ 24 + nlr ≤ nl ∧ 11 ≤ nf ∧ 365 ≤ nl) (hrc : x_RC V l rc nfr nlr) (x15 : Int)   : ∀ (f : Nat) (x16 : Int) (x17 : Int) (M18 : g_M) (H : Heap) (locs : List Loc) (ls : Array Slot), m_X4_readSum_L8 rc x15  f x16 x17 M18 = some res → g_PT xG V M18 s H locs → lv_has ls 5 [(0, .ref (V.2.2 23)), (1, .int (gI x15)), (2, .int (gI x16)), (3, .int (gI x17))] → W p l e R s m args below meth c H locs 0 0 Q (F0 m 8 ls []) := by
  intro f
  induction f with
  | zero => intro x16 x17 M18 H locs ls h hp hl; cases h
  | succ f ih =>
    intro x16 x17 M18 H locs ls h hp hl
    rw [m_X4_readSum_L8] at h
    refine lv_iload_n C.1 C.2.1 dX4_readSum_8 rfl (lv_at hl 3 rfl) ?_
    refine r_sipush C dX4_readSum_9 (by decide +kernel) ?_
    refine r_icmp_ge (tgt := 69) C h dX4_readSum_12 (by decide) (fun h => ?_) (fun h => ?_)
    · refine lv_iload_n C.1 C.2.1 dX4_readSum_69 rfl (lv_at hl 2 rfl) ?_
      obtain ⟨hg, h⟩ := gd_of h
      cases h
      exact hR _ _ _ _ dX4_readSum_70 (g_nzg hg) hp
    · refine lv_iload_n C.1 C.2.1 dX4_readSum_15 rfl (lv_at hl 2 rfl) ?_
      refine r_if_eq (tgt := 69) C h dX4_readSum_16 (by decide) (fun h => ?_) (fun h => ?_)
      · refine lv_iload_n C.1 C.2.1 dX4_readSum_69 rfl (lv_at hl 2 rfl) ?_
        obtain ⟨hg, h⟩ := gd_of h
        cases h
        exact hR _ _ _ _ dX4_readSum_70 (g_nzg hg) hp
      · refine r_jn (P := fun J => ∀  (H : Heap) (locs : List Loc) (ls : Array Slot), J  = some res → g_PT xG V M18 s H locs → lv_has ls 5 [(0, .ref (V.2.2 23)), (1, .int (gI x15)), (3, .int (gI x17))] → W p l e R s m args below meth c H locs 0 0 Q (F0 m 37 ls [])) h ?_ (fun J19 hJ19 h => ?_)
        · intro  H locs ls h hp hl
          refine lv_aload_n C.1 C.2.1 dX4_readSum_37 rfl (lv_at hl 0 rfl) ?_
          refine r_geti (t := 0) C hp xk_23 xs_23 xc_4 xin_4 (j := 7) (by decide) rfl gw_291 rfl dX4_readSum_38 ?_
          refine r_istore (lv' := fun x20 => [(4, .int (gI x20)), (0, .ref (V.2.2 23)), (1, .int (gI x15)), (3, .int (gI x17))]) C h dX4_readSum_41 hl (by decide) (fun _ => rfl) (fun x20 ls h hl => ?_)
          refine lv_aload_n C.1 C.2.1 dX4_readSum_43 rfl (lv_at hl 1 rfl) ?_
          obtain ⟨M21, hr, h⟩ := bd_of h
          refine r_callVV (As := []) (rest := []) C hl.1 hp (c_X4_advance l C.2.2.2.2.2.2.2.2.2.2.2 hr) gw_519 gw_521 gw_1 xk_23 xs_23 xc_4 cal_X4_advance rfl rfl (Nat.le_of_ble_eq_true rfl) ⟨by omega, by omega⟩ dX4_readSum_44 (fun H locs hp => ?_)
          refine lv_aload_n C.1 C.2.1 dX4_readSum_47 rfl (lv_at hl 1 rfl) ?_
          refine lv_iload_n C.1 C.2.1 dX4_readSum_48 rfl (lv_at hl 2 rfl) ?_
          obtain ⟨x22, M23, hr, h⟩ := bW_of h
          refine r_callVI (As := [.int (gI x15)]) (rest := []) C hl.1 hp (x_RC_1 hrc hr) gw_688 gw_690 gw_11 xk_23 xs_23 xc_4 cal_X4_readProduct rfl rfl (Nat.le_of_ble_eq_true rfl) ⟨by omega, by omega⟩ dX4_readSum_49 (fun H locs hp => ?_)
          refine r_istore_n (lv' := fun x24 => [(2, .int (gI x24)), (4, .int (gI x20)), (0, .ref (V.2.2 23)), (1, .int (gI x15)), (3, .int (gI x17))]) C h dX4_readSum_52 rfl hl (by decide) (fun _ => rfl) (fun x24 ls h hl => ?_)
          refine lv_aload_n C.1 C.2.1 dX4_readSum_53 rfl (lv_at hl 2 rfl) ?_
          refine r_getr (t := 25) C hp xk_23 xs_23 xc_4 xin_4 (j := 0) (by decide) rfl gw_280 rfl dX4_readSum_54 ?_
          refine lv_iload C.1 C.2.1 dX4_readSum_57 (lv_at hl 1 rfl) ?_
          refine r_iconst C dX4_readSum_59 ?_
          obtain ⟨M25, hr, h⟩ := bd_of h
          refine r_callVV (As := [.int (gI x20), .int (gI 0)]) (rest := []) C hl.1 hp (c_X7_put l C.2.2.2.2.2.2.2.2.2.2.2 xT_25 hr) gw_700 gw_701 gw_702 xk_25 xs_25 xc_7 cal_X7_put rfl rfl (Nat.le_of_ble_eq_true rfl) ⟨by omega, by omega⟩ dX4_readSum_60 (fun H locs hp => ?_)
          refine r_iinc (lv' := fun x26 => [(3, .int (gI x26)), (2, .int (gI x24)), (4, .int (gI x20)), (0, .ref (V.2.2 23)), (1, .int (gI x15))]) C h dX4_readSum_63 hl (j := 4) rfl (by decide) (fun _ => rfl) (fun x26 ls h hl => ?_)
          refine r_goto (tgt := 8) C dX4_readSum_66 (by decide) ?_
          exact ih _ _ _ _ _ _ h hp (lv_sub hl [3, 4, 1, 0] rfl)
        refine lv_aload_n C.1 C.2.1 dX4_readSum_19 rfl (lv_at hl 0 rfl) ?_
        refine r_geti (t := 0) C hp xk_23 xs_23 xc_4 xin_4 (j := 7) (by decide) rfl gw_291 rfl dX4_readSum_20 ?_
        refine r_bipush C dX4_readSum_23 (by decide +kernel) ?_
        refine r_icmp_eq (tgt := 37) C h dX4_readSum_25 (by decide) (fun h => ?_) (fun h => ?_)
        · exact hJ19  _ _ _ h hp (lv_sub hl [0, 1, 3] rfl)
        · refine lv_aload_n C.1 C.2.1 dX4_readSum_28 rfl (lv_at hl 0 rfl) ?_
          refine r_geti (t := 0) C hp xk_23 xs_23 xc_4 xin_4 (j := 7) (by decide) rfl gw_291 rfl dX4_readSum_29 ?_
          refine r_bipush C dX4_readSum_32 (by decide +kernel) ?_
          refine r_icmp_ne (tgt := 69) C h dX4_readSum_34 (by decide) (fun h => ?_) (fun h => ?_)
          · refine lv_iload_n C.1 C.2.1 dX4_readSum_69 rfl (lv_at hl 2 rfl) ?_
            obtain ⟨hg, h⟩ := gd_of h
            cases h
            exact hR _ _ _ _ dX4_readSum_70 (g_nzg hg) hp
          · exact hJ19  _ _ _ h hp (lv_sub hl [0, 1, 3] rfl)
set_option maxRecDepth 100000 in
set_option maxHeartbeats 4000000 in
theorem b_X4_readSum (C : g_CX xG V p R s m args meth c cX4_readSum 5 (some .boolean) RX4 nf nl) {res : Int × g_M} (hR : g_RetI xG V p l e R s m args below meth c Q cX4_readSum .boolean res.1 res.2) (rc : Nat → Int → g_M → Option (Int × g_M)) {nfr nlr : Nat} (hroom : nfr + 1 ≤ nf ∧ 24 + nlr ≤ nl ∧ 11 ≤ nf ∧ 365 ≤ nl) (hrc : x_RC V l rc nfr nlr) {a1 : Int} {M : g_M} {H : Heap} {locs : List Loc} {ls : Array Slot} (h : m_X4_readSum rc a1 M = some res) (hp : g_PT xG V M s H locs) (hl : lv_has ls 5 [(0, .ref (V.2.2 23)), (1, .int (gI a1))]) : W p l e R s m args below meth c H locs 0 0 Q (F0 m 0 ls []) := by
  unfold m_X4_readSum at h
  refine lv_aload_n C.1 C.2.1 dX4_readSum_0 rfl (lv_at hl 0 rfl) ?_
  refine lv_iload_n C.1 C.2.1 dX4_readSum_1 rfl (lv_at hl 1 rfl) ?_
  obtain ⟨x11, M12, hr, h⟩ := bW_of h
  refine r_callVI (As := [.int (gI a1)]) (rest := []) C hl.1 hp (x_RC_1 hrc hr) gw_688 gw_690 gw_11 xk_23 xs_23 xc_4 cal_X4_readProduct rfl rfl (Nat.le_of_ble_eq_true rfl) ⟨by omega, by omega⟩ dX4_readSum_2 (fun H locs hp => ?_)
  refine r_istore_n (lv' := fun x13 => [(2, .int (gI x13)), (0, .ref (V.2.2 23)), (1, .int (gI a1))]) C h dX4_readSum_5 rfl hl (by decide) (fun _ => rfl) (fun x13 ls h hl => ?_)
  refine r_iconst C dX4_readSum_6 ?_
  refine r_istore_n (lv' := fun x14 => [(3, .int (gI x14)), (2, .int (gI x13)), (0, .ref (V.2.2 23)), (1, .int (gI a1))]) C h dX4_readSum_7 rfl hl (by decide) (fun _ => rfl) (fun x14 ls h hl => ?_)
  refine w_X4_readSum_L8 C hR rc hroom hrc _ _ _ _ _ H locs ls h hp (lv_sub hl [2, 3, 1, 0] rfl)
set_option maxRecDepth 100000 in
set_option maxHeartbeats 4000000 in
theorem w_X4_readProduct_L8 (C : g_CX xG V p R s m args meth c cX4_readProduct 5 (some .boolean) RX4 nf nl) {res : Int × g_M} (hR : g_RetI xG V p l e R s m args below meth c Q cX4_readProduct .boolean res.1 res.2) (rc : Nat → Int → g_M → Option (Int × g_M)) {nfr nlr : Nat} (hroom : nfr + 1 ≤ nf ∧ 24 + nlr ≤ nl ∧ 11 ≤ nf ∧ 365 ≤ nl) (hrc : x_RC V l rc nfr nlr) (x15 : Int)   : ∀ (f : Nat) (x16 : Int) (x17 : Int) (M18 : g_M) (H : Heap) (locs : List Loc) (ls : Array Slot), m_X4_readProduct_L8 rc x15  f x16 x17 M18 = some res → g_PT xG V M18 s H locs → lv_has ls 5 [(0, .ref (V.2.2 23)), (1, .int (gI x15)), (2, .int (gI x16)), (3, .int (gI x17))] → W p l e R s m args below meth c H locs 0 0 Q (F0 m 8 ls []) := by
  intro f
  induction f with
  | zero => intro x16 x17 M18 H locs ls h hp hl; cases h
  | succ f ih =>
    intro x16 x17 M18 H locs ls h hp hl
    rw [m_X4_readProduct_L8] at h
    refine lv_iload_n C.1 C.2.1 dX4_readProduct_8 rfl (lv_at hl 3 rfl) ?_
    refine r_sipush C dX4_readProduct_9 (by decide +kernel) ?_
    refine r_icmp_ge (tgt := 65) C h dX4_readProduct_12 (by decide) (fun h => ?_) (fun h => ?_)
    · refine lv_iload_n C.1 C.2.1 dX4_readProduct_65 rfl (lv_at hl 2 rfl) ?_
      obtain ⟨hg, h⟩ := gd_of h
      cases h
      exact hR _ _ _ _ dX4_readProduct_66 (g_nzg hg) hp
    · refine lv_iload_n C.1 C.2.1 dX4_readProduct_15 rfl (lv_at hl 2 rfl) ?_
      refine r_if_eq (tgt := 65) C h dX4_readProduct_16 (by decide) (fun h => ?_) (fun h => ?_)
      · refine lv_iload_n C.1 C.2.1 dX4_readProduct_65 rfl (lv_at hl 2 rfl) ?_
        obtain ⟨hg, h⟩ := gd_of h
        cases h
        exact hR _ _ _ _ dX4_readProduct_66 (g_nzg hg) hp
      · refine lv_aload_n C.1 C.2.1 dX4_readProduct_19 rfl (lv_at hl 0 rfl) ?_
        refine r_geti (t := 0) C hp xk_23 xs_23 xc_4 xin_4 (j := 7) (by decide) rfl gw_291 rfl dX4_readProduct_20 ?_
        refine r_bipush C dX4_readProduct_23 (by decide +kernel) ?_
        refine r_bipush C dX4_readProduct_25 (by decide +kernel) ?_
        obtain ⟨x19, hr, h⟩ := bd_of h
        refine r_callNI (As := [.int (gI (M18 23 7)), .int (gI 56), .int (gI 58)]) (rest := []) C hl.1 hp (c_X8_within l C.2.2.2.2.2.2.2.2.2.2.2 hr) (x_nest C (i := 0) rfl) gw_464 cal_X8_within rfl rfl (Nat.le_of_ble_eq_true rfl) ⟨by omega, by omega⟩ dX4_readProduct_27 (fun H locs hp => ?_)
        refine r_if_eq (tgt := 65) C h dX4_readProduct_30 (by decide) (fun h => ?_) (fun h => ?_)
        · refine lv_iload_n C.1 C.2.1 dX4_readProduct_65 rfl (lv_at hl 2 rfl) ?_
          obtain ⟨hg, h⟩ := gd_of h
          cases h
          exact hR _ _ _ _ dX4_readProduct_66 (g_nzg hg) hp
        · refine lv_aload_n C.1 C.2.1 dX4_readProduct_33 rfl (lv_at hl 0 rfl) ?_
          refine r_geti (t := 0) C hp xk_23 xs_23 xc_4 xin_4 (j := 7) (by decide) rfl gw_291 rfl dX4_readProduct_34 ?_
          refine r_istore (lv' := fun x20 => [(4, .int (gI x20)), (0, .ref (V.2.2 23)), (1, .int (gI x15)), (2, .int (gI x16)), (3, .int (gI x17))]) C h dX4_readProduct_37 hl (by decide) (fun _ => rfl) (fun x20 ls h hl => ?_)
          refine lv_aload_n C.1 C.2.1 dX4_readProduct_39 rfl (lv_at hl 1 rfl) ?_
          obtain ⟨M21, hr, h⟩ := bd_of h
          refine r_callVV (As := []) (rest := []) C hl.1 hp (c_X4_advance l C.2.2.2.2.2.2.2.2.2.2.2 hr) gw_519 gw_521 gw_1 xk_23 xs_23 xc_4 cal_X4_advance rfl rfl (Nat.le_of_ble_eq_true rfl) ⟨by omega, by omega⟩ dX4_readProduct_40 (fun H locs hp => ?_)
          refine lv_aload_n C.1 C.2.1 dX4_readProduct_43 rfl (lv_at hl 1 rfl) ?_
          refine lv_iload_n C.1 C.2.1 dX4_readProduct_44 rfl (lv_at hl 2 rfl) ?_
          obtain ⟨x22, M23, hr, h⟩ := bW_of h
          refine r_callVI (As := [.int (gI x15)]) (rest := []) C hl.1 hp (x_RC_2 hrc hr) gw_692 gw_694 gw_12 xk_23 xs_23 xc_4 cal_X4_readOne rfl rfl (Nat.le_of_ble_eq_true rfl) ⟨by omega, by omega⟩ dX4_readProduct_45 (fun H locs hp => ?_)
          refine r_istore_n (lv' := fun x24 => [(2, .int (gI x24)), (4, .int (gI x20)), (0, .ref (V.2.2 23)), (1, .int (gI x15)), (3, .int (gI x17))]) C h dX4_readProduct_48 rfl hl (by decide) (fun _ => rfl) (fun x24 ls h hl => ?_)
          refine lv_aload_n C.1 C.2.1 dX4_readProduct_49 rfl (lv_at hl 2 rfl) ?_
          refine r_getr (t := 25) C hp xk_23 xs_23 xc_4 xin_4 (j := 0) (by decide) rfl gw_280 rfl dX4_readProduct_50 ?_
          refine lv_iload C.1 C.2.1 dX4_readProduct_53 (lv_at hl 1 rfl) ?_
          refine r_iconst C dX4_readProduct_55 ?_
          obtain ⟨M25, hr, h⟩ := bd_of h
          refine r_callVV (As := [.int (gI x20), .int (gI 0)]) (rest := []) C hl.1 hp (c_X7_put l C.2.2.2.2.2.2.2.2.2.2.2 xT_25 hr) gw_700 gw_701 gw_702 xk_25 xs_25 xc_7 cal_X7_put rfl rfl (Nat.le_of_ble_eq_true rfl) ⟨by omega, by omega⟩ dX4_readProduct_56 (fun H locs hp => ?_)
          refine r_iinc (lv' := fun x26 => [(3, .int (gI x26)), (2, .int (gI x24)), (4, .int (gI x20)), (0, .ref (V.2.2 23)), (1, .int (gI x15))]) C h dX4_readProduct_59 hl (j := 4) rfl (by decide) (fun _ => rfl) (fun x26 ls h hl => ?_)
          refine r_goto (tgt := 8) C dX4_readProduct_62 (by decide) ?_
          exact ih _ _ _ _ _ _ h hp (lv_sub hl [3, 4, 1, 0] rfl)
set_option maxRecDepth 100000 in
set_option maxHeartbeats 4000000 in
theorem b_X4_readProduct (C : g_CX xG V p R s m args meth c cX4_readProduct 5 (some .boolean) RX4 nf nl) {res : Int × g_M} (hR : g_RetI xG V p l e R s m args below meth c Q cX4_readProduct .boolean res.1 res.2) (rc : Nat → Int → g_M → Option (Int × g_M)) {nfr nlr : Nat} (hroom : nfr + 1 ≤ nf ∧ 24 + nlr ≤ nl ∧ 11 ≤ nf ∧ 365 ≤ nl) (hrc : x_RC V l rc nfr nlr) {a1 : Int} {M : g_M} {H : Heap} {locs : List Loc} {ls : Array Slot} (h : m_X4_readProduct rc a1 M = some res) (hp : g_PT xG V M s H locs) (hl : lv_has ls 5 [(0, .ref (V.2.2 23)), (1, .int (gI a1))]) : W p l e R s m args below meth c H locs 0 0 Q (F0 m 0 ls []) := by
  unfold m_X4_readProduct at h
  refine lv_aload_n C.1 C.2.1 dX4_readProduct_0 rfl (lv_at hl 0 rfl) ?_
  refine lv_iload_n C.1 C.2.1 dX4_readProduct_1 rfl (lv_at hl 1 rfl) ?_
  obtain ⟨x11, M12, hr, h⟩ := bW_of h
  refine r_callVI (As := [.int (gI a1)]) (rest := []) C hl.1 hp (x_RC_2 hrc hr) gw_692 gw_694 gw_12 xk_23 xs_23 xc_4 cal_X4_readOne rfl rfl (Nat.le_of_ble_eq_true rfl) ⟨by omega, by omega⟩ dX4_readProduct_2 (fun H locs hp => ?_)
  refine r_istore_n (lv' := fun x13 => [(2, .int (gI x13)), (0, .ref (V.2.2 23)), (1, .int (gI a1))]) C h dX4_readProduct_5 rfl hl (by decide) (fun _ => rfl) (fun x13 ls h hl => ?_)
  refine r_iconst C dX4_readProduct_6 ?_
  refine r_istore_n (lv' := fun x14 => [(3, .int (gI x14)), (2, .int (gI x13)), (0, .ref (V.2.2 23)), (1, .int (gI a1))]) C h dX4_readProduct_7 rfl hl (by decide) (fun _ => rfl) (fun x14 ls h hl => ?_)
  refine w_X4_readProduct_L8 C hR rc hroom hrc _ _ _ _ _ H locs ls h hp (lv_sub hl [2, 3, 1, 0] rfl)
set_option maxRecDepth 100000 in
set_option maxHeartbeats 4000000 in
theorem b_X4_readName (C : g_CX xG V p R s m args meth c cX4_readName 2 (some .boolean) RX4 10 344) {res : Int × g_M} (hR : g_RetI xG V p l e R s m args below meth c Q cX4_readName .boolean res.1 res.2)  {M : g_M} {H : Heap} {locs : List Loc} {ls : Array Slot} (h : m_X4_readName M = some res) (hp : g_PT xG V M s H locs) (hl : lv_has ls 2 [(0, .ref (V.2.2 23))]) : W p l e R s m args below meth c H locs 0 0 Q (F0 m 0 ls []) := by
  unfold m_X4_readName at h
  refine lv_aload_n C.1 C.2.1 dX4_readName_0 rfl (lv_at hl 0 rfl) ?_
  refine r_geti (t := 0) C hp xk_23 xs_23 xc_4 xin_4 (j := 7) (by decide) rfl gw_291 rfl dX4_readName_1 ?_
  refine r_bipush C dX4_readName_4 (by decide +kernel) ?_
  refine r_isub C dX4_readName_6 ?_
  refine r_istore_n (lv' := fun x11 => [(1, .int (gI x11)), (0, .ref (V.2.2 23))]) C h dX4_readName_7 rfl hl (by decide) (fun _ => rfl) (fun x11 ls h hl => ?_)
  obtain ⟨tS, hT, k⟩ := x_names C hp dX4_readName_8; refine k ?_
  refine lv_iload_n C.1 C.2.1 dX4_readName_11 rfl (lv_at hl 0 rfl) ?_
  refine r_tld C hp hT h dX4_readName_12 (fun h => ?_)
  refine lv_aload_n C.1 C.2.1 dX4_readName_13 rfl (lv_at hl 1 rfl) ?_
  refine r_geti (t := 0) C hp xk_23 xs_23 xc_4 xin_4 (j := 9) (by decide) rfl gw_293 rfl dX4_readName_14 ?_
  refine r_ishr C dX4_readName_17 ?_
  refine r_iconst C dX4_readName_18 ?_
  refine r_iand C dX4_readName_19 ?_
  refine r_if_ne (tgt := 29) C h dX4_readName_20 (by decide) (fun h => ?_) (fun h => ?_)
  · refine lv_aload_n C.1 C.2.1 dX4_readName_29 rfl (lv_at hl 1 rfl) ?_
    refine r_getr (t := 25) C hp xk_23 xs_23 xc_4 xin_4 (j := 0) (by decide) rfl gw_280 rfl dX4_readName_30 ?_
    refine lv_aload_n C.1 C.2.1 dX4_readName_33 rfl (lv_at hl 1 rfl) ?_
    refine r_geti (t := 0) C hp xk_23 xs_23 xc_4 xin_4 (j := 7) (by decide) rfl gw_291 rfl dX4_readName_34 ?_
    refine r_iconst C dX4_readName_37 ?_
    obtain ⟨M12, hr, h⟩ := bd_of h
    refine r_callVV (As := [.int (gI (M 23 7)), .int (gI 0)]) (rest := []) C hl.1 hp (c_X7_put l C.2.2.2.2.2.2.2.2.2.2.2 xT_25 hr) gw_700 gw_701 gw_702 xk_25 xs_25 xc_7 cal_X7_put rfl rfl (Nat.le_of_ble_eq_true rfl) ⟨Nat.le_of_ble_eq_true rfl, Nat.le_of_ble_eq_true rfl⟩ dX4_readName_38 (fun H locs hp => ?_)
    refine lv_aload_n C.1 C.2.1 dX4_readName_41 rfl (lv_at hl 1 rfl) ?_
    obtain ⟨M13, hr, h⟩ := bd_of h
    refine r_callVV (As := []) (rest := []) C hl.1 hp (c_X4_advance l C.2.2.2.2.2.2.2.2.2.2.2 hr) gw_519 gw_521 gw_1 xk_23 xs_23 xc_4 cal_X4_advance rfl rfl (Nat.le_of_ble_eq_true rfl) ⟨Nat.le_of_ble_eq_true rfl, Nat.le_of_ble_eq_true rfl⟩ dX4_readName_42 (fun H locs hp => ?_)
    refine r_iconst C dX4_readName_45 ?_
    cases h
    exact hR _ _ _ _ dX4_readName_46 g_nz1 hp
  · refine lv_aload_n C.1 C.2.1 dX4_readName_23 rfl (lv_at hl 1 rfl) ?_
    refine r_iconst C dX4_readName_24 ?_
    obtain ⟨x14, M15, hr, h⟩ := bW_of h
    refine r_callVI (As := [.int (gI 5)]) (rest := []) C hl.1 hp (c_X4_wrong l C.2.2.2.2.2.2.2.2.2.2.2 hr) gw_656 gw_658 gw_6 xk_23 xs_23 xc_4 cal_X4_wrong rfl rfl (Nat.le_of_ble_eq_true rfl) ⟨Nat.le_of_ble_eq_true rfl, Nat.le_of_ble_eq_true rfl⟩ dX4_readName_25 (fun H locs hp => ?_)
    obtain ⟨hg, h⟩ := gd_of h
    cases h
    exact hR _ _ _ _ dX4_readName_28 (g_nzg hg) hp
theorem c_X4_readName (l : Launch) {V : g_V} (hok : g_ok xG V)  {M : g_M} {x : Int} {M2 : g_M} (h : m_X4_readName M = some (x, M2)) : MetI xG V l yX4_readName cX4_readName 2 (some .boolean) 10 344 [.ref (V.2.2 23)] M x M2 :=
  g_metI hok cal_X4_readName.2.2.2 rfl (Nat.le_of_ble_eq_true rfl) (@fun p e R s m args below meth c Q ls C hR hp hl => b_X4_readName C hR h hp hl)
set_option maxRecDepth 100000 in
set_option maxHeartbeats 4000000 in
theorem b_X4_readConstant (C : g_CX xG V p R s m args meth c cX4_readConstant 1 (some .boolean) RX4 10 344) {res : Int × g_M} (hR : g_RetI xG V p l e R s m args below meth c Q cX4_readConstant .boolean res.1 res.2)  {M : g_M} {H : Heap} {locs : List Loc} {ls : Array Slot} (h : m_X4_readConstant M = some res) (hp : g_PT xG V M s H locs) (hl : lv_has ls 1 [(0, .ref (V.2.2 23))]) : W p l e R s m args below meth c H locs 0 0 Q (F0 m 0 ls []) := by
  unfold m_X4_readConstant at h
  refine lv_aload_n C.1 C.2.1 dX4_readConstant_0 rfl (lv_at hl 0 rfl) ?_
  refine r_geti (t := 0) C hp xk_23 xs_23 xc_4 xin_4 (j := 8) (by decide) rfl gw_292 rfl dX4_readConstant_1 ?_
  refine r_sipush C dX4_readConstant_4 (by decide +kernel) ?_
  refine r_icmp_le (tgt := 16) C h dX4_readConstant_7 (by decide) (fun h => ?_) (fun h => ?_)
  · refine lv_aload_n C.1 C.2.1 dX4_readConstant_16 rfl (lv_at hl 0 rfl) ?_
    refine r_getr (t := 25) C hp xk_23 xs_23 xc_4 xin_4 (j := 0) (by decide) rfl gw_280 rfl dX4_readConstant_17 ?_
    refine r_bipush C dX4_readConstant_20 (by decide +kernel) ?_
    refine lv_aload_n C.1 C.2.1 dX4_readConstant_22 rfl (lv_at hl 0 rfl) ?_
    refine r_geti (t := 0) C hp xk_23 xs_23 xc_4 xin_4 (j := 8) (by decide) rfl gw_292 rfl dX4_readConstant_23 ?_
    obtain ⟨M11, hr, h⟩ := bd_of h
    refine r_callVV (As := [.int (gI 40), .int (gI (M 23 8))]) (rest := []) C hl.1 hp (c_X7_put l C.2.2.2.2.2.2.2.2.2.2.2 xT_25 hr) gw_700 gw_701 gw_702 xk_25 xs_25 xc_7 cal_X7_put rfl rfl (Nat.le_of_ble_eq_true rfl) ⟨Nat.le_of_ble_eq_true rfl, Nat.le_of_ble_eq_true rfl⟩ dX4_readConstant_26 (fun H locs hp => ?_)
    refine lv_aload_n C.1 C.2.1 dX4_readConstant_29 rfl (lv_at hl 0 rfl) ?_
    obtain ⟨M12, hr, h⟩ := bd_of h
    refine r_callVV (As := []) (rest := []) C hl.1 hp (c_X4_advance l C.2.2.2.2.2.2.2.2.2.2.2 hr) gw_519 gw_521 gw_1 xk_23 xs_23 xc_4 cal_X4_advance rfl rfl (Nat.le_of_ble_eq_true rfl) ⟨Nat.le_of_ble_eq_true rfl, Nat.le_of_ble_eq_true rfl⟩ dX4_readConstant_30 (fun H locs hp => ?_)
    refine r_iconst C dX4_readConstant_33 ?_
    cases h
    exact hR _ _ _ _ dX4_readConstant_34 g_nz1 hp
  · refine lv_aload_n C.1 C.2.1 dX4_readConstant_10 rfl (lv_at hl 0 rfl) ?_
    refine r_iconst C dX4_readConstant_11 ?_
    obtain ⟨x13, M14, hr, h⟩ := bW_of h
    refine r_callVI (As := [.int (gI 2)]) (rest := []) C hl.1 hp (c_X4_wrong l C.2.2.2.2.2.2.2.2.2.2.2 hr) gw_656 gw_658 gw_6 xk_23 xs_23 xc_4 cal_X4_wrong rfl rfl (Nat.le_of_ble_eq_true rfl) ⟨Nat.le_of_ble_eq_true rfl, Nat.le_of_ble_eq_true rfl⟩ dX4_readConstant_12 (fun H locs hp => ?_)
    obtain ⟨hg, h⟩ := gd_of h
    cases h
    exact hR _ _ _ _ dX4_readConstant_15 (g_nzg hg) hp
theorem c_X4_readConstant (l : Launch) {V : g_V} (hok : g_ok xG V)  {M : g_M} {x : Int} {M2 : g_M} (h : m_X4_readConstant M = some (x, M2)) : MetI xG V l yX4_readConstant cX4_readConstant 1 (some .boolean) 10 344 [.ref (V.2.2 23)] M x M2 :=
  g_metI hok cal_X4_readConstant.2.2.2 rfl (Nat.le_of_ble_eq_true rfl) (@fun p e R s m args below meth c Q ls C hR hp hl => b_X4_readConstant C hR h hp hl)
set_option maxRecDepth 100000 in
set_option maxHeartbeats 4000000 in
theorem b_X4_readOne (C : g_CX xG V p R s m args meth c cX4_readOne 4 (some .boolean) RX4 nf nl) {res : Int × g_M} (hR : g_RetI xG V p l e R s m args below meth c Q cX4_readOne .boolean res.1 res.2) (rc : Nat → Int → g_M → Option (Int × g_M)) {nfr nlr : Nat} (hroom : nfr + 1 ≤ nf ∧ 24 + nlr ≤ nl ∧ 11 ≤ nf ∧ 365 ≤ nl) (hrc : x_RC V l rc nfr nlr) {a1 : Int} {M : g_M} {H : Heap} {locs : List Loc} {ls : Array Slot} (h : m_X4_readOne rc a1 M = some res) (hp : g_PT xG V M s H locs) (hl : lv_has ls 4 [(0, .ref (V.2.2 23)), (1, .int (gI a1))]) : W p l e R s m args below meth c H locs 0 0 Q (F0 m 0 ls []) := by
  unfold m_X4_readOne at h
  refine lv_aload_n C.1 C.2.1 dX4_readOne_0 rfl (lv_at hl 0 rfl) ?_
  refine r_geti (t := 0) C hp xk_23 xs_23 xc_4 xin_4 (j := 7) (by decide) rfl gw_291 rfl dX4_readOne_1 ?_
  refine r_bipush C dX4_readOne_4 (by decide +kernel) ?_
  refine r_icmp_ne (tgt := 14) C h dX4_readOne_6 (by decide) (fun h => ?_) (fun h => ?_)
  · refine lv_aload_n C.1 C.2.1 dX4_readOne_14 rfl (lv_at hl 0 rfl) ?_
    refine r_geti (t := 0) C hp xk_23 xs_23 xc_4 xin_4 (j := 7) (by decide) rfl gw_291 rfl dX4_readOne_15 ?_
    refine r_bipush C dX4_readOne_18 (by decide +kernel) ?_
    refine r_bipush C dX4_readOne_20 (by decide +kernel) ?_
    obtain ⟨x11, hr, h⟩ := bd_of h
    refine r_callNI (As := [.int (gI (M 23 7)), .int (gI 21), .int (gI 32)]) (rest := []) C hl.1 hp (c_X8_within l C.2.2.2.2.2.2.2.2.2.2.2 hr) (x_nest C (i := 0) rfl) gw_464 cal_X8_within rfl rfl (Nat.le_of_ble_eq_true rfl) ⟨by omega, by omega⟩ dX4_readOne_22 (fun H locs hp => ?_)
    refine r_if_eq (tgt := 33) C h dX4_readOne_25 (by decide) (fun h => ?_) (fun h => ?_)
    · refine r_jn (P := fun J => ∀ (x16 : Int) (H : Heap) (locs : List Loc) (ls : Array Slot), J x16 = some res → g_PT xG V M s H locs → lv_has ls 4 [(0, .ref (V.2.2 23)), (1, .int (gI a1)), (2, .int (gI x16))] → W p l e R s m args below meth c H locs 0 0 Q (F0 m 68 ls [])) h ?_ (fun J12 hJ12 h => ?_)
      · intro x16 H locs ls h hp hl
        refine lv_iload_n C.1 C.2.1 dX4_readOne_68 rfl (lv_at hl 1 rfl) ?_
        refine r_bipush C dX4_readOne_69 (by decide +kernel) ?_
        refine r_icmp_lt (tgt := 80) C h dX4_readOne_71 (by decide) (fun h => ?_) (fun h => ?_)
        · refine lv_aload_n C.1 C.2.1 dX4_readOne_80 rfl (lv_at hl 0 rfl) ?_
          obtain ⟨M17, hr, h⟩ := bd_of h
          refine r_callVV (As := []) (rest := []) C hl.1 hp (c_X4_advance l C.2.2.2.2.2.2.2.2.2.2.2 hr) gw_519 gw_521 gw_1 xk_23 xs_23 xc_4 cal_X4_advance rfl rfl (Nat.le_of_ble_eq_true rfl) ⟨by omega, by omega⟩ dX4_readOne_81 (fun H locs hp => ?_)
          refine lv_iload_n C.1 C.2.1 dX4_readOne_84 rfl (lv_at hl 2 rfl) ?_
          refine r_bipush C dX4_readOne_85 (by decide +kernel) ?_
          refine r_icmp_ne (tgt := 115) C h dX4_readOne_87 (by decide) (fun h => ?_) (fun h => ?_)
          · refine lv_iload_n C.1 C.2.1 dX4_readOne_115 rfl (lv_at hl 2 rfl) ?_
            refine r_bipush C dX4_readOne_116 (by decide +kernel) ?_
            refine r_icmp_ne (tgt := 129) C h dX4_readOne_118 (by decide) (fun h => ?_) (fun h => ?_)
            · refine r_jn (P := fun J => ∀ (x22 : Int) (x23 : Int) (M24 : g_M) (H : Heap) (locs : List Loc) (ls : Array Slot), J x22 x23 M24 = some res → g_PT xG V M24 s H locs → lv_has ls 4 [(3, .int (gI x22))] → W p l e R s m args below meth c H locs 0 0 Q (F0 m 154 ls [.int (gI x23), .ref (V.2.2 25)])) h ?_ (fun J18 hJ18 h => ?_)
              · intro x22 x23 M24 H locs ls h hp hl
                refine r_iconst C dX4_readOne_154 ?_
                obtain ⟨M25, hr, h⟩ := bd_of h
                refine r_callVV (As := [.int (gI x23), .int (gI 0)]) (rest := []) C hl.1 hp (c_X7_put l C.2.2.2.2.2.2.2.2.2.2.2 xT_25 hr) gw_700 gw_701 gw_702 xk_25 xs_25 xc_7 cal_X7_put rfl rfl (Nat.le_of_ble_eq_true rfl) ⟨by omega, by omega⟩ dX4_readOne_155 (fun H locs hp => ?_)
                refine lv_iload_n C.1 C.2.1 dX4_readOne_158 rfl (lv_at hl 0 rfl) ?_
                obtain ⟨hg, h⟩ := gd_of h
                cases h
                exact hR _ _ _ _ dX4_readOne_159 (g_nzg hg) hp
              refine lv_aload_n C.1 C.2.1 dX4_readOne_129 rfl (lv_at hl 0 rfl) ?_
              refine lv_iload_n C.1 C.2.1 dX4_readOne_130 rfl (lv_at hl 1 rfl) ?_
              refine r_iconst C dX4_readOne_131 ?_
              refine r_iadd C dX4_readOne_132 ?_
              obtain ⟨x19, M20, hr, h⟩ := bW_of h
              refine r_callVI (As := [.int (gI (a1 + 1))]) (rest := []) C hl.1 hp (x_RC_2 hrc hr) gw_692 gw_694 gw_12 xk_23 xs_23 xc_4 cal_X4_readOne rfl rfl (Nat.le_of_ble_eq_true rfl) ⟨by omega, by omega⟩ dX4_readOne_133 (fun H locs hp => ?_)
              refine r_istore_n (lv' := fun x21 => [(3, .int (gI x21)), (0, .ref (V.2.2 23)), (1, .int (gI a1)), (2, .int (gI x16))]) C h dX4_readOne_136 rfl hl (by decide) (fun _ => rfl) (fun x21 ls h hl => ?_)
              refine lv_aload_n C.1 C.2.1 dX4_readOne_137 rfl (lv_at hl 1 rfl) ?_
              refine r_getr (t := 25) C hp xk_23 xs_23 xc_4 xin_4 (j := 0) (by decide) rfl gw_280 rfl dX4_readOne_138 ?_
              refine lv_iload_n C.1 C.2.1 dX4_readOne_141 rfl (lv_at hl 3 rfl) ?_
              refine r_bipush C dX4_readOne_142 (by decide +kernel) ?_
              refine r_icmp_ne (tgt := 152) C h dX4_readOne_144 (by decide) (fun h => ?_) (fun h => ?_)
              · refine r_bipush C dX4_readOne_152 (by decide +kernel) ?_
                exact hJ18 _ _ _ _ _ _ h hp (lv_sub hl [0] rfl)
              · refine r_bipush C dX4_readOne_147 (by decide +kernel) ?_
                refine r_goto (tgt := 154) C dX4_readOne_149 (by decide) ?_
                exact hJ18 _ _ _ _ _ _ h hp (lv_sub hl [0] rfl)
            · refine lv_aload_n C.1 C.2.1 dX4_readOne_121 rfl (lv_at hl 0 rfl) ?_
              refine lv_iload_n C.1 C.2.1 dX4_readOne_122 rfl (lv_at hl 1 rfl) ?_
              refine r_iconst C dX4_readOne_123 ?_
              refine r_iadd C dX4_readOne_124 ?_
              obtain ⟨x26, M27, hr, h⟩ := bW_of h
              refine r_callVI (As := [.int (gI (a1 + 1))]) (rest := []) C hl.1 hp (x_RC_3 hrc hr) gw_710 gw_712 gw_15 xk_23 xs_23 xc_4 cal_X4_readIf rfl rfl (Nat.le_of_ble_eq_true rfl) ⟨by omega, by omega⟩ dX4_readOne_125 (fun H locs hp => ?_)
              obtain ⟨hg, h⟩ := gd_of h
              cases h
              exact hR _ _ _ _ dX4_readOne_128 (g_nzg hg) hp
          · refine r_jn (P := fun J => ∀ (M33 : g_M) (H : Heap) (locs : List Loc) (ls : Array Slot), J M33 = some res → g_PT xG V M33 s H locs → lv_has ls 4 [] → W p l e R s m args below meth c H locs 0 0 Q (F0 m 113 ls [])) h ?_ (fun J28 hJ28 h => ?_)
            · intro M33 H locs ls h hp hl
              refine r_iconst C dX4_readOne_113 ?_
              cases h
              exact hR _ _ _ _ dX4_readOne_114 g_nz0 hp
            refine lv_aload_n C.1 C.2.1 dX4_readOne_90 rfl (lv_at hl 0 rfl) ?_
            refine lv_iload_n C.1 C.2.1 dX4_readOne_91 rfl (lv_at hl 1 rfl) ?_
            refine r_iconst C dX4_readOne_92 ?_
            refine r_iadd C dX4_readOne_93 ?_
            obtain ⟨x29, M30, hr, h⟩ := bW_of h
            refine r_callVI (As := [.int (gI (a1 + 1))]) (rest := []) C hl.1 hp (x_RC_0 hrc hr) gw_684 gw_686 gw_10 xk_23 xs_23 xc_4 cal_X4_readSum rfl rfl (Nat.le_of_ble_eq_true rfl) ⟨by omega, by omega⟩ dX4_readOne_94 (fun H locs hp => ?_)
            refine r_if_eq (tgt := 113) C h dX4_readOne_97 (by decide) (fun h => ?_) (fun h => ?_)
            · exact hJ28 _ _ _ _ h hp (lv_sub hl [] rfl)
            · refine lv_aload_n C.1 C.2.1 dX4_readOne_100 rfl (lv_at hl 0 rfl) ?_
              refine r_bipush C dX4_readOne_101 (by decide +kernel) ?_
              obtain ⟨x31, M32, hr, h⟩ := bW_of h
              refine r_callVI (As := [.int (gI 60)]) (rest := []) C hl.1 hp (c_X4_pass l C.2.2.2.2.2.2.2.2.2.2.2 hr) gw_680 gw_682 gw_9 xk_23 xs_23 xc_4 cal_X4_pass rfl rfl (Nat.le_of_ble_eq_true rfl) ⟨by omega, by omega⟩ dX4_readOne_103 (fun H locs hp => ?_)
              refine r_if_eq (tgt := 113) C h dX4_readOne_106 (by decide) (fun h => ?_) (fun h => ?_)
              · exact hJ28 _ _ _ _ h hp (lv_sub hl [] rfl)
              · refine r_iconst C dX4_readOne_109 ?_
                refine r_goto (tgt := 114) C dX4_readOne_110 (by decide) ?_
                cases h
                exact hR _ _ _ _ dX4_readOne_114 g_nz1 hp
        · refine lv_aload_n C.1 C.2.1 dX4_readOne_74 rfl (lv_at hl 0 rfl) ?_
          refine r_iconst C dX4_readOne_75 ?_
          obtain ⟨x34, M35, hr, h⟩ := bW_of h
          refine r_callVI (As := [.int (gI 3)]) (rest := []) C hl.1 hp (c_X4_wrong l C.2.2.2.2.2.2.2.2.2.2.2 hr) gw_656 gw_658 gw_6 xk_23 xs_23 xc_4 cal_X4_wrong rfl rfl (Nat.le_of_ble_eq_true rfl) ⟨by omega, by omega⟩ dX4_readOne_76 (fun H locs hp => ?_)
          obtain ⟨hg, h⟩ := gd_of h
          cases h
          exact hR _ _ _ _ dX4_readOne_79 (g_nzg hg) hp
      refine lv_aload_n C.1 C.2.1 dX4_readOne_33 rfl (lv_at hl 0 rfl) ?_
      refine r_geti (t := 0) C hp xk_23 xs_23 xc_4 xin_4 (j := 7) (by decide) rfl gw_291 rfl dX4_readOne_34 ?_
      refine r_istore_n (lv' := fun x13 => [(2, .int (gI x13)), (0, .ref (V.2.2 23)), (1, .int (gI a1))]) C h dX4_readOne_37 rfl hl (by decide) (fun _ => rfl) (fun x13 ls h hl => ?_)
      refine lv_iload_n C.1 C.2.1 dX4_readOne_38 rfl (lv_at hl 0 rfl) ?_
      refine r_bipush C dX4_readOne_39 (by decide +kernel) ?_
      refine r_icmp_eq (tgt := 68) C h dX4_readOne_41 (by decide) (fun h => ?_) (fun h => ?_)
      · exact hJ12 _ _ _ _ h hp (lv_sub hl [1, 2, 0] rfl)
      · refine lv_iload_n C.1 C.2.1 dX4_readOne_44 rfl (lv_at hl 0 rfl) ?_
        refine r_bipush C dX4_readOne_45 (by decide +kernel) ?_
        refine r_icmp_eq (tgt := 68) C h dX4_readOne_47 (by decide) (fun h => ?_) (fun h => ?_)
        · exact hJ12 _ _ _ _ h hp (lv_sub hl [1, 2, 0] rfl)
        · refine lv_iload_n C.1 C.2.1 dX4_readOne_50 rfl (lv_at hl 0 rfl) ?_
          refine r_bipush C dX4_readOne_51 (by decide +kernel) ?_
          refine r_icmp_eq (tgt := 68) C h dX4_readOne_53 (by decide) (fun h => ?_) (fun h => ?_)
          · exact hJ12 _ _ _ _ h hp (lv_sub hl [1, 2, 0] rfl)
          · refine lv_iload_n C.1 C.2.1 dX4_readOne_56 rfl (lv_at hl 0 rfl) ?_
            refine r_bipush C dX4_readOne_57 (by decide +kernel) ?_
            refine r_icmp_eq (tgt := 68) C h dX4_readOne_59 (by decide) (fun h => ?_) (fun h => ?_)
            · exact hJ12 _ _ _ _ h hp (lv_sub hl [1, 2, 0] rfl)
            · refine lv_aload_n C.1 C.2.1 dX4_readOne_62 rfl (lv_at hl 1 rfl) ?_
              refine r_iconst C dX4_readOne_63 ?_
              obtain ⟨x14, M15, hr, h⟩ := bW_of h
              refine r_callVI (As := [.int (gI 1)]) (rest := []) C hl.1 hp (c_X4_wrong l C.2.2.2.2.2.2.2.2.2.2.2 hr) gw_656 gw_658 gw_6 xk_23 xs_23 xc_4 cal_X4_wrong rfl rfl (Nat.le_of_ble_eq_true rfl) ⟨by omega, by omega⟩ dX4_readOne_64 (fun H locs hp => ?_)
              obtain ⟨hg, h⟩ := gd_of h
              cases h
              exact hR _ _ _ _ dX4_readOne_67 (g_nzg hg) hp
    · refine lv_aload_n C.1 C.2.1 dX4_readOne_28 rfl (lv_at hl 0 rfl) ?_
      obtain ⟨x36, M37, hr, h⟩ := bW_of h
      refine r_callVI (As := []) (rest := []) C hl.1 hp (c_X4_readName l C.2.2.2.2.2.2.2.2.2.2.2 hr) gw_704 gw_706 gw_14 xk_23 xs_23 xc_4 cal_X4_readName rfl rfl (Nat.le_of_ble_eq_true rfl) ⟨by omega, by omega⟩ dX4_readOne_29 (fun H locs hp => ?_)
      obtain ⟨hg, h⟩ := gd_of h
      cases h
      exact hR _ _ _ _ dX4_readOne_32 (g_nzg hg) hp
  · refine lv_aload_n C.1 C.2.1 dX4_readOne_9 rfl (lv_at hl 0 rfl) ?_
    obtain ⟨x38, M39, hr, h⟩ := bW_of h
    refine r_callVI (As := []) (rest := []) C hl.1 hp (c_X4_readConstant l C.2.2.2.2.2.2.2.2.2.2.2 hr) gw_696 gw_698 gw_13 xk_23 xs_23 xc_4 cal_X4_readConstant rfl rfl (Nat.le_of_ble_eq_true rfl) ⟨by omega, by omega⟩ dX4_readOne_10 (fun H locs hp => ?_)
    obtain ⟨hg, h⟩ := gd_of h
    cases h
    exact hR _ _ _ _ dX4_readOne_13 (g_nzg hg) hp
set_option maxRecDepth 100000 in
set_option maxHeartbeats 4000000 in
theorem b_X4_readIf (C : g_CX xG V p R s m args meth c cX4_readIf 4 (some .boolean) RX4 nf nl) {res : Int × g_M} (hR : g_RetI xG V p l e R s m args below meth c Q cX4_readIf .boolean res.1 res.2) (rc : Nat → Int → g_M → Option (Int × g_M)) {nfr nlr : Nat} (hroom : nfr + 1 ≤ nf ∧ 24 + nlr ≤ nl ∧ 11 ≤ nf ∧ 365 ≤ nl) (hrc : x_RC V l rc nfr nlr) {a1 : Int} {M : g_M} {H : Heap} {locs : List Loc} {ls : Array Slot} (h : m_X4_readIf rc a1 M = some res) (hp : g_PT xG V M s H locs) (hl : lv_has ls 4 [(0, .ref (V.2.2 23)), (1, .int (gI a1))]) : W p l e R s m args below meth c H locs 0 0 Q (F0 m 0 ls []) := by
  unfold m_X4_readIf at h
  refine lv_aload_n C.1 C.2.1 dX4_readIf_0 rfl (lv_at hl 0 rfl) ?_
  refine lv_iload_n C.1 C.2.1 dX4_readIf_1 rfl (lv_at hl 1 rfl) ?_
  obtain ⟨x11, M12, hr, h⟩ := bW_of h
  refine r_callVI (As := [.int (gI a1)]) (rest := []) C hl.1 hp (x_RC_4 hrc hr) gw_714 gw_716 gw_16 xk_23 xs_23 xc_4 cal_X4_readEither rfl rfl (Nat.le_of_ble_eq_true rfl) ⟨by omega, by omega⟩ dX4_readIf_2 (fun H locs hp => ?_)
  refine r_if_eq (tgt := 17) C h dX4_readIf_5 (by decide) (fun h => ?_) (fun h => ?_)
  · refine r_iconst C dX4_readIf_17 ?_
    cases h
    exact hR _ _ _ _ dX4_readIf_18 g_nz0 hp
  · refine lv_aload_n C.1 C.2.1 dX4_readIf_8 rfl (lv_at hl 0 rfl) ?_
    refine r_bipush C dX4_readIf_9 (by decide +kernel) ?_
    obtain ⟨x13, M14, hr, h⟩ := bW_of h
    refine r_callVI (As := [.int (gI 15)]) (rest := []) C hl.1 hp (c_X4_pass l C.2.2.2.2.2.2.2.2.2.2.2 hr) gw_680 gw_682 gw_9 xk_23 xs_23 xc_4 cal_X4_pass rfl rfl (Nat.le_of_ble_eq_true rfl) ⟨by omega, by omega⟩ dX4_readIf_11 (fun H locs hp => ?_)
    refine r_if_ne (tgt := 19) C h dX4_readIf_14 (by decide) (fun h => ?_) (fun h => ?_)
    · refine lv_aload_n C.1 C.2.1 dX4_readIf_19 rfl (lv_at hl 0 rfl) ?_
      refine r_getr (t := 25) C hp xk_23 xs_23 xc_4 xin_4 (j := 0) (by decide) rfl gw_280 rfl dX4_readIf_20 ?_
      refine r_geti (t := 0) C hp xk_25 xs_25 xc_7 xin_7 (j := 1) (by decide) rfl gw_249 rfl dX4_readIf_23 ?_
      refine r_istore_n (lv' := fun x15 => [(2, .int (gI x15)), (0, .ref (V.2.2 23)), (1, .int (gI a1))]) C h dX4_readIf_26 rfl hl (by decide) (fun _ => rfl) (fun x15 ls h hl => ?_)
      refine lv_aload_n C.1 C.2.1 dX4_readIf_27 rfl (lv_at hl 1 rfl) ?_
      refine r_getr (t := 25) C hp xk_23 xs_23 xc_4 xin_4 (j := 0) (by decide) rfl gw_280 rfl dX4_readIf_28 ?_
      refine r_bipush C dX4_readIf_31 (by decide +kernel) ?_
      refine r_iconst C dX4_readIf_33 ?_
      obtain ⟨M16, hr, h⟩ := bd_of h
      refine r_callVV (As := [.int (gI 72), .int (gI 0)]) (rest := []) C hl.1 hp (c_X7_put l C.2.2.2.2.2.2.2.2.2.2.2 xT_25 hr) gw_700 gw_701 gw_702 xk_25 xs_25 xc_7 cal_X7_put rfl rfl (Nat.le_of_ble_eq_true rfl) ⟨by omega, by omega⟩ dX4_readIf_34 (fun H locs hp => ?_)
      refine lv_aload_n C.1 C.2.1 dX4_readIf_37 rfl (lv_at hl 1 rfl) ?_
      refine lv_iload_n C.1 C.2.1 dX4_readIf_38 rfl (lv_at hl 2 rfl) ?_
      obtain ⟨x17, M18, hr, h⟩ := bW_of h
      refine r_callVI (As := [.int (gI a1)]) (rest := []) C hl.1 hp (x_RC_0 hrc hr) gw_684 gw_686 gw_10 xk_23 xs_23 xc_4 cal_X4_readSum rfl rfl (Nat.le_of_ble_eq_true rfl) ⟨by omega, by omega⟩ dX4_readIf_39 (fun H locs hp => ?_)
      refine r_if_eq (tgt := 54) C h dX4_readIf_42 (by decide) (fun h => ?_) (fun h => ?_)
      · refine r_iconst C dX4_readIf_54 ?_
        cases h
        exact hR _ _ _ _ dX4_readIf_55 g_nz0 hp
      · refine lv_aload_n C.1 C.2.1 dX4_readIf_45 rfl (lv_at hl 1 rfl) ?_
        refine r_bipush C dX4_readIf_46 (by decide +kernel) ?_
        obtain ⟨x19, M20, hr, h⟩ := bW_of h
        refine r_callVI (As := [.int (gI 16)]) (rest := []) C hl.1 hp (c_X4_pass l C.2.2.2.2.2.2.2.2.2.2.2 hr) gw_680 gw_682 gw_9 xk_23 xs_23 xc_4 cal_X4_pass rfl rfl (Nat.le_of_ble_eq_true rfl) ⟨by omega, by omega⟩ dX4_readIf_48 (fun H locs hp => ?_)
        refine r_if_ne (tgt := 56) C h dX4_readIf_51 (by decide) (fun h => ?_) (fun h => ?_)
        · refine lv_aload_n C.1 C.2.1 dX4_readIf_56 rfl (lv_at hl 1 rfl) ?_
          refine r_getr (t := 25) C hp xk_23 xs_23 xc_4 xin_4 (j := 0) (by decide) rfl gw_280 rfl dX4_readIf_57 ?_
          refine r_geti (t := 0) C hp xk_25 xs_25 xc_7 xin_7 (j := 1) (by decide) rfl gw_249 rfl dX4_readIf_60 ?_
          refine r_istore_n (lv' := fun x21 => [(3, .int (gI x21)), (2, .int (gI x15)), (0, .ref (V.2.2 23)), (1, .int (gI a1))]) C h dX4_readIf_63 rfl hl (by decide) (fun _ => rfl) (fun x21 ls h hl => ?_)
          refine lv_aload_n C.1 C.2.1 dX4_readIf_64 rfl (lv_at hl 2 rfl) ?_
          refine r_getr (t := 25) C hp xk_23 xs_23 xc_4 xin_4 (j := 0) (by decide) rfl gw_280 rfl dX4_readIf_65 ?_
          refine r_bipush C dX4_readIf_68 (by decide +kernel) ?_
          refine r_iconst C dX4_readIf_70 ?_
          obtain ⟨M22, hr, h⟩ := bd_of h
          refine r_callVV (As := [.int (gI 71), .int (gI 0)]) (rest := []) C hl.1 hp (c_X7_put l C.2.2.2.2.2.2.2.2.2.2.2 xT_25 hr) gw_700 gw_701 gw_702 xk_25 xs_25 xc_7 cal_X7_put rfl rfl (Nat.le_of_ble_eq_true rfl) ⟨by omega, by omega⟩ dX4_readIf_71 (fun H locs hp => ?_)
          refine lv_aload_n C.1 C.2.1 dX4_readIf_74 rfl (lv_at hl 2 rfl) ?_
          refine r_getr (t := 25) C hp xk_23 xs_23 xc_4 xin_4 (j := 0) (by decide) rfl gw_280 rfl dX4_readIf_75 ?_
          refine lv_iload_n C.1 C.2.1 dX4_readIf_78 rfl (lv_at hl 1 rfl) ?_
          obtain ⟨M23, hr, h⟩ := bd_of h
          refine r_callVV (As := [.int (gI x15)]) (rest := []) C hl.1 hp (c_X7_aimHere l C.2.2.2.2.2.2.2.2.2.2.2 xT_25 hr) gw_730 gw_731 gw_732 xk_25 xs_25 xc_7 cal_X7_aimHere rfl rfl (Nat.le_of_ble_eq_true rfl) ⟨by omega, by omega⟩ dX4_readIf_79 (fun H locs hp => ?_)
          refine lv_aload_n C.1 C.2.1 dX4_readIf_82 rfl (lv_at hl 2 rfl) ?_
          refine lv_iload_n C.1 C.2.1 dX4_readIf_83 rfl (lv_at hl 3 rfl) ?_
          obtain ⟨x24, M25, hr, h⟩ := bW_of h
          refine r_callVI (As := [.int (gI a1)]) (rest := []) C hl.1 hp (x_RC_0 hrc hr) gw_684 gw_686 gw_10 xk_23 xs_23 xc_4 cal_X4_readSum rfl rfl (Nat.le_of_ble_eq_true rfl) ⟨by omega, by omega⟩ dX4_readIf_84 (fun H locs hp => ?_)
          refine r_if_eq (tgt := 99) C h dX4_readIf_87 (by decide) (fun h => ?_) (fun h => ?_)
          · refine r_iconst C dX4_readIf_99 ?_
            cases h
            exact hR _ _ _ _ dX4_readIf_100 g_nz0 hp
          · refine lv_aload_n C.1 C.2.1 dX4_readIf_90 rfl (lv_at hl 2 rfl) ?_
            refine r_bipush C dX4_readIf_91 (by decide +kernel) ?_
            obtain ⟨x26, M27, hr, h⟩ := bW_of h
            refine r_callVI (As := [.int (gI 17)]) (rest := []) C hl.1 hp (c_X4_pass l C.2.2.2.2.2.2.2.2.2.2.2 hr) gw_680 gw_682 gw_9 xk_23 xs_23 xc_4 cal_X4_pass rfl rfl (Nat.le_of_ble_eq_true rfl) ⟨by omega, by omega⟩ dX4_readIf_93 (fun H locs hp => ?_)
            refine r_if_ne (tgt := 101) C h dX4_readIf_96 (by decide) (fun h => ?_) (fun h => ?_)
            · refine lv_aload_n C.1 C.2.1 dX4_readIf_101 rfl (lv_at hl 2 rfl) ?_
              refine r_getr (t := 25) C hp xk_23 xs_23 xc_4 xin_4 (j := 0) (by decide) rfl gw_280 rfl dX4_readIf_102 ?_
              refine lv_iload_n C.1 C.2.1 dX4_readIf_105 rfl (lv_at hl 0 rfl) ?_
              obtain ⟨M28, hr, h⟩ := bd_of h
              refine r_callVV (As := [.int (gI x21)]) (rest := []) C hl.1 hp (c_X7_aimHere l C.2.2.2.2.2.2.2.2.2.2.2 xT_25 hr) gw_730 gw_731 gw_732 xk_25 xs_25 xc_7 cal_X7_aimHere rfl rfl (Nat.le_of_ble_eq_true rfl) ⟨by omega, by omega⟩ dX4_readIf_106 (fun H locs hp => ?_)
              refine r_iconst C dX4_readIf_109 ?_
              cases h
              exact hR _ _ _ _ dX4_readIf_110 g_nz1 hp
            · refine r_iconst C dX4_readIf_99 ?_
              cases h
              exact hR _ _ _ _ dX4_readIf_100 g_nz0 hp
        · refine r_iconst C dX4_readIf_54 ?_
          cases h
          exact hR _ _ _ _ dX4_readIf_55 g_nz0 hp
    · refine r_iconst C dX4_readIf_17 ?_
      cases h
      exact hR _ _ _ _ dX4_readIf_18 g_nz0 hp
set_option maxRecDepth 100000 in
set_option maxHeartbeats 4000000 in
theorem w_X4_readEither_L8 (C : g_CX xG V p R s m args meth c cX4_readEither 4 (some .boolean) RX4 nf nl) {res : Int × g_M} (hR : g_RetI xG V p l e R s m args below meth c Q cX4_readEither .boolean res.1 res.2) (rc : Nat → Int → g_M → Option (Int × g_M)) {nfr nlr : Nat} (hroom : nfr + 1 ≤ nf ∧ 24 + nlr ≤ nl ∧ 11 ≤ nf ∧ 365 ≤ nl) (hrc : x_RC V l rc nfr nlr) (x15 : Int)   : ∀ (f : Nat) (x16 : Int) (x17 : Int) (M18 : g_M) (H : Heap) (locs : List Loc) (ls : Array Slot), m_X4_readEither_L8 rc x15  f x16 x17 M18 = some res → g_PT xG V M18 s H locs → lv_has ls 4 [(0, .ref (V.2.2 23)), (1, .int (gI x15)), (2, .int (gI x16)), (3, .int (gI x17))] → W p l e R s m args below meth c H locs 0 0 Q (F0 m 8 ls []) := by
  intro f
  induction f with
  | zero => intro x16 x17 M18 H locs ls h hp hl; cases h
  | succ f ih =>
    intro x16 x17 M18 H locs ls h hp hl
    rw [m_X4_readEither_L8] at h
    refine lv_iload_n C.1 C.2.1 dX4_readEither_8 rfl (lv_at hl 3 rfl) ?_
    refine r_sipush C dX4_readEither_9 (by decide +kernel) ?_
    refine r_icmp_ge (tgt := 54) C h dX4_readEither_12 (by decide) (fun h => ?_) (fun h => ?_)
    · refine lv_iload_n C.1 C.2.1 dX4_readEither_54 rfl (lv_at hl 2 rfl) ?_
      obtain ⟨hg, h⟩ := gd_of h
      cases h
      exact hR _ _ _ _ dX4_readEither_55 (g_nzg hg) hp
    · refine lv_iload_n C.1 C.2.1 dX4_readEither_15 rfl (lv_at hl 2 rfl) ?_
      refine r_if_eq (tgt := 54) C h dX4_readEither_16 (by decide) (fun h => ?_) (fun h => ?_)
      · refine lv_iload_n C.1 C.2.1 dX4_readEither_54 rfl (lv_at hl 2 rfl) ?_
        obtain ⟨hg, h⟩ := gd_of h
        cases h
        exact hR _ _ _ _ dX4_readEither_55 (g_nzg hg) hp
      · refine lv_aload_n C.1 C.2.1 dX4_readEither_19 rfl (lv_at hl 0 rfl) ?_
        refine r_geti (t := 0) C hp xk_23 xs_23 xc_4 xin_4 (j := 7) (by decide) rfl gw_291 rfl dX4_readEither_20 ?_
        refine r_bipush C dX4_readEither_23 (by decide +kernel) ?_
        refine r_icmp_ne (tgt := 54) C h dX4_readEither_25 (by decide) (fun h => ?_) (fun h => ?_)
        · refine lv_iload_n C.1 C.2.1 dX4_readEither_54 rfl (lv_at hl 2 rfl) ?_
          obtain ⟨hg, h⟩ := gd_of h
          cases h
          exact hR _ _ _ _ dX4_readEither_55 (g_nzg hg) hp
        · refine lv_aload_n C.1 C.2.1 dX4_readEither_28 rfl (lv_at hl 0 rfl) ?_
          obtain ⟨M19, hr, h⟩ := bd_of h
          refine r_callVV (As := []) (rest := []) C hl.1 hp (c_X4_advance l C.2.2.2.2.2.2.2.2.2.2.2 hr) gw_519 gw_521 gw_1 xk_23 xs_23 xc_4 cal_X4_advance rfl rfl (Nat.le_of_ble_eq_true rfl) ⟨by omega, by omega⟩ dX4_readEither_29 (fun H locs hp => ?_)
          refine lv_aload_n C.1 C.2.1 dX4_readEither_32 rfl (lv_at hl 0 rfl) ?_
          refine lv_iload_n C.1 C.2.1 dX4_readEither_33 rfl (lv_at hl 1 rfl) ?_
          obtain ⟨x20, M21, hr, h⟩ := bW_of h
          refine r_callVI (As := [.int (gI x15)]) (rest := []) C hl.1 hp (x_RC_5 hrc hr) gw_718 gw_720 gw_17 xk_23 xs_23 xc_4 cal_X4_readBoth rfl rfl (Nat.le_of_ble_eq_true rfl) ⟨by omega, by omega⟩ dX4_readEither_34 (fun H locs hp => ?_)
          refine r_istore_n (lv' := fun x22 => [(2, .int (gI x22)), (0, .ref (V.2.2 23)), (1, .int (gI x15)), (3, .int (gI x17))]) C h dX4_readEither_37 rfl hl (by decide) (fun _ => rfl) (fun x22 ls h hl => ?_)
          refine lv_aload_n C.1 C.2.1 dX4_readEither_38 rfl (lv_at hl 1 rfl) ?_
          refine r_getr (t := 25) C hp xk_23 xs_23 xc_4 xin_4 (j := 0) (by decide) rfl gw_280 rfl dX4_readEither_39 ?_
          refine r_bipush C dX4_readEither_42 (by decide +kernel) ?_
          refine r_iconst C dX4_readEither_44 ?_
          obtain ⟨M23, hr, h⟩ := bd_of h
          refine r_callVV (As := [.int (gI 20), .int (gI 0)]) (rest := []) C hl.1 hp (c_X7_put l C.2.2.2.2.2.2.2.2.2.2.2 xT_25 hr) gw_700 gw_701 gw_702 xk_25 xs_25 xc_7 cal_X7_put rfl rfl (Nat.le_of_ble_eq_true rfl) ⟨by omega, by omega⟩ dX4_readEither_45 (fun H locs hp => ?_)
          refine r_iinc (lv' := fun x24 => [(3, .int (gI x24)), (2, .int (gI x22)), (0, .ref (V.2.2 23)), (1, .int (gI x15))]) C h dX4_readEither_48 hl (j := 3) rfl (by decide) (fun _ => rfl) (fun x24 ls h hl => ?_)
          refine r_goto (tgt := 8) C dX4_readEither_51 (by decide) ?_
          exact ih _ _ _ _ _ _ h hp (lv_sub hl [2, 3, 1, 0] rfl)
set_option maxRecDepth 100000 in
set_option maxHeartbeats 4000000 in
theorem b_X4_readEither (C : g_CX xG V p R s m args meth c cX4_readEither 4 (some .boolean) RX4 nf nl) {res : Int × g_M} (hR : g_RetI xG V p l e R s m args below meth c Q cX4_readEither .boolean res.1 res.2) (rc : Nat → Int → g_M → Option (Int × g_M)) {nfr nlr : Nat} (hroom : nfr + 1 ≤ nf ∧ 24 + nlr ≤ nl ∧ 11 ≤ nf ∧ 365 ≤ nl) (hrc : x_RC V l rc nfr nlr) {a1 : Int} {M : g_M} {H : Heap} {locs : List Loc} {ls : Array Slot} (h : m_X4_readEither rc a1 M = some res) (hp : g_PT xG V M s H locs) (hl : lv_has ls 4 [(0, .ref (V.2.2 23)), (1, .int (gI a1))]) : W p l e R s m args below meth c H locs 0 0 Q (F0 m 0 ls []) := by
  unfold m_X4_readEither at h
  refine lv_aload_n C.1 C.2.1 dX4_readEither_0 rfl (lv_at hl 0 rfl) ?_
  refine lv_iload_n C.1 C.2.1 dX4_readEither_1 rfl (lv_at hl 1 rfl) ?_
  obtain ⟨x11, M12, hr, h⟩ := bW_of h
  refine r_callVI (As := [.int (gI a1)]) (rest := []) C hl.1 hp (x_RC_5 hrc hr) gw_718 gw_720 gw_17 xk_23 xs_23 xc_4 cal_X4_readBoth rfl rfl (Nat.le_of_ble_eq_true rfl) ⟨by omega, by omega⟩ dX4_readEither_2 (fun H locs hp => ?_)
  refine r_istore_n (lv' := fun x13 => [(2, .int (gI x13)), (0, .ref (V.2.2 23)), (1, .int (gI a1))]) C h dX4_readEither_5 rfl hl (by decide) (fun _ => rfl) (fun x13 ls h hl => ?_)
  refine r_iconst C dX4_readEither_6 ?_
  refine r_istore_n (lv' := fun x14 => [(3, .int (gI x14)), (2, .int (gI x13)), (0, .ref (V.2.2 23)), (1, .int (gI a1))]) C h dX4_readEither_7 rfl hl (by decide) (fun _ => rfl) (fun x14 ls h hl => ?_)
  refine w_X4_readEither_L8 C hR rc hroom hrc _ _ _ _ _ H locs ls h hp (lv_sub hl [2, 3, 1, 0] rfl)
set_option maxRecDepth 100000 in
set_option maxHeartbeats 4000000 in
theorem w_X4_readBoth_L8 (C : g_CX xG V p R s m args meth c cX4_readBoth 4 (some .boolean) RX4 nf nl) {res : Int × g_M} (hR : g_RetI xG V p l e R s m args below meth c Q cX4_readBoth .boolean res.1 res.2) (rc : Nat → Int → g_M → Option (Int × g_M)) {nfr nlr : Nat} (hroom : nfr + 1 ≤ nf ∧ 24 + nlr ≤ nl ∧ 11 ≤ nf ∧ 365 ≤ nl) (hrc : x_RC V l rc nfr nlr) (x15 : Int)   : ∀ (f : Nat) (x16 : Int) (x17 : Int) (M18 : g_M) (H : Heap) (locs : List Loc) (ls : Array Slot), m_X4_readBoth_L8 rc x15  f x16 x17 M18 = some res → g_PT xG V M18 s H locs → lv_has ls 4 [(0, .ref (V.2.2 23)), (1, .int (gI x15)), (2, .int (gI x16)), (3, .int (gI x17))] → W p l e R s m args below meth c H locs 0 0 Q (F0 m 8 ls []) := by
  intro f
  induction f with
  | zero => intro x16 x17 M18 H locs ls h hp hl; cases h
  | succ f ih =>
    intro x16 x17 M18 H locs ls h hp hl
    rw [m_X4_readBoth_L8] at h
    refine lv_iload_n C.1 C.2.1 dX4_readBoth_8 rfl (lv_at hl 3 rfl) ?_
    refine r_sipush C dX4_readBoth_9 (by decide +kernel) ?_
    refine r_icmp_ge (tgt := 54) C h dX4_readBoth_12 (by decide) (fun h => ?_) (fun h => ?_)
    · refine lv_iload_n C.1 C.2.1 dX4_readBoth_54 rfl (lv_at hl 2 rfl) ?_
      obtain ⟨hg, h⟩ := gd_of h
      cases h
      exact hR _ _ _ _ dX4_readBoth_55 (g_nzg hg) hp
    · refine lv_iload_n C.1 C.2.1 dX4_readBoth_15 rfl (lv_at hl 2 rfl) ?_
      refine r_if_eq (tgt := 54) C h dX4_readBoth_16 (by decide) (fun h => ?_) (fun h => ?_)
      · refine lv_iload_n C.1 C.2.1 dX4_readBoth_54 rfl (lv_at hl 2 rfl) ?_
        obtain ⟨hg, h⟩ := gd_of h
        cases h
        exact hR _ _ _ _ dX4_readBoth_55 (g_nzg hg) hp
      · refine lv_aload_n C.1 C.2.1 dX4_readBoth_19 rfl (lv_at hl 0 rfl) ?_
        refine r_geti (t := 0) C hp xk_23 xs_23 xc_4 xin_4 (j := 7) (by decide) rfl gw_291 rfl dX4_readBoth_20 ?_
        refine r_bipush C dX4_readBoth_23 (by decide +kernel) ?_
        refine r_icmp_ne (tgt := 54) C h dX4_readBoth_25 (by decide) (fun h => ?_) (fun h => ?_)
        · refine lv_iload_n C.1 C.2.1 dX4_readBoth_54 rfl (lv_at hl 2 rfl) ?_
          obtain ⟨hg, h⟩ := gd_of h
          cases h
          exact hR _ _ _ _ dX4_readBoth_55 (g_nzg hg) hp
        · refine lv_aload_n C.1 C.2.1 dX4_readBoth_28 rfl (lv_at hl 0 rfl) ?_
          obtain ⟨M19, hr, h⟩ := bd_of h
          refine r_callVV (As := []) (rest := []) C hl.1 hp (c_X4_advance l C.2.2.2.2.2.2.2.2.2.2.2 hr) gw_519 gw_521 gw_1 xk_23 xs_23 xc_4 cal_X4_advance rfl rfl (Nat.le_of_ble_eq_true rfl) ⟨by omega, by omega⟩ dX4_readBoth_29 (fun H locs hp => ?_)
          refine lv_aload_n C.1 C.2.1 dX4_readBoth_32 rfl (lv_at hl 0 rfl) ?_
          refine lv_iload_n C.1 C.2.1 dX4_readBoth_33 rfl (lv_at hl 1 rfl) ?_
          obtain ⟨x20, M21, hr, h⟩ := bW_of h
          refine r_callVI (As := [.int (gI x15)]) (rest := []) C hl.1 hp (x_RC_6 hrc hr) gw_722 gw_724 gw_18 xk_23 xs_23 xc_4 cal_X4_readAsk rfl rfl (Nat.le_of_ble_eq_true rfl) ⟨by omega, by omega⟩ dX4_readBoth_34 (fun H locs hp => ?_)
          refine r_istore_n (lv' := fun x22 => [(2, .int (gI x22)), (0, .ref (V.2.2 23)), (1, .int (gI x15)), (3, .int (gI x17))]) C h dX4_readBoth_37 rfl hl (by decide) (fun _ => rfl) (fun x22 ls h hl => ?_)
          refine lv_aload_n C.1 C.2.1 dX4_readBoth_38 rfl (lv_at hl 1 rfl) ?_
          refine r_getr (t := 25) C hp xk_23 xs_23 xc_4 xin_4 (j := 0) (by decide) rfl gw_280 rfl dX4_readBoth_39 ?_
          refine r_bipush C dX4_readBoth_42 (by decide +kernel) ?_
          refine r_iconst C dX4_readBoth_44 ?_
          obtain ⟨M23, hr, h⟩ := bd_of h
          refine r_callVV (As := [.int (gI 19), .int (gI 0)]) (rest := []) C hl.1 hp (c_X7_put l C.2.2.2.2.2.2.2.2.2.2.2 xT_25 hr) gw_700 gw_701 gw_702 xk_25 xs_25 xc_7 cal_X7_put rfl rfl (Nat.le_of_ble_eq_true rfl) ⟨by omega, by omega⟩ dX4_readBoth_45 (fun H locs hp => ?_)
          refine r_iinc (lv' := fun x24 => [(3, .int (gI x24)), (2, .int (gI x22)), (0, .ref (V.2.2 23)), (1, .int (gI x15))]) C h dX4_readBoth_48 hl (j := 3) rfl (by decide) (fun _ => rfl) (fun x24 ls h hl => ?_)
          refine r_goto (tgt := 8) C dX4_readBoth_51 (by decide) ?_
          exact ih _ _ _ _ _ _ h hp (lv_sub hl [2, 3, 1, 0] rfl)
set_option maxRecDepth 100000 in
set_option maxHeartbeats 4000000 in
theorem b_X4_readBoth (C : g_CX xG V p R s m args meth c cX4_readBoth 4 (some .boolean) RX4 nf nl) {res : Int × g_M} (hR : g_RetI xG V p l e R s m args below meth c Q cX4_readBoth .boolean res.1 res.2) (rc : Nat → Int → g_M → Option (Int × g_M)) {nfr nlr : Nat} (hroom : nfr + 1 ≤ nf ∧ 24 + nlr ≤ nl ∧ 11 ≤ nf ∧ 365 ≤ nl) (hrc : x_RC V l rc nfr nlr) {a1 : Int} {M : g_M} {H : Heap} {locs : List Loc} {ls : Array Slot} (h : m_X4_readBoth rc a1 M = some res) (hp : g_PT xG V M s H locs) (hl : lv_has ls 4 [(0, .ref (V.2.2 23)), (1, .int (gI a1))]) : W p l e R s m args below meth c H locs 0 0 Q (F0 m 0 ls []) := by
  unfold m_X4_readBoth at h
  refine lv_aload_n C.1 C.2.1 dX4_readBoth_0 rfl (lv_at hl 0 rfl) ?_
  refine lv_iload_n C.1 C.2.1 dX4_readBoth_1 rfl (lv_at hl 1 rfl) ?_
  obtain ⟨x11, M12, hr, h⟩ := bW_of h
  refine r_callVI (As := [.int (gI a1)]) (rest := []) C hl.1 hp (x_RC_6 hrc hr) gw_722 gw_724 gw_18 xk_23 xs_23 xc_4 cal_X4_readAsk rfl rfl (Nat.le_of_ble_eq_true rfl) ⟨by omega, by omega⟩ dX4_readBoth_2 (fun H locs hp => ?_)
  refine r_istore_n (lv' := fun x13 => [(2, .int (gI x13)), (0, .ref (V.2.2 23)), (1, .int (gI a1))]) C h dX4_readBoth_5 rfl hl (by decide) (fun _ => rfl) (fun x13 ls h hl => ?_)
  refine r_iconst C dX4_readBoth_6 ?_
  refine r_istore_n (lv' := fun x14 => [(3, .int (gI x14)), (2, .int (gI x13)), (0, .ref (V.2.2 23)), (1, .int (gI a1))]) C h dX4_readBoth_7 rfl hl (by decide) (fun _ => rfl) (fun x14 ls h hl => ?_)
  refine w_X4_readBoth_L8 C hR rc hroom hrc _ _ _ _ _ H locs ls h hp (lv_sub hl [2, 3, 1, 0] rfl)
set_option maxRecDepth 100000 in
set_option maxHeartbeats 4000000 in
theorem b_X4_readAsk (C : g_CX xG V p R s m args meth c cX4_readAsk 4 (some .boolean) RX4 nf nl) {res : Int × g_M} (hR : g_RetI xG V p l e R s m args below meth c Q cX4_readAsk .boolean res.1 res.2) (rc : Nat → Int → g_M → Option (Int × g_M)) {nfr nlr : Nat} (hroom : nfr + 1 ≤ nf ∧ 24 + nlr ≤ nl ∧ 11 ≤ nf ∧ 365 ≤ nl) (hrc : x_RC V l rc nfr nlr) {a1 : Int} {M : g_M} {H : Heap} {locs : List Loc} {ls : Array Slot} (h : m_X4_readAsk rc a1 M = some res) (hp : g_PT xG V M s H locs) (hl : lv_has ls 4 [(0, .ref (V.2.2 23)), (1, .int (gI a1))]) : W p l e R s m args below meth c H locs 0 0 Q (F0 m 0 ls []) := by
  unfold m_X4_readAsk at h
  refine lv_aload_n C.1 C.2.1 dX4_readAsk_0 rfl (lv_at hl 0 rfl) ?_
  refine r_geti (t := 0) C hp xk_23 xs_23 xc_4 xin_4 (j := 7) (by decide) rfl gw_291 rfl dX4_readAsk_1 ?_
  refine r_bipush C dX4_readAsk_4 (by decide +kernel) ?_
  refine r_icmp_ne (tgt := 15) C h dX4_readAsk_6 (by decide) (fun h => ?_) (fun h => ?_)
  · refine lv_aload_n C.1 C.2.1 dX4_readAsk_15 rfl (lv_at hl 0 rfl) ?_
    refine lv_iload_n C.1 C.2.1 dX4_readAsk_16 rfl (lv_at hl 1 rfl) ?_
    obtain ⟨x11, M12, hr, h⟩ := bW_of h
    refine r_callVI (As := [.int (gI a1)]) (rest := []) C hl.1 hp (x_RC_0 hrc hr) gw_684 gw_686 gw_10 xk_23 xs_23 xc_4 cal_X4_readSum rfl rfl (Nat.le_of_ble_eq_true rfl) ⟨by omega, by omega⟩ dX4_readAsk_17 (fun H locs hp => ?_)
    refine r_if_ne (tgt := 25) C h dX4_readAsk_20 (by decide) (fun h => ?_) (fun h => ?_)
    · refine r_jn (P := fun J => ∀ (x18 : Int) (H : Heap) (locs : List Loc) (ls : Array Slot), J x18 = some res → g_PT xG V M12 s H locs → lv_has ls 4 [(0, .ref (V.2.2 23)), (1, .int (gI a1)), (2, .int (gI x18))] → W p l e R s m args below meth c H locs 0 0 Q (F0 m 59 ls [])) h ?_ (fun J13 hJ13 h => ?_)
      · intro x18 H locs ls h hp hl
        refine lv_aload_n C.1 C.2.1 dX4_readAsk_59 rfl (lv_at hl 0 rfl) ?_
        obtain ⟨M19, hr, h⟩ := bd_of h
        refine r_callVV (As := []) (rest := []) C hl.1 hp (c_X4_advance l C.2.2.2.2.2.2.2.2.2.2.2 hr) gw_519 gw_521 gw_1 xk_23 xs_23 xc_4 cal_X4_advance rfl rfl (Nat.le_of_ble_eq_true rfl) ⟨by omega, by omega⟩ dX4_readAsk_60 (fun H locs hp => ?_)
        refine lv_aload_n C.1 C.2.1 dX4_readAsk_63 rfl (lv_at hl 0 rfl) ?_
        refine lv_iload_n C.1 C.2.1 dX4_readAsk_64 rfl (lv_at hl 1 rfl) ?_
        obtain ⟨x20, M21, hr, h⟩ := bW_of h
        refine r_callVI (As := [.int (gI a1)]) (rest := []) C hl.1 hp (x_RC_0 hrc hr) gw_684 gw_686 gw_10 xk_23 xs_23 xc_4 cal_X4_readSum rfl rfl (Nat.le_of_ble_eq_true rfl) ⟨by omega, by omega⟩ dX4_readAsk_65 (fun H locs hp => ?_)
        refine r_istore_n (lv' := fun x22 => [(3, .int (gI x22)), (0, .ref (V.2.2 23)), (1, .int (gI a1)), (2, .int (gI x18))]) C h dX4_readAsk_68 rfl hl (by decide) (fun _ => rfl) (fun x22 ls h hl => ?_)
        refine lv_aload_n C.1 C.2.1 dX4_readAsk_69 rfl (lv_at hl 1 rfl) ?_
        refine r_getr (t := 25) C hp xk_23 xs_23 xc_4 xin_4 (j := 0) (by decide) rfl gw_280 rfl dX4_readAsk_70 ?_
        refine lv_iload_n C.1 C.2.1 dX4_readAsk_73 rfl (lv_at hl 3 rfl) ?_
        refine r_iconst C dX4_readAsk_74 ?_
        obtain ⟨M23, hr, h⟩ := bd_of h
        refine r_callVV (As := [.int (gI x18), .int (gI 0)]) (rest := []) C hl.1 hp (c_X7_put l C.2.2.2.2.2.2.2.2.2.2.2 xT_25 hr) gw_700 gw_701 gw_702 xk_25 xs_25 xc_7 cal_X7_put rfl rfl (Nat.le_of_ble_eq_true rfl) ⟨by omega, by omega⟩ dX4_readAsk_75 (fun H locs hp => ?_)
        refine lv_iload_n C.1 C.2.1 dX4_readAsk_78 rfl (lv_at hl 0 rfl) ?_
        obtain ⟨hg, h⟩ := gd_of h
        cases h
        exact hR _ _ _ _ dX4_readAsk_79 (g_nzg hg) hp
      refine lv_aload_n C.1 C.2.1 dX4_readAsk_25 rfl (lv_at hl 0 rfl) ?_
      refine r_geti (t := 0) C hp xk_23 xs_23 xc_4 xin_4 (j := 7) (by decide) rfl gw_291 rfl dX4_readAsk_26 ?_
      refine r_istore_n (lv' := fun x14 => [(2, .int (gI x14)), (0, .ref (V.2.2 23)), (1, .int (gI a1))]) C h dX4_readAsk_29 rfl hl (by decide) (fun _ => rfl) (fun x14 ls h hl => ?_)
      refine lv_iload_n C.1 C.2.1 dX4_readAsk_30 rfl (lv_at hl 0 rfl) ?_
      refine r_bipush C dX4_readAsk_31 (by decide +kernel) ?_
      refine r_bipush C dX4_readAsk_33 (by decide +kernel) ?_
      obtain ⟨x15, hr, h⟩ := bd_of h
      refine r_callNI (As := [.int (gI x14), .int (gI 50), .int (gI 53)]) (rest := []) C hl.1 hp (c_X8_within l C.2.2.2.2.2.2.2.2.2.2.2 hr) (x_nest C (i := 0) rfl) gw_464 cal_X8_within rfl rfl (Nat.le_of_ble_eq_true rfl) ⟨by omega, by omega⟩ dX4_readAsk_35 (fun H locs hp => ?_)
      refine r_if_ne (tgt := 59) C h dX4_readAsk_38 (by decide) (fun h => ?_) (fun h => ?_)
      · exact hJ13 _ _ _ _ h hp (lv_sub hl [1, 2, 0] rfl)
      · refine lv_iload_n C.1 C.2.1 dX4_readAsk_41 rfl (lv_at hl 0 rfl) ?_
        refine r_bipush C dX4_readAsk_42 (by decide +kernel) ?_
        refine r_icmp_eq (tgt := 59) C h dX4_readAsk_44 (by decide) (fun h => ?_) (fun h => ?_)
        · exact hJ13 _ _ _ _ h hp (lv_sub hl [1, 2, 0] rfl)
        · refine lv_iload_n C.1 C.2.1 dX4_readAsk_47 rfl (lv_at hl 0 rfl) ?_
          refine r_bipush C dX4_readAsk_48 (by decide +kernel) ?_
          refine r_icmp_eq (tgt := 59) C h dX4_readAsk_50 (by decide) (fun h => ?_) (fun h => ?_)
          · exact hJ13 _ _ _ _ h hp (lv_sub hl [1, 2, 0] rfl)
          · refine lv_aload_n C.1 C.2.1 dX4_readAsk_53 rfl (lv_at hl 1 rfl) ?_
            refine r_iconst C dX4_readAsk_54 ?_
            obtain ⟨x16, M17, hr, h⟩ := bW_of h
            refine r_callVI (As := [.int (gI 1)]) (rest := []) C hl.1 hp (c_X4_wrong l C.2.2.2.2.2.2.2.2.2.2.2 hr) gw_656 gw_658 gw_6 xk_23 xs_23 xc_4 cal_X4_wrong rfl rfl (Nat.le_of_ble_eq_true rfl) ⟨by omega, by omega⟩ dX4_readAsk_55 (fun H locs hp => ?_)
            obtain ⟨hg, h⟩ := gd_of h
            cases h
            exact hR _ _ _ _ dX4_readAsk_58 (g_nzg hg) hp
    · refine r_iconst C dX4_readAsk_23 ?_
      cases h
      exact hR _ _ _ _ dX4_readAsk_24 g_nz0 hp
  · refine lv_aload_n C.1 C.2.1 dX4_readAsk_9 rfl (lv_at hl 0 rfl) ?_
    refine lv_iload_n C.1 C.2.1 dX4_readAsk_10 rfl (lv_at hl 1 rfl) ?_
    obtain ⟨x24, M25, hr, h⟩ := bW_of h
    refine r_callVI (As := [.int (gI a1)]) (rest := []) C hl.1 hp (x_RC_7 hrc hr) gw_726 gw_728 gw_19 xk_23 xs_23 xc_4 cal_X4_readNot rfl rfl (Nat.le_of_ble_eq_true rfl) ⟨by omega, by omega⟩ dX4_readAsk_11 (fun H locs hp => ?_)
    obtain ⟨hg, h⟩ := gd_of h
    cases h
    exact hR _ _ _ _ dX4_readAsk_14 (g_nzg hg) hp
set_option maxRecDepth 100000 in
set_option maxHeartbeats 4000000 in
theorem b_X4_readNot (C : g_CX xG V p R s m args meth c cX4_readNot 3 (some .boolean) RX4 nf nl) {res : Int × g_M} (hR : g_RetI xG V p l e R s m args below meth c Q cX4_readNot .boolean res.1 res.2) (rc : Nat → Int → g_M → Option (Int × g_M)) {nfr nlr : Nat} (hroom : nfr + 1 ≤ nf ∧ 24 + nlr ≤ nl ∧ 11 ≤ nf ∧ 365 ≤ nl) (hrc : x_RC V l rc nfr nlr) {a1 : Int} {M : g_M} {H : Heap} {locs : List Loc} {ls : Array Slot} (h : m_X4_readNot rc a1 M = some res) (hp : g_PT xG V M s H locs) (hl : lv_has ls 3 [(0, .ref (V.2.2 23)), (1, .int (gI a1))]) : W p l e R s m args below meth c H locs 0 0 Q (F0 m 0 ls []) := by
  unfold m_X4_readNot at h
  refine lv_iload_n C.1 C.2.1 dX4_readNot_0 rfl (lv_at hl 1 rfl) ?_
  refine r_bipush C dX4_readNot_1 (by decide +kernel) ?_
  refine r_icmp_lt (tgt := 12) C h dX4_readNot_3 (by decide) (fun h => ?_) (fun h => ?_)
  · refine lv_aload_n C.1 C.2.1 dX4_readNot_12 rfl (lv_at hl 0 rfl) ?_
    obtain ⟨M11, hr, h⟩ := bd_of h
    refine r_callVV (As := []) (rest := []) C hl.1 hp (c_X4_advance l C.2.2.2.2.2.2.2.2.2.2.2 hr) gw_519 gw_521 gw_1 xk_23 xs_23 xc_4 cal_X4_advance rfl rfl (Nat.le_of_ble_eq_true rfl) ⟨by omega, by omega⟩ dX4_readNot_13 (fun H locs hp => ?_)
    refine lv_aload_n C.1 C.2.1 dX4_readNot_16 rfl (lv_at hl 0 rfl) ?_
    refine lv_iload_n C.1 C.2.1 dX4_readNot_17 rfl (lv_at hl 1 rfl) ?_
    refine r_iconst C dX4_readNot_18 ?_
    refine r_iadd C dX4_readNot_19 ?_
    obtain ⟨x12, M13, hr, h⟩ := bW_of h
    refine r_callVI (As := [.int (gI (a1 + 1))]) (rest := []) C hl.1 hp (x_RC_6 hrc hr) gw_722 gw_724 gw_18 xk_23 xs_23 xc_4 cal_X4_readAsk rfl rfl (Nat.le_of_ble_eq_true rfl) ⟨by omega, by omega⟩ dX4_readNot_20 (fun H locs hp => ?_)
    refine r_istore_n (lv' := fun x14 => [(2, .int (gI x14)), (0, .ref (V.2.2 23)), (1, .int (gI a1))]) C h dX4_readNot_23 rfl hl (by decide) (fun _ => rfl) (fun x14 ls h hl => ?_)
    refine lv_aload_n C.1 C.2.1 dX4_readNot_24 rfl (lv_at hl 1 rfl) ?_
    refine r_getr (t := 25) C hp xk_23 xs_23 xc_4 xin_4 (j := 0) (by decide) rfl gw_280 rfl dX4_readNot_25 ?_
    refine r_bipush C dX4_readNot_28 (by decide +kernel) ?_
    refine r_iconst C dX4_readNot_30 ?_
    obtain ⟨M15, hr, h⟩ := bd_of h
    refine r_callVV (As := [.int (gI 18), .int (gI 0)]) (rest := []) C hl.1 hp (c_X7_put l C.2.2.2.2.2.2.2.2.2.2.2 xT_25 hr) gw_700 gw_701 gw_702 xk_25 xs_25 xc_7 cal_X7_put rfl rfl (Nat.le_of_ble_eq_true rfl) ⟨by omega, by omega⟩ dX4_readNot_31 (fun H locs hp => ?_)
    refine lv_iload_n C.1 C.2.1 dX4_readNot_34 rfl (lv_at hl 0 rfl) ?_
    obtain ⟨hg, h⟩ := gd_of h
    cases h
    exact hR _ _ _ _ dX4_readNot_35 (g_nzg hg) hp
  · refine lv_aload_n C.1 C.2.1 dX4_readNot_6 rfl (lv_at hl 0 rfl) ?_
    refine r_iconst C dX4_readNot_7 ?_
    obtain ⟨x16, M17, hr, h⟩ := bW_of h
    refine r_callVI (As := [.int (gI 3)]) (rest := []) C hl.1 hp (c_X4_wrong l C.2.2.2.2.2.2.2.2.2.2.2 hr) gw_656 gw_658 gw_6 xk_23 xs_23 xc_4 cal_X4_wrong rfl rfl (Nat.le_of_ble_eq_true rfl) ⟨by omega, by omega⟩ dX4_readNot_8 (fun H locs hp => ?_)
    obtain ⟨hg, h⟩ := gd_of h
    cases h
    exact hR _ _ _ _ dX4_readNot_11 (g_nzg hg) hp
end
theorem c_rd (l : Launch) {V : g_V} (hok : g_ok xG V) : ∀ f : Nat, x_RC V l (m_rd f) (11 + f) (365 + 24 * f) := by
  intro f
  induction f with
  | zero =>
    intro d M M2 x
    refine ⟨fun h => ?_, fun h => ?_, fun h => ?_, fun h => ?_, fun h => ?_, fun h => ?_, fun h => ?_, fun h => ?_⟩ <;> cases h
  | succ f ih =>
    intro d M M2 x
    refine ⟨fun h => ?_, fun h => ?_, fun h => ?_, fun h => ?_, fun h => ?_, fun h => ?_, fun h => ?_, fun h => ?_⟩
    · exact g_metI hok cal_X4_readSum.2.2.2 rfl (Nat.le_of_ble_eq_true rfl) (@fun p e R s m args below meth c Q ls C hR hp hl => b_X4_readSum C hR (m_rd f) (nfr := 11 + f) (nlr := 365 + 24 * f) ⟨by omega, by omega, by omega, by omega⟩ ih h hp hl)
    · exact g_metI hok cal_X4_readProduct.2.2.2 rfl (Nat.le_of_ble_eq_true rfl) (@fun p e R s m args below meth c Q ls C hR hp hl => b_X4_readProduct C hR (m_rd f) (nfr := 11 + f) (nlr := 365 + 24 * f) ⟨by omega, by omega, by omega, by omega⟩ ih h hp hl)
    · exact g_metI hok cal_X4_readOne.2.2.2 rfl (Nat.le_of_ble_eq_true rfl) (@fun p e R s m args below meth c Q ls C hR hp hl => b_X4_readOne C hR (m_rd f) (nfr := 11 + f) (nlr := 365 + 24 * f) ⟨by omega, by omega, by omega, by omega⟩ ih h hp hl)
    · exact g_metI hok cal_X4_readIf.2.2.2 rfl (Nat.le_of_ble_eq_true rfl) (@fun p e R s m args below meth c Q ls C hR hp hl => b_X4_readIf C hR (m_rd f) (nfr := 11 + f) (nlr := 365 + 24 * f) ⟨by omega, by omega, by omega, by omega⟩ ih h hp hl)
    · exact g_metI hok cal_X4_readEither.2.2.2 rfl (Nat.le_of_ble_eq_true rfl) (@fun p e R s m args below meth c Q ls C hR hp hl => b_X4_readEither C hR (m_rd f) (nfr := 11 + f) (nlr := 365 + 24 * f) ⟨by omega, by omega, by omega, by omega⟩ ih h hp hl)
    · exact g_metI hok cal_X4_readBoth.2.2.2 rfl (Nat.le_of_ble_eq_true rfl) (@fun p e R s m args below meth c Q ls C hR hp hl => b_X4_readBoth C hR (m_rd f) (nfr := 11 + f) (nlr := 365 + 24 * f) ⟨by omega, by omega, by omega, by omega⟩ ih h hp hl)
    · exact g_metI hok cal_X4_readAsk.2.2.2 rfl (Nat.le_of_ble_eq_true rfl) (@fun p e R s m args below meth c Q ls C hR hp hl => b_X4_readAsk C hR (m_rd f) (nfr := 11 + f) (nlr := 365 + 24 * f) ⟨by omega, by omega, by omega, by omega⟩ ih h hp hl)
    · exact g_metI hok cal_X4_readNot.2.2.2 rfl (Nat.le_of_ble_eq_true rfl) (@fun p e R s m args below meth c Q ls C hR hp hl => b_X4_readNot C hR (m_rd f) (nfr := 11 + f) (nlr := 365 + 24 * f) ⟨by omega, by omega, by omega, by omega⟩ ih h hp hl)
