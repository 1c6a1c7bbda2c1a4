theorem dX4_take_0 : decode cX4_take 0 = .ok (.bipush 24, 2) := by decide +kernel
theorem dX4_take_2 : decode cX4_take 2 = .ok (.istore_n 2, 1) := by decide +kernel
theorem dX4_take_3 : decode cX4_take 3 = .ok (.iload_n 2, 1) := by decide +kernel
theorem dX4_take_4 : decode cX4_take 4 = .ok (.ifCond .lt 45, 3) := by decide +kernel
theorem dX4_take_7 : decode cX4_take 7 = .ok (.aload_n 0, 1) := by decide +kernel
theorem dX4_take_8 : decode cX4_take 8 = .ok (.getfield 29, 3) := by decide +kernel
theorem dX4_take_11 : decode cX4_take 11 = .ok (.sipush 300, 3) := by decide +kernel
theorem dX4_take_14 : decode cX4_take 14 = .ok (.if_icmp .ge 35, 3) := by decide +kernel
theorem dX4_take_17 : decode cX4_take 17 = .ok (.aload_n 0, 1) := by decide +kernel
theorem dX4_take_18 : decode cX4_take 18 = .ok (.getfield 18, 3) := by decide +kernel
theorem dX4_take_21 : decode cX4_take 21 = .ok (.aload_n 0, 1) := by decide +kernel
theorem dX4_take_22 : decode cX4_take 22 = .ok (.getfield 29, 3) := by decide +kernel
theorem dX4_take_25 : decode cX4_take 25 = .ok (.iload_n 1, 1) := by decide +kernel
theorem dX4_take_26 : decode cX4_take 26 = .ok (.iload_n 2, 1) := by decide +kernel
theorem dX4_take_27 : decode cX4_take 27 = .ok (.ishr, 1) := by decide +kernel
theorem dX4_take_28 : decode cX4_take 28 = .ok (.sipush 255, 3) := by decide +kernel
theorem dX4_take_31 : decode cX4_take 31 = .ok (.iand, 1) := by decide +kernel
theorem dX4_take_32 : decode cX4_take 32 = .ok (.iastore, 1) := by decide +kernel
theorem dX4_take_33 : decode cX4_take 33 = .ok (.aload_n 0, 1) := by decide +kernel
theorem dX4_take_34 : decode cX4_take 34 = .ok (.dup, 1) := by decide +kernel
theorem dX4_take_35 : decode cX4_take 35 = .ok (.getfield 29, 3) := by decide +kernel
theorem dX4_take_38 : decode cX4_take 38 = .ok (.iconst 1, 1) := by decide +kernel
theorem dX4_take_39 : decode cX4_take 39 = .ok (.iadd, 1) := by decide +kernel
theorem dX4_take_40 : decode cX4_take 40 = .ok (.putfield 29, 3) := by decide +kernel
theorem dX4_take_43 : decode cX4_take 43 = .ok (.iinc 2 (-8), 3) := by decide +kernel
theorem dX4_take_46 : decode cX4_take 46 = .ok (.goto (-43), 3) := by decide +kernel
theorem dX4_take_49 : decode cX4_take 49 = .ok (.return_, 1) := by decide +kernel
theorem dX4_wrong_0 : decode cX4_wrong 0 = .ok (.aload_n 0, 1) := by decide +kernel
theorem dX4_wrong_1 : decode cX4_wrong 1 = .ok (.iload_n 1, 1) := by decide +kernel
theorem dX4_wrong_2 : decode cX4_wrong 2 = .ok (.putfield 22, 3) := by decide +kernel
theorem dX4_wrong_5 : decode cX4_wrong 5 = .ok (.aload_n 0, 1) := by decide +kernel
theorem dX4_wrong_6 : decode cX4_wrong 6 = .ok (.aload_n 0, 1) := by decide +kernel
theorem dX4_wrong_7 : decode cX4_wrong 7 = .ok (.getfield 48, 3) := by decide +kernel
theorem dX4_wrong_10 : decode cX4_wrong 10 = .ok (.putfield 26, 3) := by decide +kernel
theorem dX4_wrong_13 : decode cX4_wrong 13 = .ok (.iconst 0, 1) := by decide +kernel
theorem dX4_wrong_14 : decode cX4_wrong 14 = .ok (.ireturn, 1) := by decide +kernel
theorem dX4_advance_0 : decode cX4_advance 0 = .ok (.aload_n 0, 1) := by decide +kernel
theorem dX4_advance_1 : decode cX4_advance 1 = .ok (.getfield 35, 3) := by decide +kernel
theorem dX4_advance_4 : decode cX4_advance 4 = .ok (.aload_n 0, 1) := by decide +kernel
theorem dX4_advance_5 : decode cX4_advance 5 = .ok (.getfield 29, 3) := by decide +kernel
theorem dX4_advance_8 : decode cX4_advance 8 = .ok (.if_icmp .ge 44, 3) := by decide +kernel
theorem dX4_advance_11 : decode cX4_advance 11 = .ok (.aload_n 0, 1) := by decide +kernel
theorem dX4_advance_12 : decode cX4_advance 12 = .ok (.getfield 18, 3) := by decide +kernel
theorem dX4_advance_15 : decode cX4_advance 15 = .ok (.aload_n 0, 1) := by decide +kernel
theorem dX4_advance_16 : decode cX4_advance 16 = .ok (.getfield 35, 3) := by decide +kernel
theorem dX4_advance_19 : decode cX4_advance 19 = .ok (.iaload, 1) := by decide +kernel
theorem dX4_advance_20 : decode cX4_advance 20 = .ok (.bipush 32, 2) := by decide +kernel
theorem dX4_advance_22 : decode cX4_advance 22 = .ok (.if_icmp .eq 17, 3) := by decide +kernel
theorem dX4_advance_25 : decode cX4_advance 25 = .ok (.aload_n 0, 1) := by decide +kernel
theorem dX4_advance_26 : decode cX4_advance 26 = .ok (.getfield 18, 3) := by decide +kernel
theorem dX4_advance_29 : decode cX4_advance 29 = .ok (.aload_n 0, 1) := by decide +kernel
theorem dX4_advance_30 : decode cX4_advance 30 = .ok (.getfield 35, 3) := by decide +kernel
theorem dX4_advance_33 : decode cX4_advance 33 = .ok (.iaload, 1) := by decide +kernel
theorem dX4_advance_34 : decode cX4_advance 34 = .ok (.bipush 10, 2) := by decide +kernel
theorem dX4_advance_36 : decode cX4_advance 36 = .ok (.if_icmp .ne 16, 3) := by decide +kernel
theorem dX4_advance_39 : decode cX4_advance 39 = .ok (.aload_n 0, 1) := by decide +kernel
theorem dX4_advance_40 : decode cX4_advance 40 = .ok (.dup, 1) := by decide +kernel
theorem dX4_advance_41 : decode cX4_advance 41 = .ok (.getfield 35, 3) := by decide +kernel
theorem dX4_advance_44 : decode cX4_advance 44 = .ok (.iconst 1, 1) := by decide +kernel
theorem dX4_advance_45 : decode cX4_advance 45 = .ok (.iadd, 1) := by decide +kernel
theorem dX4_advance_46 : decode cX4_advance 46 = .ok (.putfield 35, 3) := by decide +kernel
theorem dX4_advance_49 : decode cX4_advance 49 = .ok (.goto (-49), 3) := by decide +kernel
theorem dX4_advance_52 : decode cX4_advance 52 = .ok (.aload_n 0, 1) := by decide +kernel
theorem dX4_advance_53 : decode cX4_advance 53 = .ok (.aload_n 0, 1) := by decide +kernel
theorem dX4_advance_54 : decode cX4_advance 54 = .ok (.getfield 35, 3) := by decide +kernel
theorem dX4_advance_57 : decode cX4_advance 57 = .ok (.putfield 48, 3) := by decide +kernel
theorem dX4_advance_60 : decode cX4_advance 60 = .ok (.aload_n 0, 1) := by decide +kernel
theorem dX4_advance_61 : decode cX4_advance 61 = .ok (.getfield 35, 3) := by decide +kernel
theorem dX4_advance_64 : decode cX4_advance 64 = .ok (.aload_n 0, 1) := by decide +kernel
theorem dX4_advance_65 : decode cX4_advance 65 = .ok (.getfield 29, 3) := by decide +kernel
theorem dX4_advance_68 : decode cX4_advance 68 = .ok (.if_icmp .lt 12, 3) := by decide +kernel
theorem dX4_advance_71 : decode cX4_advance 71 = .ok (.aload_n 0, 1) := by decide +kernel
theorem dX4_advance_72 : decode cX4_advance 72 = .ok (.bipush 41, 2) := by decide +kernel
theorem dX4_advance_74 : decode cX4_advance 74 = .ok (.putfield 41, 3) := by decide +kernel
theorem dX4_advance_77 : decode cX4_advance 77 = .ok (.goto 51, 3) := by decide +kernel
theorem dX4_advance_80 : decode cX4_advance 80 = .ok (.aload_n 0, 1) := by decide +kernel
theorem dX4_advance_81 : decode cX4_advance 81 = .ok (.getfield 18, 3) := by decide +kernel
theorem dX4_advance_84 : decode cX4_advance 84 = .ok (.aload_n 0, 1) := by decide +kernel
theorem dX4_advance_85 : decode cX4_advance 85 = .ok (.getfield 35, 3) := by decide +kernel
theorem dX4_advance_88 : decode cX4_advance 88 = .ok (.iaload, 1) := by decide +kernel
theorem dX4_advance_89 : decode cX4_advance 89 = .ok (.invokestatic 51, 3) := by decide +kernel
theorem dX4_advance_92 : decode cX4_advance 92 = .ok (.ifCond .eq 10, 3) := by decide +kernel
theorem dX4_advance_95 : decode cX4_advance 95 = .ok (.aload_n 0, 1) := by decide +kernel
theorem dX4_advance_96 : decode cX4_advance 96 = .ok (.invokevirtual 55, 3) := by decide +kernel
theorem dX4_advance_99 : decode cX4_advance 99 = .ok (.goto 29, 3) := by decide +kernel
theorem dX4_advance_102 : decode cX4_advance 102 = .ok (.aload_n 0, 1) := by decide +kernel
theorem dX4_advance_103 : decode cX4_advance 103 = .ok (.getfield 18, 3) := by decide +kernel
theorem dX4_advance_106 : decode cX4_advance 106 = .ok (.aload_n 0, 1) := by decide +kernel
theorem dX4_advance_107 : decode cX4_advance 107 = .ok (.getfield 35, 3) := by decide +kernel
theorem dX4_advance_110 : decode cX4_advance 110 = .ok (.iaload, 1) := by decide +kernel
theorem dX4_advance_111 : decode cX4_advance 111 = .ok (.invokestatic 58, 3) := by decide +kernel
theorem dX4_advance_114 : decode cX4_advance 114 = .ok (.ifCond .eq 10, 3) := by decide +kernel
theorem dX4_advance_117 : decode cX4_advance 117 = .ok (.aload_n 0, 1) := by decide +kernel
theorem dX4_advance_118 : decode cX4_advance 118 = .ok (.invokevirtual 61, 3) := by decide +kernel
theorem dX4_advance_121 : decode cX4_advance 121 = .ok (.goto 7, 3) := by decide +kernel
theorem dX4_advance_124 : decode cX4_advance 124 = .ok (.aload_n 0, 1) := by decide +kernel
theorem dX4_advance_125 : decode cX4_advance 125 = .ok (.invokevirtual 64, 3) := by decide +kernel
theorem dX4_advance_128 : decode cX4_advance 128 = .ok (.return_, 1) := by decide +kernel
theorem dX4_isLetter_0 : decode cX4_isLetter 0 = .ok (.iload_n 0, 1) := by decide +kernel
theorem dX4_isLetter_1 : decode cX4_isLetter 1 = .ok (.bipush 97, 2) := by decide +kernel
theorem dX4_isLetter_3 : decode cX4_isLetter 3 = .ok (.if_icmp .lt 9, 3) := by decide +kernel
theorem dX4_isLetter_6 : decode cX4_isLetter 6 = .ok (.iload_n 0, 1) := by decide +kernel
theorem dX4_isLetter_7 : decode cX4_isLetter 7 = .ok (.bipush 122, 2) := by decide +kernel
theorem dX4_isLetter_9 : decode cX4_isLetter 9 = .ok (.if_icmp .le 15, 3) := by decide +kernel
theorem dX4_isLetter_12 : decode cX4_isLetter 12 = .ok (.iload_n 0, 1) := by decide +kernel
theorem dX4_isLetter_13 : decode cX4_isLetter 13 = .ok (.bipush 65, 2) := by decide +kernel
theorem dX4_isLetter_15 : decode cX4_isLetter 15 = .ok (.if_icmp .lt 13, 3) := by decide +kernel
theorem dX4_isLetter_18 : decode cX4_isLetter 18 = .ok (.iload_n 0, 1) := by decide +kernel
theorem dX4_isLetter_19 : decode cX4_isLetter 19 = .ok (.bipush 90, 2) := by decide +kernel
theorem dX4_isLetter_21 : decode cX4_isLetter 21 = .ok (.if_icmp .gt 7, 3) := by decide +kernel
theorem dX4_isLetter_24 : decode cX4_isLetter 24 = .ok (.iconst 1, 1) := by decide +kernel
theorem dX4_isLetter_25 : decode cX4_isLetter 25 = .ok (.goto 4, 3) := by decide +kernel
theorem dX4_isLetter_28 : decode cX4_isLetter 28 = .ok (.iconst 0, 1) := by decide +kernel
theorem dX4_isLetter_29 : decode cX4_isLetter 29 = .ok (.ireturn, 1) := by decide +kernel
theorem dX4_isNumeral_0 : decode cX4_isNumeral 0 = .ok (.iload_n 0, 1) := by decide +kernel
theorem dX4_isNumeral_1 : decode cX4_isNumeral 1 = .ok (.bipush 48, 2) := by decide +kernel
theorem dX4_isNumeral_3 : decode cX4_isNumeral 3 = .ok (.if_icmp .lt 13, 3) := by decide +kernel
theorem dX4_isNumeral_6 : decode cX4_isNumeral 6 = .ok (.iload_n 0, 1) := by decide +kernel
theorem dX4_isNumeral_7 : decode cX4_isNumeral 7 = .ok (.bipush 57, 2) := by decide +kernel
theorem dX4_isNumeral_9 : decode cX4_isNumeral 9 = .ok (.if_icmp .gt 7, 3) := by decide +kernel
theorem dX4_isNumeral_12 : decode cX4_isNumeral 12 = .ok (.iconst 1, 1) := by decide +kernel
theorem dX4_isNumeral_13 : decode cX4_isNumeral 13 = .ok (.goto 4, 3) := by decide +kernel
theorem dX4_isNumeral_16 : decode cX4_isNumeral 16 = .ok (.iconst 0, 1) := by decide +kernel
theorem dX4_isNumeral_17 : decode cX4_isNumeral 17 = .ok (.ireturn, 1) := by decide +kernel
theorem dX4_scanWord_0 : decode cX4_scanWord 0 = .ok (.aload_n 0, 1) := by decide +kernel
theorem dX4_scanWord_1 : decode cX4_scanWord 1 = .ok (.getfield 35, 3) := by decide +kernel
theorem dX4_scanWord_4 : decode cX4_scanWord 4 = .ok (.aload_n 0, 1) := by decide +kernel
theorem dX4_scanWord_5 : decode cX4_scanWord 5 = .ok (.getfield 29, 3) := by decide +kernel
theorem dX4_scanWord_8 : decode cX4_scanWord 8 = .ok (.if_icmp .ge 31, 3) := by decide +kernel
theorem dX4_scanWord_11 : decode cX4_scanWord 11 = .ok (.aload_n 0, 1) := by decide +kernel
theorem dX4_scanWord_12 : decode cX4_scanWord 12 = .ok (.getfield 18, 3) := by decide +kernel
theorem dX4_scanWord_15 : decode cX4_scanWord 15 = .ok (.aload_n 0, 1) := by decide +kernel
theorem dX4_scanWord_16 : decode cX4_scanWord 16 = .ok (.getfield 35, 3) := by decide +kernel
theorem dX4_scanWord_19 : decode cX4_scanWord 19 = .ok (.iaload, 1) := by decide +kernel
theorem dX4_scanWord_20 : decode cX4_scanWord 20 = .ok (.invokestatic 51, 3) := by decide +kernel
theorem dX4_scanWord_23 : decode cX4_scanWord 23 = .ok (.ifCond .eq 16, 3) := by decide +kernel
theorem dX4_scanWord_26 : decode cX4_scanWord 26 = .ok (.aload_n 0, 1) := by decide +kernel
theorem dX4_scanWord_27 : decode cX4_scanWord 27 = .ok (.dup, 1) := by decide +kernel
theorem dX4_scanWord_28 : decode cX4_scanWord 28 = .ok (.getfield 35, 3) := by decide +kernel
theorem dX4_scanWord_31 : decode cX4_scanWord 31 = .ok (.iconst 1, 1) := by decide +kernel
theorem dX4_scanWord_32 : decode cX4_scanWord 32 = .ok (.iadd, 1) := by decide +kernel
theorem dX4_scanWord_33 : decode cX4_scanWord 33 = .ok (.putfield 35, 3) := by decide +kernel
theorem dX4_scanWord_36 : decode cX4_scanWord 36 = .ok (.goto (-36), 3) := by decide +kernel
theorem dX4_scanWord_39 : decode cX4_scanWord 39 = .ok (.aload_n 0, 1) := by decide +kernel
theorem dX4_scanWord_40 : decode cX4_scanWord 40 = .ok (.bipush 42, 2) := by decide +kernel
theorem dX4_scanWord_42 : decode cX4_scanWord 42 = .ok (.putfield 41, 3) := by decide +kernel
theorem dX4_scanWord_45 : decode cX4_scanWord 45 = .ok (.iconst 0, 1) := by decide +kernel
theorem dX4_scanWord_46 : decode cX4_scanWord 46 = .ok (.istore_n 1, 1) := by decide +kernel
theorem dX4_scanWord_47 : decode cX4_scanWord 47 = .ok (.aload_n 0, 1) := by decide +kernel
theorem dX4_scanWord_48 : decode cX4_scanWord 48 = .ok (.getfield 48, 3) := by decide +kernel
theorem dX4_scanWord_51 : decode cX4_scanWord 51 = .ok (.istore_n 2, 1) := by decide +kernel
theorem dX4_scanWord_52 : decode cX4_scanWord 52 = .ok (.iconst 0, 1) := by decide +kernel
theorem dX4_scanWord_53 : decode cX4_scanWord 53 = .ok (.istore_n 3, 1) := by decide +kernel
theorem dX4_scanWord_54 : decode cX4_scanWord 54 = .ok (.iload_n 3, 1) := by decide +kernel
theorem dX4_scanWord_55 : decode cX4_scanWord 55 = .ok (.ldc 67, 2) := by decide +kernel
theorem dX4_scanWord_57 : decode cX4_scanWord 57 = .ok (.invokevirtual 69, 3) := by decide +kernel
theorem dX4_scanWord_60 : decode cX4_scanWord 60 = .ok (.if_icmp .ge 97, 3) := by decide +kernel
theorem dX4_scanWord_63 : decode cX4_scanWord 63 = .ok (.aload_n 0, 1) := by decide +kernel
theorem dX4_scanWord_64 : decode cX4_scanWord 64 = .ok (.getfield 41, 3) := by decide +kernel
theorem dX4_scanWord_67 : decode cX4_scanWord 67 = .ok (.bipush 42, 2) := by decide +kernel
theorem dX4_scanWord_69 : decode cX4_scanWord 69 = .ok (.if_icmp .ne 88, 3) := by decide +kernel
theorem dX4_scanWord_72 : decode cX4_scanWord 72 = .ok (.ldc 67, 2) := by decide +kernel
theorem dX4_scanWord_74 : decode cX4_scanWord 74 = .ok (.iload_n 3, 1) := by decide +kernel
theorem dX4_scanWord_75 : decode cX4_scanWord 75 = .ok (.invokevirtual 74, 3) := by decide +kernel
theorem dX4_scanWord_78 : decode cX4_scanWord 78 = .ok (.istore 4, 2) := by decide +kernel
theorem dX4_scanWord_80 : decode cX4_scanWord 80 = .ok (.iload 4, 2) := by decide +kernel
theorem dX4_scanWord_82 : decode cX4_scanWord 82 = .ok (.bipush 32, 2) := by decide +kernel
theorem dX4_scanWord_84 : decode cX4_scanWord 84 = .ok (.if_icmp .ne 32, 3) := by decide +kernel
theorem dX4_scanWord_87 : decode cX4_scanWord 87 = .ok (.aload_n 0, 1) := by decide +kernel
theorem dX4_scanWord_88 : decode cX4_scanWord 88 = .ok (.iload_n 2, 1) := by decide +kernel
theorem dX4_scanWord_89 : decode cX4_scanWord 89 = .ok (.aload_n 0, 1) := by decide +kernel
theorem dX4_scanWord_90 : decode cX4_scanWord 90 = .ok (.getfield 35, 3) := by decide +kernel
theorem dX4_scanWord_93 : decode cX4_scanWord 93 = .ok (.if_icmp .ne 7, 3) := by decide +kernel
theorem dX4_scanWord_96 : decode cX4_scanWord 96 = .ok (.iload_n 1, 1) := by decide +kernel
theorem dX4_scanWord_97 : decode cX4_scanWord 97 = .ok (.goto 5, 3) := by decide +kernel
theorem dX4_scanWord_100 : decode cX4_scanWord 100 = .ok (.bipush 42, 2) := by decide +kernel
theorem dX4_scanWord_102 : decode cX4_scanWord 102 = .ok (.putfield 41, 3) := by decide +kernel
theorem dX4_scanWord_105 : decode cX4_scanWord 105 = .ok (.iinc 1 1, 3) := by decide +kernel
theorem dX4_scanWord_108 : decode cX4_scanWord 108 = .ok (.aload_n 0, 1) := by decide +kernel
theorem dX4_scanWord_109 : decode cX4_scanWord 109 = .ok (.getfield 48, 3) := by decide +kernel
theorem dX4_scanWord_112 : decode cX4_scanWord 112 = .ok (.istore_n 2, 1) := by decide +kernel
theorem dX4_scanWord_113 : decode cX4_scanWord 113 = .ok (.goto 38, 3) := by decide +kernel
theorem dX4_scanWord_116 : decode cX4_scanWord 116 = .ok (.iload_n 2, 1) := by decide +kernel
theorem dX4_scanWord_117 : decode cX4_scanWord 117 = .ok (.aload_n 0, 1) := by decide +kernel
theorem dX4_scanWord_118 : decode cX4_scanWord 118 = .ok (.getfield 48, 3) := by decide +kernel
theorem dX4_scanWord_121 : decode cX4_scanWord 121 = .ok (.if_icmp .lt 28, 3) := by decide +kernel
theorem dX4_scanWord_124 : decode cX4_scanWord 124 = .ok (.iload_n 2, 1) := by decide +kernel
theorem dX4_scanWord_125 : decode cX4_scanWord 125 = .ok (.aload_n 0, 1) := by decide +kernel
theorem dX4_scanWord_126 : decode cX4_scanWord 126 = .ok (.getfield 35, 3) := by decide +kernel
theorem dX4_scanWord_129 : decode cX4_scanWord 129 = .ok (.if_icmp .ge 20, 3) := by decide +kernel
theorem dX4_scanWord_132 : decode cX4_scanWord 132 = .ok (.aload_n 0, 1) := by decide +kernel
theorem dX4_scanWord_133 : decode cX4_scanWord 133 = .ok (.getfield 18, 3) := by decide +kernel
theorem dX4_scanWord_136 : decode cX4_scanWord 136 = .ok (.iload_n 2, 1) := by decide +kernel
theorem dX4_scanWord_137 : decode cX4_scanWord 137 = .ok (.iaload, 1) := by decide +kernel
theorem dX4_scanWord_138 : decode cX4_scanWord 138 = .ok (.iload 4, 2) := by decide +kernel
theorem dX4_scanWord_140 : decode cX4_scanWord 140 = .ok (.if_icmp .ne 9, 3) := by decide +kernel
theorem dX4_scanWord_143 : decode cX4_scanWord 143 = .ok (.iload_n 2, 1) := by decide +kernel
theorem dX4_scanWord_144 : decode cX4_scanWord 144 = .ok (.iconst 1, 1) := by decide +kernel
theorem dX4_scanWord_145 : decode cX4_scanWord 145 = .ok (.iadd, 1) := by decide +kernel
theorem dX4_scanWord_146 : decode cX4_scanWord 146 = .ok (.goto 4, 3) := by decide +kernel
theorem dX4_scanWord_149 : decode cX4_scanWord 149 = .ok (.iconst (-1), 1) := by decide +kernel
theorem dX4_scanWord_150 : decode cX4_scanWord 150 = .ok (.istore_n 2, 1) := by decide +kernel
theorem dX4_scanWord_151 : decode cX4_scanWord 151 = .ok (.iinc 3 1, 3) := by decide +kernel
theorem dX4_scanWord_154 : decode cX4_scanWord 154 = .ok (.goto (-100), 3) := by decide +kernel
theorem dX4_scanWord_157 : decode cX4_scanWord 157 = .ok (.return_, 1) := by decide +kernel
theorem dX4_scanNumber_0 : decode cX4_scanNumber 0 = .ok (.aload_n 0, 1) := by decide +kernel
theorem dX4_scanNumber_1 : decode cX4_scanNumber 1 = .ok (.bipush 40, 2) := by decide +kernel
theorem dX4_scanNumber_3 : decode cX4_scanNumber 3 = .ok (.putfield 41, 3) := by decide +kernel
theorem dX4_scanNumber_6 : decode cX4_scanNumber 6 = .ok (.aload_n 0, 1) := by decide +kernel
theorem dX4_scanNumber_7 : decode cX4_scanNumber 7 = .ok (.iconst 0, 1) := by decide +kernel
theorem dX4_scanNumber_8 : decode cX4_scanNumber 8 = .ok (.putfield 78, 3) := by decide +kernel
theorem dX4_scanNumber_11 : decode cX4_scanNumber 11 = .ok (.aload_n 0, 1) := by decide +kernel
theorem dX4_scanNumber_12 : decode cX4_scanNumber 12 = .ok (.getfield 35, 3) := by decide +kernel
theorem dX4_scanNumber_15 : decode cX4_scanNumber 15 = .ok (.aload_n 0, 1) := by decide +kernel
theorem dX4_scanNumber_16 : decode cX4_scanNumber 16 = .ok (.getfield 29, 3) := by decide +kernel
theorem dX4_scanNumber_19 : decode cX4_scanNumber 19 = .ok (.if_icmp .ge 61, 3) := by decide +kernel
theorem dX4_scanNumber_22 : decode cX4_scanNumber 22 = .ok (.aload_n 0, 1) := by decide +kernel
theorem dX4_scanNumber_23 : decode cX4_scanNumber 23 = .ok (.getfield 18, 3) := by decide +kernel
theorem dX4_scanNumber_26 : decode cX4_scanNumber 26 = .ok (.aload_n 0, 1) := by decide +kernel
theorem dX4_scanNumber_27 : decode cX4_scanNumber 27 = .ok (.getfield 35, 3) := by decide +kernel
theorem dX4_scanNumber_30 : decode cX4_scanNumber 30 = .ok (.iaload, 1) := by decide +kernel
theorem dX4_scanNumber_31 : decode cX4_scanNumber 31 = .ok (.invokestatic 58, 3) := by decide +kernel
theorem dX4_scanNumber_34 : decode cX4_scanNumber 34 = .ok (.ifCond .eq 46, 3) := by decide +kernel
theorem dX4_scanNumber_37 : decode cX4_scanNumber 37 = .ok (.aload_n 0, 1) := by decide +kernel
theorem dX4_scanNumber_38 : decode cX4_scanNumber 38 = .ok (.sipush 10000, 3) := by decide +kernel
theorem dX4_scanNumber_41 : decode cX4_scanNumber 41 = .ok (.aload_n 0, 1) := by decide +kernel
theorem dX4_scanNumber_42 : decode cX4_scanNumber 42 = .ok (.getfield 78, 3) := by decide +kernel
theorem dX4_scanNumber_45 : decode cX4_scanNumber 45 = .ok (.bipush 10, 2) := by decide +kernel
theorem dX4_scanNumber_47 : decode cX4_scanNumber 47 = .ok (.imul, 1) := by decide +kernel
theorem dX4_scanNumber_48 : decode cX4_scanNumber 48 = .ok (.aload_n 0, 1) := by decide +kernel
theorem dX4_scanNumber_49 : decode cX4_scanNumber 49 = .ok (.getfield 18, 3) := by decide +kernel
theorem dX4_scanNumber_52 : decode cX4_scanNumber 52 = .ok (.aload_n 0, 1) := by decide +kernel
theorem dX4_scanNumber_53 : decode cX4_scanNumber 53 = .ok (.getfield 35, 3) := by decide +kernel
theorem dX4_scanNumber_56 : decode cX4_scanNumber 56 = .ok (.iaload, 1) := by decide +kernel
theorem dX4_scanNumber_57 : decode cX4_scanNumber 57 = .ok (.iadd, 1) := by decide +kernel
theorem dX4_scanNumber_58 : decode cX4_scanNumber 58 = .ok (.bipush 48, 2) := by decide +kernel
theorem dX4_scanNumber_60 : decode cX4_scanNumber 60 = .ok (.isub, 1) := by decide +kernel
theorem dX4_scanNumber_61 : decode cX4_scanNumber 61 = .ok (.invokestatic 81, 3) := by decide +kernel
theorem dX4_scanNumber_64 : decode cX4_scanNumber 64 = .ok (.putfield 78, 3) := by decide +kernel
theorem dX4_scanNumber_67 : decode cX4_scanNumber 67 = .ok (.aload_n 0, 1) := by decide +kernel
theorem dX4_scanNumber_68 : decode cX4_scanNumber 68 = .ok (.dup, 1) := by decide +kernel
theorem dX4_scanNumber_69 : decode cX4_scanNumber 69 = .ok (.getfield 35, 3) := by decide +kernel
theorem dX4_scanNumber_72 : decode cX4_scanNumber 72 = .ok (.iconst 1, 1) := by decide +kernel
theorem dX4_scanNumber_73 : decode cX4_scanNumber 73 = .ok (.iadd, 1) := by decide +kernel
theorem dX4_scanNumber_74 : decode cX4_scanNumber 74 = .ok (.putfield 35, 3) := by decide +kernel
theorem dX4_scanNumber_77 : decode cX4_scanNumber 77 = .ok (.goto (-66), 3) := by decide +kernel
theorem dX4_scanNumber_80 : decode cX4_scanNumber 80 = .ok (.return_, 1) := by decide +kernel
theorem dX4_scanSign_0 : decode cX4_scanSign 0 = .ok (.ldc 87, 2) := by decide +kernel
theorem dX4_scanSign_2 : decode cX4_scanSign 2 = .ok (.aload_n 0, 1) := by decide +kernel
theorem dX4_scanSign_3 : decode cX4_scanSign 3 = .ok (.getfield 18, 3) := by decide +kernel
theorem dX4_scanSign_6 : decode cX4_scanSign 6 = .ok (.aload_n 0, 1) := by decide +kernel
theorem dX4_scanSign_7 : decode cX4_scanSign 7 = .ok (.getfield 35, 3) := by decide +kernel
theorem dX4_scanSign_10 : decode cX4_scanSign 10 = .ok (.iaload, 1) := by decide +kernel
theorem dX4_scanSign_11 : decode cX4_scanSign 11 = .ok (.i2c, 1) := by decide +kernel
theorem dX4_scanSign_12 : decode cX4_scanSign 12 = .ok (.invokevirtual 89, 3) := by decide +kernel
theorem dX4_scanSign_15 : decode cX4_scanSign 15 = .ok (.istore_n 1, 1) := by decide +kernel
theorem dX4_scanSign_16 : decode cX4_scanSign 16 = .ok (.aload_n 0, 1) := by decide +kernel
theorem dX4_scanSign_17 : decode cX4_scanSign 17 = .ok (.iload_n 1, 1) := by decide +kernel
theorem dX4_scanSign_18 : decode cX4_scanSign 18 = .ok (.ifCond .ge 8, 3) := by decide +kernel
theorem dX4_scanSign_21 : decode cX4_scanSign 21 = .ok (.bipush 42, 2) := by decide +kernel
theorem dX4_scanSign_23 : decode cX4_scanSign 23 = .ok (.goto 7, 3) := by decide +kernel
theorem dX4_scanSign_26 : decode cX4_scanSign 26 = .ok (.bipush 50, 2) := by decide +kernel
theorem dX4_scanSign_28 : decode cX4_scanSign 28 = .ok (.iload_n 1, 1) := by decide +kernel
theorem dX4_scanSign_29 : decode cX4_scanSign 29 = .ok (.iadd, 1) := by decide +kernel
theorem dX4_scanSign_30 : decode cX4_scanSign 30 = .ok (.putfield 41, 3) := by decide +kernel
theorem dX4_scanSign_33 : decode cX4_scanSign 33 = .ok (.aload_n 0, 1) := by decide +kernel
theorem dX4_scanSign_34 : decode cX4_scanSign 34 = .ok (.dup, 1) := by decide +kernel
theorem dX4_scanSign_35 : decode cX4_scanSign 35 = .ok (.getfield 35, 3) := by decide +kernel
theorem dX4_scanSign_38 : decode cX4_scanSign 38 = .ok (.iconst 1, 1) := by decide +kernel
theorem dX4_scanSign_39 : decode cX4_scanSign 39 = .ok (.iadd, 1) := by decide +kernel
theorem dX4_scanSign_40 : decode cX4_scanSign 40 = .ok (.putfield 35, 3) := by decide +kernel
theorem dX4_scanSign_43 : decode cX4_scanSign 43 = .ok (.aload_n 0, 1) := by decide +kernel
theorem dX4_scanSign_44 : decode cX4_scanSign 44 = .ok (.getfield 35, 3) := by decide +kernel
theorem dX4_scanSign_47 : decode cX4_scanSign 47 = .ok (.aload_n 0, 1) := by decide +kernel
theorem dX4_scanSign_48 : decode cX4_scanSign 48 = .ok (.getfield 29, 3) := by decide +kernel
theorem dX4_scanSign_51 : decode cX4_scanSign 51 = .ok (.if_icmp .ge 65, 3) := by decide +kernel
theorem dX4_scanSign_54 : decode cX4_scanSign 54 = .ok (.aload_n 0, 1) := by decide +kernel
theorem dX4_scanSign_55 : decode cX4_scanSign 55 = .ok (.getfield 18, 3) := by decide +kernel
theorem dX4_scanSign_58 : decode cX4_scanSign 58 = .ok (.aload_n 0, 1) := by decide +kernel
theorem dX4_scanSign_59 : decode cX4_scanSign 59 = .ok (.getfield 35, 3) := by decide +kernel
theorem dX4_scanSign_62 : decode cX4_scanSign 62 = .ok (.iaload, 1) := by decide +kernel
theorem dX4_scanSign_63 : decode cX4_scanSign 63 = .ok (.bipush 61, 2) := by decide +kernel
theorem dX4_scanSign_65 : decode cX4_scanSign 65 = .ok (.if_icmp .ne 51, 3) := by decide +kernel
theorem dX4_scanSign_68 : decode cX4_scanSign 68 = .ok (.aload_n 0, 1) := by decide +kernel
theorem dX4_scanSign_69 : decode cX4_scanSign 69 = .ok (.getfield 41, 3) := by decide +kernel
theorem dX4_scanSign_72 : decode cX4_scanSign 72 = .ok (.bipush 50, 2) := by decide +kernel
theorem dX4_scanSign_74 : decode cX4_scanSign 74 = .ok (.if_icmp .eq 12, 3) := by decide +kernel
theorem dX4_scanSign_77 : decode cX4_scanSign 77 = .ok (.aload_n 0, 1) := by decide +kernel
theorem dX4_scanSign_78 : decode cX4_scanSign 78 = .ok (.getfield 41, 3) := by decide +kernel
theorem dX4_scanSign_81 : decode cX4_scanSign 81 = .ok (.bipush 51, 2) := by decide +kernel
theorem dX4_scanSign_83 : decode cX4_scanSign 83 = .ok (.if_icmp .ne 33, 3) := by decide +kernel
theorem dX4_scanSign_86 : decode cX4_scanSign 86 = .ok (.aload_n 0, 1) := by decide +kernel
theorem dX4_scanSign_87 : decode cX4_scanSign 87 = .ok (.aload_n 0, 1) := by decide +kernel
theorem dX4_scanSign_88 : decode cX4_scanSign 88 = .ok (.getfield 41, 3) := by decide +kernel
theorem dX4_scanSign_91 : decode cX4_scanSign 91 = .ok (.bipush 50, 2) := by decide +kernel
theorem dX4_scanSign_93 : decode cX4_scanSign 93 = .ok (.if_icmp .ne 8, 3) := by decide +kernel
theorem dX4_scanSign_96 : decode cX4_scanSign 96 = .ok (.bipush 62, 2) := by decide +kernel
theorem dX4_scanSign_98 : decode cX4_scanSign 98 = .ok (.goto 5, 3) := by decide +kernel
theorem dX4_scanSign_101 : decode cX4_scanSign 101 = .ok (.bipush 63, 2) := by decide +kernel
theorem dX4_scanSign_103 : decode cX4_scanSign 103 = .ok (.putfield 41, 3) := by decide +kernel
theorem dX4_scanSign_106 : decode cX4_scanSign 106 = .ok (.aload_n 0, 1) := by decide +kernel
theorem dX4_scanSign_107 : decode cX4_scanSign 107 = .ok (.dup, 1) := by decide +kernel
theorem dX4_scanSign_108 : decode cX4_scanSign 108 = .ok (.getfield 35, 3) := by decide +kernel
theorem dX4_scanSign_111 : decode cX4_scanSign 111 = .ok (.iconst 1, 1) := by decide +kernel
theorem dX4_scanSign_112 : decode cX4_scanSign 112 = .ok (.iadd, 1) := by decide +kernel
theorem dX4_scanSign_113 : decode cX4_scanSign 113 = .ok (.putfield 35, 3) := by decide +kernel
theorem dX4_scanSign_116 : decode cX4_scanSign 116 = .ok (.return_, 1) := by decide +kernel
theorem dX4_pass_0 : decode cX4_pass 0 = .ok (.aload_n 0, 1) := by decide +kernel
theorem dX4_pass_1 : decode cX4_pass 1 = .ok (.getfield 41, 3) := by decide +kernel
theorem dX4_pass_4 : decode cX4_pass 4 = .ok (.iload_n 1, 1) := by decide +kernel
theorem dX4_pass_5 : decode cX4_pass 5 = .ok (.if_icmp .eq 9, 3) := by decide +kernel
theorem dX4_pass_8 : decode cX4_pass 8 = .ok (.aload_n 0, 1) := by decide +kernel
theorem dX4_pass_9 : decode cX4_pass 9 = .ok (.iconst 1, 1) := by decide +kernel
theorem dX4_pass_10 : decode cX4_pass 10 = .ok (.invokevirtual 93, 3) := by decide +kernel
theorem dX4_pass_13 : decode cX4_pass 13 = .ok (.ireturn, 1) := by decide +kernel
theorem dX4_pass_14 : decode cX4_pass 14 = .ok (.aload_n 0, 1) := by decide +kernel
theorem dX4_pass_15 : decode cX4_pass 15 = .ok (.invokevirtual 38, 3) := by decide +kernel
theorem dX4_pass_18 : decode cX4_pass 18 = .ok (.iconst 1, 1) := by decide +kernel
theorem dX4_pass_19 : decode cX4_pass 19 = .ok (.ireturn, 1) := by decide +kernel
theorem dX4_readNumber_0 : decode cX4_readNumber 0 = .ok (.aload_n 0, 1) := by decide +kernel
theorem dX4_readNumber_1 : decode cX4_readNumber 1 = .ok (.getfield 41, 3) := by decide +kernel
theorem dX4_readNumber_4 : decode cX4_readNumber 4 = .ok (.bipush 40, 2) := by decide +kernel
theorem dX4_readNumber_6 : decode cX4_readNumber 6 = .ok (.if_icmp .eq 9, 3) := by decide +kernel
theorem dX4_readNumber_9 : decode cX4_readNumber 9 = .ok (.aload_n 0, 1) := by decide +kernel
theorem dX4_readNumber_10 : decode cX4_readNumber 10 = .ok (.iconst 1, 1) := by decide +kernel
theorem dX4_readNumber_11 : decode cX4_readNumber 11 = .ok (.invokevirtual 93, 3) := by decide +kernel
theorem dX4_readNumber_14 : decode cX4_readNumber 14 = .ok (.ireturn, 1) := by decide +kernel
theorem dX4_readNumber_15 : decode cX4_readNumber 15 = .ok (.aload_n 0, 1) := by decide +kernel
theorem dX4_readNumber_16 : decode cX4_readNumber 16 = .ok (.getfield 78, 3) := by decide +kernel
theorem dX4_readNumber_19 : decode cX4_readNumber 19 = .ok (.iload_n 1, 1) := by decide +kernel
theorem dX4_readNumber_20 : decode cX4_readNumber 20 = .ok (.iload_n 2, 1) := by decide +kernel
theorem dX4_readNumber_21 : decode cX4_readNumber 21 = .ok (.invokestatic 96, 3) := by decide +kernel
theorem dX4_readNumber_24 : decode cX4_readNumber 24 = .ok (.ifCond .ne 9, 3) := by decide +kernel
theorem dX4_readNumber_27 : decode cX4_readNumber 27 = .ok (.aload_n 0, 1) := by decide +kernel
theorem dX4_readNumber_28 : decode cX4_readNumber 28 = .ok (.iconst 2, 1) := by decide +kernel
theorem dX4_readNumber_29 : decode cX4_readNumber 29 = .ok (.invokevirtual 93, 3) := by decide +kernel
theorem dX4_readNumber_32 : decode cX4_readNumber 32 = .ok (.ireturn, 1) := by decide +kernel
theorem dX4_readNumber_33 : decode cX4_readNumber 33 = .ok (.aload_n 0, 1) := by decide +kernel
theorem dX4_readNumber_34 : decode cX4_readNumber 34 = .ok (.getfield 12, 3) := by decide +kernel
theorem dX4_readNumber_37 : decode cX4_readNumber 37 = .ok (.aload_n 0, 1) := by decide +kernel
theorem dX4_readNumber_38 : decode cX4_readNumber 38 = .ok (.getfield 78, 3) := by decide +kernel
theorem dX4_readNumber_41 : decode cX4_readNumber 41 = .ok (.invokevirtual 135, 3) := by decide +kernel
theorem dX4_readNumber_44 : decode cX4_readNumber 44 = .ok (.aload_n 0, 1) := by decide +kernel
theorem dX4_readNumber_45 : decode cX4_readNumber 45 = .ok (.invokevirtual 38, 3) := by decide +kernel
theorem dX4_readNumber_48 : decode cX4_readNumber 48 = .ok (.iconst 1, 1) := by decide +kernel
theorem dX4_readNumber_49 : decode cX4_readNumber 49 = .ok (.ireturn, 1) := by decide +kernel
section
variable {p : Program} {l : Launch} {e : Env} {R : Room} {s : State} {m : MethodId} {args : Array Value} {below : List Frame} {meth : Method} {c : Code} {Q : State → Prop} {V : g_V} {nf nl : Nat}
set_option maxRecDepth 100000 in
set_option maxHeartbeats 4000000 in
theorem w_X4_take_L3 (C : g_CX xG V p R s m args meth c cX4_take 3 none RX4 0 0) {res : g_M} (hR : g_RetV xG V p l e R s m args below meth c Q cX4_take res) (x12 : Int)   : ∀ (f : Nat) (x13 : Int) (M14 : g_M) (H : Heap) (locs : List Loc) (ls : Array Slot), m_X4_take_L3 x12  f x13 M14 = some res → g_PT xG V M14 s H locs → lv_has ls 3 [(0, .ref (V.2.2 23)), (1, .int (gI x12)), (2, .int (gI x13))] → W p l e R s m args below meth c H locs 0 0 Q (F0 m 3 ls []) := by
  intro f
  induction f with
  | zero => intro x13 M14 H locs ls h hp hl; cases h
  | succ f ih =>
    intro x13 M14 H locs ls h hp hl
    rw [m_X4_take_L3] at h
    refine lv_iload_n C.1 C.2.1 dX4_take_3 rfl (lv_at hl 2 rfl) ?_
    refine r_if_lt (tgt := 49) C h dX4_take_4 (by decide) (fun h => ?_) (fun h => ?_)
    · cases h
      exact hR _ _ _ _ dX4_take_49 hp
    · refine lv_aload_n C.1 C.2.1 dX4_take_7 rfl (lv_at hl 0 rfl) ?_
      refine r_geti (t := 0) C hp xk_23 xs_23 xc_4 xin_4 (j := 2) (by decide) rfl gw_283 rfl dX4_take_8 ?_
      refine r_sipush C dX4_take_11 (by decide +kernel) ?_
      refine r_icmp_ge (tgt := 49) C h dX4_take_14 (by decide) (fun h => ?_) (fun h => ?_)
      · cases h
        exact hR _ _ _ _ dX4_take_49 hp
      · refine lv_aload_n C.1 C.2.1 dX4_take_17 rfl (lv_at hl 0 rfl) ?_
        refine r_getr (t := 24) C hp xk_23 xs_23 xc_4 xin_4 (j := 1) (by decide) rfl gw_282 rfl dX4_take_18 ?_
        refine lv_aload_n C.1 C.2.1 dX4_take_21 rfl (lv_at hl 0 rfl) ?_
        refine r_geti (t := 0) C hp xk_23 xs_23 xc_4 xin_4 (j := 2) (by decide) rfl gw_283 rfl dX4_take_22 ?_
        refine lv_iload_n C.1 C.2.1 dX4_take_25 rfl (lv_at hl 1 rfl) ?_
        refine lv_iload_n C.1 C.2.1 dX4_take_26 rfl (lv_at hl 2 rfl) ?_
        refine r_ishr C dX4_take_27 ?_
        refine r_sipush C dX4_take_28 (by decide +kernel) ?_
        refine r_iand C dX4_take_31 ?_
        refine r_iast C hp h xk_24 xs_24 dX4_take_32 (fun M15 H locs h hp => ?_)
        refine lv_aload_n C.1 C.2.1 dX4_take_33 rfl (lv_at hl 0 rfl) ?_
        refine lv_dup C.1 C.2.1 dX4_take_34 rfl ?_
        refine r_geti (t := 0) C hp xk_23 xs_23 xc_4 xin_4 (j := 2) (by decide) rfl gw_283 rfl dX4_take_35 ?_
        refine r_iconst C dX4_take_38 ?_
        refine r_iadd C dX4_take_39 ?_
        refine r_puti C hp h xk_23 xs_23 xc_4 xin_4 tyX4 tyX4_ok nmX4 (j := 2) (by decide) rfl gw_283 rfl rfl rfl dX4_take_40 (fun M16 H locs h hp => ?_)
        refine r_iinc (lv' := fun x17 => [(2, .int (gI x17)), (0, .ref (V.2.2 23)), (1, .int (gI x12))]) C h dX4_take_43 hl (j := 2) rfl (by decide) (fun _ => rfl) (fun x17 ls h hl => ?_)
        refine r_goto (tgt := 3) C dX4_take_46 (by decide) ?_
        exact ih _ _ _ _ _ h hp (lv_sub hl [1, 2, 0] rfl)
set_option maxRecDepth 100000 in
set_option maxHeartbeats 4000000 in
theorem b_X4_take (C : g_CX xG V p R s m args meth c cX4_take 3 none RX4 0 0) {res : g_M} (hR : g_RetV xG V p l e R s m args below meth c Q cX4_take res) {a1 : Int} {M : g_M} {H : Heap} {locs : List Loc} {ls : Array Slot} (h : m_X4_take a1 M = some res) (hp : g_PT xG V M s H locs) (hl : lv_has ls 3 [(0, .ref (V.2.2 23)), (1, .int (gI a1))]) : W p l e R s m args below meth c H locs 0 0 Q (F0 m 0 ls []) := by
  unfold m_X4_take at h
  refine r_bipush C dX4_take_0 (by decide +kernel) ?_
  refine r_istore_n (lv' := fun x11 => [(2, .int (gI x11)), (0, .ref (V.2.2 23)), (1, .int (gI a1))]) C h dX4_take_2 rfl hl (by decide) (fun _ => rfl) (fun x11 ls h hl => ?_)
  refine w_X4_take_L3 C hR _ _ _ _ H locs ls h hp (lv_sub hl [1, 2, 0] rfl)
theorem c_X4_take (l : Launch) {V : g_V} (hok : g_ok xG V) {a1 : Int} {M : g_M} {res : g_M} (h : m_X4_take a1 M = some res) : MetV xG V l yX4_take cX4_take 3 none 0 0 [.ref (V.2.2 23), .int (gI a1)] M res :=
  g_metV hok cal_X4_take.2.2.2 rfl (Nat.le_of_ble_eq_true rfl) (@fun p e R s m args below meth c Q ls C hR hp hl => b_X4_take C hR h hp hl)
set_option maxRecDepth 100000 in
set_option maxHeartbeats 4000000 in
theorem b_X4_isLetter (C : g_CX xG V p R s m args meth c cX4_isLetter 1 (some .boolean) RX4 0 0) {res : Int} {M : g_M} (hR : g_RetI xG V p l e R s m args below meth c Q cX4_isLetter .boolean res M) {a1 : Int} {H : Heap} {locs : List Loc} {ls : Array Slot} (h : m_X4_isLetter a1 = some res) (hp : g_PT xG V M s H locs) (hl : lv_has ls 1 [(0, .int (gI a1))]) : W p l e R s m args below meth c H locs 0 0 Q (F0 m 0 ls []) := by
  unfold m_X4_isLetter at h
  refine r_jn (P := fun J => ∀  (H : Heap) (locs : List Loc) (ls : Array Slot), J  = some res → g_PT xG V M s H locs → lv_has ls 1 [] → W p l e R s m args below meth c H locs 0 0 Q (F0 m 24 ls [])) h ?_ (fun J12 hJ12 h => ?_)
  · intro  H locs ls h hp hl
    refine r_iconst C dX4_isLetter_24 ?_
    refine r_goto (tgt := 29) C dX4_isLetter_25 (by decide) ?_
    cases h
    exact hR _ _ _ _ dX4_isLetter_29 g_nz1 hp
  refine r_jn (P := fun J => ∀  (H : Heap) (locs : List Loc) (ls : Array Slot), J  = some res → g_PT xG V M s H locs → lv_has ls 1 [(0, .int (gI a1))] → W p l e R s m args below meth c H locs 0 0 Q (F0 m 12 ls [])) h ?_ (fun J11 hJ11 h => ?_)
  · intro  H locs ls h hp hl
    refine r_jn (P := fun J => ∀  (H : Heap) (locs : List Loc) (ls : Array Slot), J  = some res → g_PT xG V M s H locs → lv_has ls 1 [] → W p l e R s m args below meth c H locs 0 0 Q (F0 m 28 ls [])) h ?_ (fun J13 hJ13 h => ?_)
    · intro  H locs ls h hp hl
      refine r_iconst C dX4_isLetter_28 ?_
      cases h
      exact hR _ _ _ _ dX4_isLetter_29 g_nz0 hp
    refine lv_iload_n C.1 C.2.1 dX4_isLetter_12 rfl (lv_at hl 0 rfl) ?_
    refine r_bipush C dX4_isLetter_13 (by decide +kernel) ?_
    refine r_icmp_lt (tgt := 28) C h dX4_isLetter_15 (by decide) (fun h => ?_) (fun h => ?_)
    · exact hJ13  _ _ _ h hp (lv_sub hl [] rfl)
    · refine lv_iload_n C.1 C.2.1 dX4_isLetter_18 rfl (lv_at hl 0 rfl) ?_
      refine r_bipush C dX4_isLetter_19 (by decide +kernel) ?_
      refine r_icmp_gt (tgt := 28) C h dX4_isLetter_21 (by decide) (fun h => ?_) (fun h => ?_)
      · exact hJ13  _ _ _ h hp (lv_sub hl [] rfl)
      · exact hJ12  _ _ _ h hp (lv_sub hl [] rfl)
  refine lv_iload_n C.1 C.2.1 dX4_isLetter_0 rfl (lv_at hl 0 rfl) ?_
  refine r_bipush C dX4_isLetter_1 (by decide +kernel) ?_
  refine r_icmp_lt (tgt := 12) C h dX4_isLetter_3 (by decide) (fun h => ?_) (fun h => ?_)
  · exact hJ11  _ _ _ h hp hl
  · refine lv_iload_n C.1 C.2.1 dX4_isLetter_6 rfl (lv_at hl 0 rfl) ?_
    refine r_bipush C dX4_isLetter_7 (by decide +kernel) ?_
    refine r_icmp_le (tgt := 24) C h dX4_isLetter_9 (by decide) (fun h => ?_) (fun h => ?_)
    · exact hJ12  _ _ _ h hp (lv_sub hl [] rfl)
    · exact hJ11  _ _ _ h hp hl
theorem c_X4_isLetter (l : Launch) {V : g_V} (hok : g_ok xG V) {a1 : Int} {M : g_M} {x : Int} (h : m_X4_isLetter a1 = some x) : MetI xG V l yX4_isLetter cX4_isLetter 1 (some .boolean) 0 0 [.int (gI a1)] M x M :=
  g_metI hok cal_X4_isLetter.2.2.2 rfl (Nat.le_of_ble_eq_true rfl) (@fun p e R s m args below meth c Q ls C hR hp hl => b_X4_isLetter C hR h hp hl)
set_option maxRecDepth 100000 in
set_option maxHeartbeats 4000000 in
theorem b_X4_isNumeral (C : g_CX xG V p R s m args meth c cX4_isNumeral 1 (some .boolean) RX4 0 0) {res : Int} {M : g_M} (hR : g_RetI xG V p l e R s m args below meth c Q cX4_isNumeral .boolean res M) {a1 : Int} {H : Heap} {locs : List Loc} {ls : Array Slot} (h : m_X4_isNumeral a1 = some res) (hp : g_PT xG V M s H locs) (hl : lv_has ls 1 [(0, .int (gI a1))]) : W p l e R s m args below meth c H locs 0 0 Q (F0 m 0 ls []) := by
  unfold m_X4_isNumeral at h
  refine r_jn (P := fun J => ∀  (H : Heap) (locs : List Loc) (ls : Array Slot), J  = some res → g_PT xG V M s H locs → lv_has ls 1 [] → W p l e R s m args below meth c H locs 0 0 Q (F0 m 16 ls [])) h ?_ (fun J11 hJ11 h => ?_)
  · intro  H locs ls h hp hl
    refine r_iconst C dX4_isNumeral_16 ?_
    cases h
    exact hR _ _ _ _ dX4_isNumeral_17 g_nz0 hp
  refine lv_iload_n C.1 C.2.1 dX4_isNumeral_0 rfl (lv_at hl 0 rfl) ?_
  refine r_bipush C dX4_isNumeral_1 (by decide +kernel) ?_
  refine r_icmp_lt (tgt := 16) C h dX4_isNumeral_3 (by decide) (fun h => ?_) (fun h => ?_)
  · exact hJ11  _ _ _ h hp (lv_sub hl [] rfl)
  · refine lv_iload_n C.1 C.2.1 dX4_isNumeral_6 rfl (lv_at hl 0 rfl) ?_
    refine r_bipush C dX4_isNumeral_7 (by decide +kernel) ?_
    refine r_icmp_gt (tgt := 16) C h dX4_isNumeral_9 (by decide) (fun h => ?_) (fun h => ?_)
    · exact hJ11  _ _ _ h hp (lv_sub hl [] rfl)
    · refine r_iconst C dX4_isNumeral_12 ?_
      refine r_goto (tgt := 17) C dX4_isNumeral_13 (by decide) ?_
      cases h
      exact hR _ _ _ _ dX4_isNumeral_17 g_nz1 hp
theorem c_X4_isNumeral (l : Launch) {V : g_V} (hok : g_ok xG V) {a1 : Int} {M : g_M} {x : Int} (h : m_X4_isNumeral a1 = some x) : MetI xG V l yX4_isNumeral cX4_isNumeral 1 (some .boolean) 0 0 [.int (gI a1)] M x M :=
  g_metI hok cal_X4_isNumeral.2.2.2 rfl (Nat.le_of_ble_eq_true rfl) (@fun p e R s m args below meth c Q ls C hR hp hl => b_X4_isNumeral C hR h hp hl)
set_option maxRecDepth 100000 in
set_option maxHeartbeats 4000000 in
theorem b_X4_scanSign (C : g_CX xG V p R s m args meth c cX4_scanSign 2 none RX4 8 300) {res : g_M} (hR : g_RetV xG V p l e R s m args below meth c Q cX4_scanSign res)  {M : g_M} {H : Heap} {locs : List Loc} {ls : Array Slot} (h : m_X4_scanSign M = some res) (hp : g_PT xG V M s H locs) (hl : lv_has ls 2 [(0, .ref (V.2.2 23))]) : W p l e R s m args below meth c H locs 0 0 Q (F0 m 0 ls []) := by
  unfold m_X4_scanSign at h
  refine r_jn (P := fun J => ∀ (x13 : Int) (H : Heap) (locs : List Loc) (ls : Array Slot), J x13 = some res → g_PT xG V M s H locs → lv_has ls 2 [(0, .ref (V.2.2 23))] → W p l e R s m args below meth c H locs 0 0 Q (F0 m 30 ls [.int (gI x13), .ref (V.2.2 23)])) h ?_ (fun J11 hJ11 h => ?_)
  · intro x13 H locs ls h hp hl
    refine r_puti C hp h xk_23 xs_23 xc_4 xin_4 tyX4 tyX4_ok nmX4 (j := 7) (by decide) rfl gw_291 rfl rfl rfl dX4_scanSign_30 (fun M14 H locs h hp => ?_)
    refine lv_aload_n C.1 C.2.1 dX4_scanSign_33 rfl (lv_at hl 0 rfl) ?_
    refine lv_dup C.1 C.2.1 dX4_scanSign_34 rfl ?_
    refine r_geti (t := 0) C hp xk_23 xs_23 xc_4 xin_4 (j := 5) (by decide) rfl gw_289 rfl dX4_scanSign_35 ?_
    refine r_iconst C dX4_scanSign_38 ?_
    refine r_iadd C dX4_scanSign_39 ?_
    refine r_puti C hp h xk_23 xs_23 xc_4 xin_4 tyX4 tyX4_ok nmX4 (j := 5) (by decide) rfl gw_289 rfl rfl rfl dX4_scanSign_40 (fun M15 H locs h hp => ?_)
    refine lv_aload_n C.1 C.2.1 dX4_scanSign_43 rfl (lv_at hl 0 rfl) ?_
    refine r_geti (t := 0) C hp xk_23 xs_23 xc_4 xin_4 (j := 5) (by decide) rfl gw_289 rfl dX4_scanSign_44 ?_
    refine lv_aload_n C.1 C.2.1 dX4_scanSign_47 rfl (lv_at hl 0 rfl) ?_
    refine r_geti (t := 0) C hp xk_23 xs_23 xc_4 xin_4 (j := 2) (by decide) rfl gw_283 rfl dX4_scanSign_48 ?_
    refine r_icmp_ge (tgt := 116) C h dX4_scanSign_51 (by decide) (fun h => ?_) (fun h => ?_)
    · cases h
      exact hR _ _ _ _ dX4_scanSign_116 hp
    · refine lv_aload_n C.1 C.2.1 dX4_scanSign_54 rfl (lv_at hl 0 rfl) ?_
      refine r_getr (t := 24) C hp xk_23 xs_23 xc_4 xin_4 (j := 1) (by decide) rfl gw_282 rfl dX4_scanSign_55 ?_
      refine lv_aload_n C.1 C.2.1 dX4_scanSign_58 rfl (lv_at hl 0 rfl) ?_
      refine r_geti (t := 0) C hp xk_23 xs_23 xc_4 xin_4 (j := 5) (by decide) rfl gw_289 rfl dX4_scanSign_59 ?_
      refine r_iald C hp h xk_24 xs_24 dX4_scanSign_62 (fun h => ?_)
      refine r_bipush C dX4_scanSign_63 (by decide +kernel) ?_
      refine r_icmp_ne (tgt := 116) C h dX4_scanSign_65 (by decide) (fun h => ?_) (fun h => ?_)
      · cases h
        exact hR _ _ _ _ dX4_scanSign_116 hp
      · refine r_jn (P := fun J => ∀  (H : Heap) (locs : List Loc) (ls : Array Slot), J  = some res → g_PT xG V M15 s H locs → lv_has ls 2 [(0, .ref (V.2.2 23))] → W p l e R s m args below meth c H locs 0 0 Q (F0 m 86 ls [])) h ?_ (fun J16 hJ16 h => ?_)
        · intro  H locs ls h hp hl
          refine r_jn (P := fun J => ∀ (x18 : Int) (H : Heap) (locs : List Loc) (ls : Array Slot), J x18 = some res → g_PT xG V M15 s H locs → lv_has ls 2 [(0, .ref (V.2.2 23))] → W p l e R s m args below meth c H locs 0 0 Q (F0 m 103 ls [.int (gI x18), .ref (V.2.2 23)])) h ?_ (fun J17 hJ17 h => ?_)
          · intro x18 H locs ls h hp hl
            refine r_puti C hp h xk_23 xs_23 xc_4 xin_4 tyX4 tyX4_ok nmX4 (j := 7) (by decide) rfl gw_291 rfl rfl rfl dX4_scanSign_103 (fun M19 H locs h hp => ?_)
            refine lv_aload_n C.1 C.2.1 dX4_scanSign_106 rfl (lv_at hl 0 rfl) ?_
            refine lv_dup C.1 C.2.1 dX4_scanSign_107 rfl ?_
            refine r_geti (t := 0) C hp xk_23 xs_23 xc_4 xin_4 (j := 5) (by decide) rfl gw_289 rfl dX4_scanSign_108 ?_
            refine r_iconst C dX4_scanSign_111 ?_
            refine r_iadd C dX4_scanSign_112 ?_
            refine r_puti C hp h xk_23 xs_23 xc_4 xin_4 tyX4 tyX4_ok nmX4 (j := 5) (by decide) rfl gw_289 rfl rfl rfl dX4_scanSign_113 (fun M20 H locs h hp => ?_)
            cases h
            exact hR _ _ _ _ dX4_scanSign_116 hp
          refine lv_aload_n C.1 C.2.1 dX4_scanSign_86 rfl (lv_at hl 0 rfl) ?_
          refine lv_aload_n C.1 C.2.1 dX4_scanSign_87 rfl (lv_at hl 0 rfl) ?_
          refine r_geti (t := 0) C hp xk_23 xs_23 xc_4 xin_4 (j := 7) (by decide) rfl gw_291 rfl dX4_scanSign_88 ?_
          refine r_bipush C dX4_scanSign_91 (by decide +kernel) ?_
          refine r_icmp_ne (tgt := 101) C h dX4_scanSign_93 (by decide) (fun h => ?_) (fun h => ?_)
          · refine r_bipush C dX4_scanSign_101 (by decide +kernel) ?_
            exact hJ17 _ _ _ _ h hp hl
          · refine r_bipush C dX4_scanSign_96 (by decide +kernel) ?_
            refine r_goto (tgt := 103) C dX4_scanSign_98 (by decide) ?_
            exact hJ17 _ _ _ _ h hp hl
        refine lv_aload_n C.1 C.2.1 dX4_scanSign_68 rfl (lv_at hl 0 rfl) ?_
        refine r_geti (t := 0) C hp xk_23 xs_23 xc_4 xin_4 (j := 7) (by decide) rfl gw_291 rfl dX4_scanSign_69 ?_
        refine r_bipush C dX4_scanSign_72 (by decide +kernel) ?_
        refine r_icmp_eq (tgt := 86) C h dX4_scanSign_74 (by decide) (fun h => ?_) (fun h => ?_)
        · exact hJ16  _ _ _ h hp hl
        · refine lv_aload_n C.1 C.2.1 dX4_scanSign_77 rfl (lv_at hl 0 rfl) ?_
          refine r_geti (t := 0) C hp xk_23 xs_23 xc_4 xin_4 (j := 7) (by decide) rfl gw_291 rfl dX4_scanSign_78 ?_
          refine r_bipush C dX4_scanSign_81 (by decide +kernel) ?_
          refine r_icmp_ne (tgt := 116) C h dX4_scanSign_83 (by decide) (fun h => ?_) (fun h => ?_)
          · cases h
            exact hR _ _ _ _ dX4_scanSign_116 hp
          · exact hJ16  _ _ _ h hp hl
  obtain ⟨kS, hS, k⟩ := x_str1 C hp dX4_scanSign_0; refine k ?_
  refine lv_aload_n C.1 C.2.1 dX4_scanSign_2 rfl (lv_at hl 0 rfl) ?_
  refine r_getr (t := 24) C hp xk_23 xs_23 xc_4 xin_4 (j := 1) (by decide) rfl gw_282 rfl dX4_scanSign_3 ?_
  refine lv_aload_n C.1 C.2.1 dX4_scanSign_6 rfl (lv_at hl 0 rfl) ?_
  refine r_geti (t := 0) C hp xk_23 xs_23 xc_4 xin_4 (j := 5) (by decide) rfl gw_289 rfl dX4_scanSign_7 ?_
  refine r_iald C hp h xk_24 xs_24 dX4_scanSign_10 (fun h => ?_)
  refine r_i2c C dX4_scanSign_11 ?_
  refine r_sindexOf (rest := []) C hl.1 hp hS (by decide) gw_594 (Nat.le_of_ble_eq_true rfl) ⟨Nat.le_of_ble_eq_true rfl, Nat.le_of_ble_eq_true rfl⟩ dX4_scanSign_12 (fun H locs hp => ?_)
  refine r_istore_n (lv' := fun x12 => [(1, .int (gI x12)), (0, .ref (V.2.2 23))]) C h dX4_scanSign_15 rfl hl (by decide) (fun _ => rfl) (fun x12 ls h hl => ?_)
  refine lv_aload_n C.1 C.2.1 dX4_scanSign_16 rfl (lv_at hl 1 rfl) ?_
  refine lv_iload_n C.1 C.2.1 dX4_scanSign_17 rfl (lv_at hl 0 rfl) ?_
  refine r_if_ge (tgt := 26) C h dX4_scanSign_18 (by decide) (fun h => ?_) (fun h => ?_)
  · refine r_bipush C dX4_scanSign_26 (by decide +kernel) ?_
    refine lv_iload_n C.1 C.2.1 dX4_scanSign_28 rfl (lv_at hl 0 rfl) ?_
    refine r_iadd C dX4_scanSign_29 ?_
    exact hJ11 _ _ _ _ h hp (lv_sub hl [1] rfl)
  · refine r_bipush C dX4_scanSign_21 (by decide +kernel) ?_
    refine r_goto (tgt := 30) C dX4_scanSign_23 (by decide) ?_
    exact hJ11 _ _ _ _ h hp (lv_sub hl [1] rfl)
theorem c_X4_scanSign (l : Launch) {V : g_V} (hok : g_ok xG V)  {M : g_M} {res : g_M} (h : m_X4_scanSign M = some res) : MetV xG V l yX4_scanSign cX4_scanSign 2 none 8 300 [.ref (V.2.2 23)] M res :=
  g_metV hok cal_X4_scanSign.2.2.2 rfl (Nat.le_of_ble_eq_true rfl) (@fun p e R s m args below meth c Q ls C hR hp hl => b_X4_scanSign C hR h hp hl)
set_option maxRecDepth 100000 in
set_option maxHeartbeats 4000000 in
theorem w_X4_scanNumber_L11 (C : g_CX xG V p R s m args meth c cX4_scanNumber 1 none RX4 1 20) {res : g_M} (hR : g_RetV xG V p l e R s m args below meth c Q cX4_scanNumber res)    : ∀ (f : Nat)  (M13 : g_M) (H : Heap) (locs : List Loc) (ls : Array Slot), m_X4_scanNumber_L11  f M13 = some res → g_PT xG V M13 s H locs → lv_has ls 1 [(0, .ref (V.2.2 23))] → W p l e R s m args below meth c H locs 0 0 Q (F0 m 11 ls []) := by
  intro f
  induction f with
  | zero => intro M13 H locs ls h hp hl; cases h
  | succ f ih =>
    intro M13 H locs ls h hp hl
    rw [m_X4_scanNumber_L11] at h
    refine lv_aload_n C.1 C.2.1 dX4_scanNumber_11 rfl (lv_at hl 0 rfl) ?_
    refine r_geti (t := 0) C hp xk_23 xs_23 xc_4 xin_4 (j := 5) (by decide) rfl gw_289 rfl dX4_scanNumber_12 ?_
    refine lv_aload_n C.1 C.2.1 dX4_scanNumber_15 rfl (lv_at hl 0 rfl) ?_
    refine r_geti (t := 0) C hp xk_23 xs_23 xc_4 xin_4 (j := 2) (by decide) rfl gw_283 rfl dX4_scanNumber_16 ?_
    refine r_icmp_ge (tgt := 80) C h dX4_scanNumber_19 (by decide) (fun h => ?_) (fun h => ?_)
    · cases h
      exact hR _ _ _ _ dX4_scanNumber_80 hp
    · refine lv_aload_n C.1 C.2.1 dX4_scanNumber_22 rfl (lv_at hl 0 rfl) ?_
      refine r_getr (t := 24) C hp xk_23 xs_23 xc_4 xin_4 (j := 1) (by decide) rfl gw_282 rfl dX4_scanNumber_23 ?_
      refine lv_aload_n C.1 C.2.1 dX4_scanNumber_26 rfl (lv_at hl 0 rfl) ?_
      refine r_geti (t := 0) C hp xk_23 xs_23 xc_4 xin_4 (j := 5) (by decide) rfl gw_289 rfl dX4_scanNumber_27 ?_
      refine r_iald C hp h xk_24 xs_24 dX4_scanNumber_30 (fun h => ?_)
      obtain ⟨x14, hr, h⟩ := bd_of h
      refine r_callSI (As := [.int (gI (M13 24 (gs (M13 23 5)).toNat))]) (rest := []) C hl.1 hp (c_X4_isNumeral l C.2.2.2.2.2.2.2.2.2.2.2 hr) gw_579 gw_580 cal_X4_isNumeral rfl rfl (Nat.le_of_ble_eq_true rfl) ⟨Nat.le_of_ble_eq_true rfl, Nat.le_of_ble_eq_true rfl⟩ dX4_scanNumber_31 (fun H locs hp => ?_)
      refine r_if_eq (tgt := 80) C h dX4_scanNumber_34 (by decide) (fun h => ?_) (fun h => ?_)
      · cases h
        exact hR _ _ _ _ dX4_scanNumber_80 hp
      · refine lv_aload_n C.1 C.2.1 dX4_scanNumber_37 rfl (lv_at hl 0 rfl) ?_
        refine r_sipush C dX4_scanNumber_38 (by decide +kernel) ?_
        refine lv_aload_n C.1 C.2.1 dX4_scanNumber_41 rfl (lv_at hl 0 rfl) ?_
        refine r_geti (t := 0) C hp xk_23 xs_23 xc_4 xin_4 (j := 8) (by decide) rfl gw_292 rfl dX4_scanNumber_42 ?_
        refine r_bipush C dX4_scanNumber_45 (by decide +kernel) ?_
        refine r_imul C dX4_scanNumber_47 ?_
        refine lv_aload_n C.1 C.2.1 dX4_scanNumber_48 rfl (lv_at hl 0 rfl) ?_
        refine r_getr (t := 24) C hp xk_23 xs_23 xc_4 xin_4 (j := 1) (by decide) rfl gw_282 rfl dX4_scanNumber_49 ?_
        refine lv_aload_n C.1 C.2.1 dX4_scanNumber_52 rfl (lv_at hl 0 rfl) ?_
        refine r_geti (t := 0) C hp xk_23 xs_23 xc_4 xin_4 (j := 5) (by decide) rfl gw_289 rfl dX4_scanNumber_53 ?_
        refine r_iald C hp h xk_24 xs_24 dX4_scanNumber_56 (fun h => ?_)
        refine r_iadd C dX4_scanNumber_57 ?_
        refine r_bipush C dX4_scanNumber_58 (by decide +kernel) ?_
        refine r_isub C dX4_scanNumber_60 ?_
        refine r_mmin C hl.1 gw_586 gw_587 gw_126 gw_588 (Nat.le_of_ble_eq_true rfl) (Nat.le_of_ble_eq_true rfl) dX4_scanNumber_61 ?_
        refine r_puti C hp h xk_23 xs_23 xc_4 xin_4 tyX4 tyX4_ok nmX4 (j := 8) (by decide) rfl gw_292 rfl rfl rfl dX4_scanNumber_64 (fun M15 H locs h hp => ?_)
        refine lv_aload_n C.1 C.2.1 dX4_scanNumber_67 rfl (lv_at hl 0 rfl) ?_
        refine lv_dup C.1 C.2.1 dX4_scanNumber_68 rfl ?_
        refine r_geti (t := 0) C hp xk_23 xs_23 xc_4 xin_4 (j := 5) (by decide) rfl gw_289 rfl dX4_scanNumber_69 ?_
        refine r_iconst C dX4_scanNumber_72 ?_
        refine r_iadd C dX4_scanNumber_73 ?_
        refine r_puti C hp h xk_23 xs_23 xc_4 xin_4 tyX4 tyX4_ok nmX4 (j := 5) (by decide) rfl gw_289 rfl rfl rfl dX4_scanNumber_74 (fun M16 H locs h hp => ?_)
        refine r_goto (tgt := 11) C dX4_scanNumber_77 (by decide) ?_
        exact ih _ _ _ _ h hp hl
set_option maxRecDepth 100000 in
set_option maxHeartbeats 4000000 in
theorem b_X4_scanNumber (C : g_CX xG V p R s m args meth c cX4_scanNumber 1 none RX4 1 20) {res : g_M} (hR : g_RetV xG V p l e R s m args below meth c Q cX4_scanNumber res)  {M : g_M} {H : Heap} {locs : List Loc} {ls : Array Slot} (h : m_X4_scanNumber M = some res) (hp : g_PT xG V M s H locs) (hl : lv_has ls 1 [(0, .ref (V.2.2 23))]) : W p l e R s m args below meth c H locs 0 0 Q (F0 m 0 ls []) := by
  unfold m_X4_scanNumber at h
  refine lv_aload_n C.1 C.2.1 dX4_scanNumber_0 rfl (lv_at hl 0 rfl) ?_
  refine r_bipush C dX4_scanNumber_1 (by decide +kernel) ?_
  refine r_puti C hp h xk_23 xs_23 xc_4 xin_4 tyX4 tyX4_ok nmX4 (j := 7) (by decide) rfl gw_291 rfl rfl rfl dX4_scanNumber_3 (fun M11 H locs h hp => ?_)
  refine lv_aload_n C.1 C.2.1 dX4_scanNumber_6 rfl (lv_at hl 0 rfl) ?_
  refine r_iconst C dX4_scanNumber_7 ?_
  refine r_puti C hp h xk_23 xs_23 xc_4 xin_4 tyX4 tyX4_ok nmX4 (j := 8) (by decide) rfl gw_292 rfl rfl rfl dX4_scanNumber_8 (fun M12 H locs h hp => ?_)
  refine w_X4_scanNumber_L11 C hR _ _ H locs ls h hp hl
theorem c_X4_scanNumber (l : Launch) {V : g_V} (hok : g_ok xG V)  {M : g_M} {res : g_M} (h : m_X4_scanNumber M = some res) : MetV xG V l yX4_scanNumber cX4_scanNumber 1 none 1 20 [.ref (V.2.2 23)] M res :=
  g_metV hok cal_X4_scanNumber.2.2.2 rfl (Nat.le_of_ble_eq_true rfl) (@fun p e R s m args below meth c Q ls C hR hp hl => b_X4_scanNumber C hR h hp hl)
set_option maxRecDepth 100000 in
set_option maxHeartbeats 4000000 in
theorem w_X4_scanWord_L0 (C : g_CX xG V p R s m args meth c cX4_scanWord 5 none RX4 8 300) {res : g_M} (hR : g_RetV xG V p l e R s m args below meth c Q cX4_scanWord res)  (k12 : g_M → Option (g_M)) (hk12 : ∀ (M15 : g_M) (H : Heap) (locs : List Loc) (ls : Array Slot), k12 M15 = some res → g_PT xG V M15 s H locs → lv_has ls 5 [(0, .ref (V.2.2 23))] → W p l e R s m args below meth c H locs 0 0 Q (F0 m 39 ls [])) : ∀ (f : Nat)  (M11 : g_M) (H : Heap) (locs : List Loc) (ls : Array Slot), m_X4_scanWord_L0 k12 f M11 = some res → g_PT xG V M11 s H locs → lv_has ls 5 [(0, .ref (V.2.2 23))] → W p l e R s m args below meth c H locs 0 0 Q (F0 m 0 ls []) := by
  intro f
  induction f with
  | zero => intro M11 H locs ls h hp hl; cases h
  | succ f ih =>
    intro M11 H locs ls h hp hl
    rw [m_X4_scanWord_L0] at h
    refine lv_aload_n C.1 C.2.1 dX4_scanWord_0 rfl (lv_at hl 0 rfl) ?_
    refine r_geti (t := 0) C hp xk_23 xs_23 xc_4 xin_4 (j := 5) (by decide) rfl gw_289 rfl dX4_scanWord_1 ?_
    refine lv_aload_n C.1 C.2.1 dX4_scanWord_4 rfl (lv_at hl 0 rfl) ?_
    refine r_geti (t := 0) C hp xk_23 xs_23 xc_4 xin_4 (j := 2) (by decide) rfl gw_283 rfl dX4_scanWord_5 ?_
    refine r_icmp_ge (tgt := 39) C h dX4_scanWord_8 (by decide) (fun h => ?_) (fun h => ?_)
    · exact hk12 _ _ _ _ h hp hl
    · refine lv_aload_n C.1 C.2.1 dX4_scanWord_11 rfl (lv_at hl 0 rfl) ?_
      refine r_getr (t := 24) C hp xk_23 xs_23 xc_4 xin_4 (j := 1) (by decide) rfl gw_282 rfl dX4_scanWord_12 ?_
      refine lv_aload_n C.1 C.2.1 dX4_scanWord_15 rfl (lv_at hl 0 rfl) ?_
      refine r_geti (t := 0) C hp xk_23 xs_23 xc_4 xin_4 (j := 5) (by decide) rfl gw_289 rfl dX4_scanWord_16 ?_
      refine r_iald C hp h xk_24 xs_24 dX4_scanWord_19 (fun h => ?_)
      obtain ⟨x13, hr, h⟩ := bd_of h
      refine r_callSI (As := [.int (gI (M11 24 (gs (M11 23 5)).toNat))]) (rest := []) C hl.1 hp (c_X4_isLetter l C.2.2.2.2.2.2.2.2.2.2.2 hr) gw_523 gw_524 cal_X4_isLetter rfl rfl (Nat.le_of_ble_eq_true rfl) ⟨Nat.le_of_ble_eq_true rfl, Nat.le_of_ble_eq_true rfl⟩ dX4_scanWord_20 (fun H locs hp => ?_)
      refine r_if_eq (tgt := 39) C h dX4_scanWord_23 (by decide) (fun h => ?_) (fun h => ?_)
      · exact hk12 _ _ _ _ h hp hl
      · refine lv_aload_n C.1 C.2.1 dX4_scanWord_26 rfl (lv_at hl 0 rfl) ?_
        refine lv_dup C.1 C.2.1 dX4_scanWord_27 rfl ?_
        refine r_geti (t := 0) C hp xk_23 xs_23 xc_4 xin_4 (j := 5) (by decide) rfl gw_289 rfl dX4_scanWord_28 ?_
        refine r_iconst C dX4_scanWord_31 ?_
        refine r_iadd C dX4_scanWord_32 ?_
        refine r_puti C hp h xk_23 xs_23 xc_4 xin_4 tyX4 tyX4_ok nmX4 (j := 5) (by decide) rfl gw_289 rfl rfl rfl dX4_scanWord_33 (fun M14 H locs h hp => ?_)
        refine r_goto (tgt := 0) C dX4_scanWord_36 (by decide) ?_
        exact ih _ _ _ _ h hp hl
set_option maxRecDepth 100000 in
set_option maxHeartbeats 4000000 in
theorem w_X4_scanWord_L54 (C : g_CX xG V p R s m args meth c cX4_scanWord 5 none RX4 8 300) {res : g_M} (hR : g_RetV xG V p l e R s m args below meth c Q cX4_scanWord res)    : ∀ (f : Nat) (x21 : Int) (x22 : Int) (x23 : Int) (M24 : g_M) (H : Heap) (locs : List Loc) (ls : Array Slot), m_X4_scanWord_L54  f x21 x22 x23 M24 = some res → g_PT xG V M24 s H locs → lv_has ls 5 [(0, .ref (V.2.2 23)), (1, .int (gI x21)), (2, .int (gI x22)), (3, .int (gI x23))] → W p l e R s m args below meth c H locs 0 0 Q (F0 m 54 ls []) := by
  intro f
  induction f with
  | zero => intro x21 x22 x23 M24 H locs ls h hp hl; cases h
  | succ f ih =>
    intro x21 x22 x23 M24 H locs ls h hp hl
    rw [m_X4_scanWord_L54] at h
    refine lv_iload_n C.1 C.2.1 dX4_scanWord_54 rfl (lv_at hl 3 rfl) ?_
    obtain ⟨kS, hS, k⟩ := x_str0 C hp dX4_scanWord_55; refine k ?_
    refine r_slength (rest := [.int (gI x23)]) C hl.1 hp hS (by decide) gw_531 (Nat.le_of_ble_eq_true rfl) ⟨Nat.le_of_ble_eq_true rfl, Nat.le_of_ble_eq_true rfl⟩ dX4_scanWord_57 (fun H locs hp => ?_)
    refine r_icmp_ge (tgt := 157) C h dX4_scanWord_60 (by decide) (fun h => ?_) (fun h => ?_)
    · cases h
      exact hR _ _ _ _ dX4_scanWord_157 hp
    · refine lv_aload_n C.1 C.2.1 dX4_scanWord_63 rfl (lv_at hl 0 rfl) ?_
      refine r_geti (t := 0) C hp xk_23 xs_23 xc_4 xin_4 (j := 7) (by decide) rfl gw_291 rfl dX4_scanWord_64 ?_
      refine r_bipush C dX4_scanWord_67 (by decide +kernel) ?_
      refine r_icmp_ne (tgt := 157) C h dX4_scanWord_69 (by decide) (fun h => ?_) (fun h => ?_)
      · cases h
        exact hR _ _ _ _ dX4_scanWord_157 hp
      · refine r_jn (P := fun J => ∀ (x36 : Int) (x37 : Int) (M38 : g_M) (H : Heap) (locs : List Loc) (ls : Array Slot), J x36 x37 M38 = some res → g_PT xG V M38 s H locs → lv_has ls 5 [(0, .ref (V.2.2 23)), (1, .int (gI x36)), (2, .int (gI x37)), (3, .int (gI x23))] → W p l e R s m args below meth c H locs 0 0 Q (F0 m 151 ls [])) h ?_ (fun J25 hJ25 h => ?_)
        · intro x36 x37 M38 H locs ls h hp hl
          refine r_iinc (lv' := fun x39 => [(3, .int (gI x39)), (0, .ref (V.2.2 23)), (1, .int (gI x36)), (2, .int (gI x37))]) C h dX4_scanWord_151 hl (j := 3) rfl (by decide) (fun _ => rfl) (fun x39 ls h hl => ?_)
          refine r_goto (tgt := 54) C dX4_scanWord_154 (by decide) ?_
          exact ih _ _ _ _ _ _ _ h hp (lv_sub hl [1, 2, 3, 0] rfl)
        obtain ⟨kS, hS, k⟩ := x_str0 C hp dX4_scanWord_72; refine k ?_
        refine lv_iload_n C.1 C.2.1 dX4_scanWord_74 rfl (lv_at hl 3 rfl) ?_
        refine r_scharAt (rest := []) C hl.1 hp h hS (by decide) gw_541 (Nat.le_of_ble_eq_true rfl) ⟨Nat.le_of_ble_eq_true rfl, Nat.le_of_ble_eq_true rfl⟩ dX4_scanWord_75 (fun h H locs hp => ?_)
        refine r_istore (lv' := fun x26 => [(4, .int (gI x26)), (0, .ref (V.2.2 23)), (1, .int (gI x21)), (2, .int (gI x22)), (3, .int (gI x23))]) C h dX4_scanWord_78 hl (by decide) (fun _ => rfl) (fun x26 ls h hl => ?_)
        refine lv_iload C.1 C.2.1 dX4_scanWord_80 (lv_at hl 0 rfl) ?_
        refine r_bipush C dX4_scanWord_82 (by decide +kernel) ?_
        refine r_icmp_ne (tgt := 116) C h dX4_scanWord_84 (by decide) (fun h => ?_) (fun h => ?_)
        · refine r_jn (P := fun J => ∀ (x29 : Int) (H : Heap) (locs : List Loc) (ls : Array Slot), J x29 = some res → g_PT xG V M24 s H locs → lv_has ls 5 [(0, .ref (V.2.2 23)), (1, .int (gI x21)), (3, .int (gI x23))] → W p l e R s m args below meth c H locs 0 0 Q (F0 m 150 ls [.int (gI x29)])) h ?_ (fun J28 hJ28 h => ?_)
          · intro x29 H locs ls h hp hl
            refine r_istore_n (lv' := fun x30 => [(2, .int (gI x30)), (0, .ref (V.2.2 23)), (1, .int (gI x21)), (3, .int (gI x23))]) C h dX4_scanWord_150 rfl hl (by decide) (fun _ => rfl) (fun x30 ls h hl => ?_)
            exact hJ25 _ _ _ _ _ _ h hp (lv_sub hl [1, 2, 0, 3] rfl)
          refine r_jn (P := fun J => ∀  (H : Heap) (locs : List Loc) (ls : Array Slot), J  = some res → g_PT xG V M24 s H locs → lv_has ls 5 [(0, .ref (V.2.2 23)), (1, .int (gI x21)), (3, .int (gI x23))] → W p l e R s m args below meth c H locs 0 0 Q (F0 m 149 ls [])) h ?_ (fun J27 hJ27 h => ?_)
          · intro  H locs ls h hp hl
            refine r_iconst C dX4_scanWord_149 ?_
            exact hJ28 _ _ _ _ h hp hl
          refine lv_iload_n C.1 C.2.1 dX4_scanWord_116 rfl (lv_at hl 3 rfl) ?_
          refine lv_aload_n C.1 C.2.1 dX4_scanWord_117 rfl (lv_at hl 1 rfl) ?_
          refine r_geti (t := 0) C hp xk_23 xs_23 xc_4 xin_4 (j := 6) (by decide) rfl gw_290 rfl dX4_scanWord_118 ?_
          refine r_icmp_lt (tgt := 149) C h dX4_scanWord_121 (by decide) (fun h => ?_) (fun h => ?_)
          · exact hJ27  _ _ _ h hp (lv_sub hl [1, 2, 4] rfl)
          · refine lv_iload_n C.1 C.2.1 dX4_scanWord_124 rfl (lv_at hl 3 rfl) ?_
            refine lv_aload_n C.1 C.2.1 dX4_scanWord_125 rfl (lv_at hl 1 rfl) ?_
            refine r_geti (t := 0) C hp xk_23 xs_23 xc_4 xin_4 (j := 5) (by decide) rfl gw_289 rfl dX4_scanWord_126 ?_
            refine r_icmp_ge (tgt := 149) C h dX4_scanWord_129 (by decide) (fun h => ?_) (fun h => ?_)
            · exact hJ27  _ _ _ h hp (lv_sub hl [1, 2, 4] rfl)
            · refine lv_aload_n C.1 C.2.1 dX4_scanWord_132 rfl (lv_at hl 1 rfl) ?_
              refine r_getr (t := 24) C hp xk_23 xs_23 xc_4 xin_4 (j := 1) (by decide) rfl gw_282 rfl dX4_scanWord_133 ?_
              refine lv_iload_n C.1 C.2.1 dX4_scanWord_136 rfl (lv_at hl 3 rfl) ?_
              refine r_iald C hp h xk_24 xs_24 dX4_scanWord_137 (fun h => ?_)
              refine lv_iload C.1 C.2.1 dX4_scanWord_138 (lv_at hl 0 rfl) ?_
              refine r_icmp_ne (tgt := 149) C h dX4_scanWord_140 (by decide) (fun h => ?_) (fun h => ?_)
              · exact hJ27  _ _ _ h hp (lv_sub hl [1, 2, 4] rfl)
              · refine lv_iload_n C.1 C.2.1 dX4_scanWord_143 rfl (lv_at hl 3 rfl) ?_
                refine r_iconst C dX4_scanWord_144 ?_
                refine r_iadd C dX4_scanWord_145 ?_
                refine r_goto (tgt := 150) C dX4_scanWord_146 (by decide) ?_
                exact hJ28 _ _ _ _ h hp (lv_sub hl [1, 2, 4] rfl)
        · refine r_jn (P := fun J => ∀ (x32 : Int) (H : Heap) (locs : List Loc) (ls : Array Slot), J x32 = some res → g_PT xG V M24 s H locs → lv_has ls 5 [(0, .ref (V.2.2 23)), (1, .int (gI x21)), (3, .int (gI x23))] → W p l e R s m args below meth c H locs 0 0 Q (F0 m 102 ls [.int (gI x32), .ref (V.2.2 23)])) h ?_ (fun J31 hJ31 h => ?_)
          · intro x32 H locs ls h hp hl
            refine r_puti C hp h xk_23 xs_23 xc_4 xin_4 tyX4 tyX4_ok nmX4 (j := 7) (by decide) rfl gw_291 rfl rfl rfl dX4_scanWord_102 (fun M33 H locs h hp => ?_)
            refine r_iinc (lv' := fun x34 => [(1, .int (gI x34)), (0, .ref (V.2.2 23)), (3, .int (gI x23))]) C h dX4_scanWord_105 hl (j := 1) rfl (by decide) (fun _ => rfl) (fun x34 ls h hl => ?_)
            refine lv_aload_n C.1 C.2.1 dX4_scanWord_108 rfl (lv_at hl 1 rfl) ?_
            refine r_geti (t := 0) C hp xk_23 xs_23 xc_4 xin_4 (j := 6) (by decide) rfl gw_290 rfl dX4_scanWord_109 ?_
            refine r_istore_n (lv' := fun x35 => [(2, .int (gI x35)), (1, .int (gI x34)), (0, .ref (V.2.2 23)), (3, .int (gI x23))]) C h dX4_scanWord_112 rfl hl (by decide) (fun _ => rfl) (fun x35 ls h hl => ?_)
            refine r_goto (tgt := 151) C dX4_scanWord_113 (by decide) ?_
            exact hJ25 _ _ _ _ _ _ h hp (lv_sub hl [2, 1, 0, 3] rfl)
          refine lv_aload_n C.1 C.2.1 dX4_scanWord_87 rfl (lv_at hl 1 rfl) ?_
          refine lv_iload_n C.1 C.2.1 dX4_scanWord_88 rfl (lv_at hl 3 rfl) ?_
          refine lv_aload_n C.1 C.2.1 dX4_scanWord_89 rfl (lv_at hl 1 rfl) ?_
          refine r_geti (t := 0) C hp xk_23 xs_23 xc_4 xin_4 (j := 5) (by decide) rfl gw_289 rfl dX4_scanWord_90 ?_
          refine r_icmp_ne (tgt := 100) C h dX4_scanWord_93 (by decide) (fun h => ?_) (fun h => ?_)
          · refine r_bipush C dX4_scanWord_100 (by decide +kernel) ?_
            exact hJ31 _ _ _ _ h hp (lv_sub hl [1, 2, 4] rfl)
          · refine lv_iload_n C.1 C.2.1 dX4_scanWord_96 rfl (lv_at hl 2 rfl) ?_
            refine r_goto (tgt := 102) C dX4_scanWord_97 (by decide) ?_
            exact hJ31 _ _ _ _ h hp (lv_sub hl [1, 2, 4] rfl)
set_option maxRecDepth 100000 in
set_option maxHeartbeats 4000000 in
theorem b_X4_scanWord (C : g_CX xG V p R s m args meth c cX4_scanWord 5 none RX4 8 300) {res : g_M} (hR : g_RetV xG V p l e R s m args below meth c Q cX4_scanWord res)  {M : g_M} {H : Heap} {locs : List Loc} {ls : Array Slot} (h : m_X4_scanWord M = some res) (hp : g_PT xG V M s H locs) (hl : lv_has ls 5 [(0, .ref (V.2.2 23))]) : W p l e R s m args below meth c H locs 0 0 Q (F0 m 0 ls []) := by
  unfold m_X4_scanWord at h
  refine w_X4_scanWord_L0 C hR _ ?_ _ _ H locs ls h hp hl
  · intro M16 H locs ls h hp hl
    refine lv_aload_n C.1 C.2.1 dX4_scanWord_39 rfl (lv_at hl 0 rfl) ?_
    refine r_bipush C dX4_scanWord_40 (by decide +kernel) ?_
    refine r_puti C hp h xk_23 xs_23 xc_4 xin_4 tyX4 tyX4_ok nmX4 (j := 7) (by decide) rfl gw_291 rfl rfl rfl dX4_scanWord_42 (fun M17 H locs h hp => ?_)
    refine r_iconst C dX4_scanWord_45 ?_
    refine r_istore_n (lv' := fun x18 => [(1, .int (gI x18)), (0, .ref (V.2.2 23))]) C h dX4_scanWord_46 rfl hl (by decide) (fun _ => rfl) (fun x18 ls h hl => ?_)
    refine lv_aload_n C.1 C.2.1 dX4_scanWord_47 rfl (lv_at hl 1 rfl) ?_
    refine r_geti (t := 0) C hp xk_23 xs_23 xc_4 xin_4 (j := 6) (by decide) rfl gw_290 rfl dX4_scanWord_48 ?_
    refine r_istore_n (lv' := fun x19 => [(2, .int (gI x19)), (1, .int (gI x18)), (0, .ref (V.2.2 23))]) C h dX4_scanWord_51 rfl hl (by decide) (fun _ => rfl) (fun x19 ls h hl => ?_)
    refine r_iconst C dX4_scanWord_52 ?_
    refine r_istore_n (lv' := fun x20 => [(3, .int (gI x20)), (2, .int (gI x19)), (1, .int (gI x18)), (0, .ref (V.2.2 23))]) C h dX4_scanWord_53 rfl hl (by decide) (fun _ => rfl) (fun x20 ls h hl => ?_)
    refine w_X4_scanWord_L54 C hR _ _ _ _ _ H locs ls h hp (lv_sub hl [3, 2, 1, 0] rfl)
theorem c_X4_scanWord (l : Launch) {V : g_V} (hok : g_ok xG V)  {M : g_M} {res : g_M} (h : m_X4_scanWord M = some res) : MetV xG V l yX4_scanWord cX4_scanWord 5 none 8 300 [.ref (V.2.2 23)] M res :=
  g_metV hok cal_X4_scanWord.2.2.2 rfl (Nat.le_of_ble_eq_true rfl) (@fun p e R s m args below meth c Q ls C hR hp hl => b_X4_scanWord C hR h hp hl)
set_option maxRecDepth 100000 in
set_option maxHeartbeats 4000000 in
theorem w_X4_advance_L0 (C : g_CX xG V p R s m args meth c cX4_advance 1 none RX4 9 324) {res : g_M} (hR : g_RetV xG V p l e R s m args below meth c Q cX4_advance res)  (k12 : g_M → Option (g_M)) (hk12 : ∀ (M15 : g_M) (H : Heap) (locs : List Loc) (ls : Array Slot), k12 M15 = some res → g_PT xG V M15 s H locs → lv_has ls 1 [(0, .ref (V.2.2 23))] → W p l e R s m args below meth c H locs 0 0 Q (F0 m 52 ls [])) : ∀ (f : Nat)  (M11 : g_M) (H : Heap) (locs : List Loc) (ls : Array Slot), m_X4_advance_L0 k12 f M11 = some res → g_PT xG V M11 s H locs → lv_has ls 1 [(0, .ref (V.2.2 23))] → W p l e R s m args below meth c H locs 0 0 Q (F0 m 0 ls []) := by
  intro f
  induction f with
  | zero => intro M11 H locs ls h hp hl; cases h
  | succ f ih =>
    intro M11 H locs ls h hp hl
    rw [m_X4_advance_L0] at h
    refine lv_aload_n C.1 C.2.1 dX4_advance_0 rfl (lv_at hl 0 rfl) ?_
    refine r_geti (t := 0) C hp xk_23 xs_23 xc_4 xin_4 (j := 5) (by decide) rfl gw_289 rfl dX4_advance_1 ?_
    refine lv_aload_n C.1 C.2.1 dX4_advance_4 rfl (lv_at hl 0 rfl) ?_
    refine r_geti (t := 0) C hp xk_23 xs_23 xc_4 xin_4 (j := 2) (by decide) rfl gw_283 rfl dX4_advance_5 ?_
    refine r_icmp_ge (tgt := 52) C h dX4_advance_8 (by decide) (fun h => ?_) (fun h => ?_)
    · exact hk12 _ _ _ _ h hp hl
    · refine r_jn (P := fun J => ∀  (H : Heap) (locs : List Loc) (ls : Array Slot), J  = some res → g_PT xG V M11 s H locs → lv_has ls 1 [(0, .ref (V.2.2 23))] → W p l e R s m args below meth c H locs 0 0 Q (F0 m 39 ls [])) h ?_ (fun J13 hJ13 h => ?_)
      · intro  H locs ls h hp hl
        refine lv_aload_n C.1 C.2.1 dX4_advance_39 rfl (lv_at hl 0 rfl) ?_
        refine lv_dup C.1 C.2.1 dX4_advance_40 rfl ?_
        refine r_geti (t := 0) C hp xk_23 xs_23 xc_4 xin_4 (j := 5) (by decide) rfl gw_289 rfl dX4_advance_41 ?_
        refine r_iconst C dX4_advance_44 ?_
        refine r_iadd C dX4_advance_45 ?_
        refine r_puti C hp h xk_23 xs_23 xc_4 xin_4 tyX4 tyX4_ok nmX4 (j := 5) (by decide) rfl gw_289 rfl rfl rfl dX4_advance_46 (fun M14 H locs h hp => ?_)
        refine r_goto (tgt := 0) C dX4_advance_49 (by decide) ?_
        exact ih _ _ _ _ h hp hl
      refine lv_aload_n C.1 C.2.1 dX4_advance_11 rfl (lv_at hl 0 rfl) ?_
      refine r_getr (t := 24) C hp xk_23 xs_23 xc_4 xin_4 (j := 1) (by decide) rfl gw_282 rfl dX4_advance_12 ?_
      refine lv_aload_n C.1 C.2.1 dX4_advance_15 rfl (lv_at hl 0 rfl) ?_
      refine r_geti (t := 0) C hp xk_23 xs_23 xc_4 xin_4 (j := 5) (by decide) rfl gw_289 rfl dX4_advance_16 ?_
      refine r_iald C hp h xk_24 xs_24 dX4_advance_19 (fun h => ?_)
      refine r_bipush C dX4_advance_20 (by decide +kernel) ?_
      refine r_icmp_eq (tgt := 39) C h dX4_advance_22 (by decide) (fun h => ?_) (fun h => ?_)
      · exact hJ13  _ _ _ h hp hl
      · refine lv_aload_n C.1 C.2.1 dX4_advance_25 rfl (lv_at hl 0 rfl) ?_
        refine r_getr (t := 24) C hp xk_23 xs_23 xc_4 xin_4 (j := 1) (by decide) rfl gw_282 rfl dX4_advance_26 ?_
        refine lv_aload_n C.1 C.2.1 dX4_advance_29 rfl (lv_at hl 0 rfl) ?_
        refine r_geti (t := 0) C hp xk_23 xs_23 xc_4 xin_4 (j := 5) (by decide) rfl gw_289 rfl dX4_advance_30 ?_
        refine r_iald C hp h xk_24 xs_24 dX4_advance_33 (fun h => ?_)
        refine r_bipush C dX4_advance_34 (by decide +kernel) ?_
        refine r_icmp_ne (tgt := 52) C h dX4_advance_36 (by decide) (fun h => ?_) (fun h => ?_)
        · exact hk12 _ _ _ _ h hp hl
        · exact hJ13  _ _ _ h hp hl
set_option maxRecDepth 100000 in
set_option maxHeartbeats 4000000 in
theorem b_X4_advance (C : g_CX xG V p R s m args meth c cX4_advance 1 none RX4 9 324) {res : g_M} (hR : g_RetV xG V p l e R s m args below meth c Q cX4_advance res)  {M : g_M} {H : Heap} {locs : List Loc} {ls : Array Slot} (h : m_X4_advance M = some res) (hp : g_PT xG V M s H locs) (hl : lv_has ls 1 [(0, .ref (V.2.2 23))]) : W p l e R s m args below meth c H locs 0 0 Q (F0 m 0 ls []) := by
  unfold m_X4_advance at h
  refine w_X4_advance_L0 C hR _ ?_ _ _ H locs ls h hp hl
  · intro M16 H locs ls h hp hl
    refine lv_aload_n C.1 C.2.1 dX4_advance_52 rfl (lv_at hl 0 rfl) ?_
    refine lv_aload_n C.1 C.2.1 dX4_advance_53 rfl (lv_at hl 0 rfl) ?_
    refine r_geti (t := 0) C hp xk_23 xs_23 xc_4 xin_4 (j := 5) (by decide) rfl gw_289 rfl dX4_advance_54 ?_
    refine r_puti C hp h xk_23 xs_23 xc_4 xin_4 tyX4 tyX4_ok nmX4 (j := 6) (by decide) rfl gw_290 rfl rfl rfl dX4_advance_57 (fun M17 H locs h hp => ?_)
    refine lv_aload_n C.1 C.2.1 dX4_advance_60 rfl (lv_at hl 0 rfl) ?_
    refine r_geti (t := 0) C hp xk_23 xs_23 xc_4 xin_4 (j := 5) (by decide) rfl gw_289 rfl dX4_advance_61 ?_
    refine lv_aload_n C.1 C.2.1 dX4_advance_64 rfl (lv_at hl 0 rfl) ?_
    refine r_geti (t := 0) C hp xk_23 xs_23 xc_4 xin_4 (j := 2) (by decide) rfl gw_283 rfl dX4_advance_65 ?_
    refine r_icmp_lt (tgt := 80) C h dX4_advance_68 (by decide) (fun h => ?_) (fun h => ?_)
    · refine lv_aload_n C.1 C.2.1 dX4_advance_80 rfl (lv_at hl 0 rfl) ?_
      refine r_getr (t := 24) C hp xk_23 xs_23 xc_4 xin_4 (j := 1) (by decide) rfl gw_282 rfl dX4_advance_81 ?_
      refine lv_aload_n C.1 C.2.1 dX4_advance_84 rfl (lv_at hl 0 rfl) ?_
      refine r_geti (t := 0) C hp xk_23 xs_23 xc_4 xin_4 (j := 5) (by decide) rfl gw_289 rfl dX4_advance_85 ?_
      refine r_iald C hp h xk_24 xs_24 dX4_advance_88 (fun h => ?_)
      obtain ⟨x18, hr, h⟩ := bd_of h
      refine r_callSI (As := [.int (gI (M17 24 (gs (M17 23 5)).toNat))]) (rest := []) C hl.1 hp (c_X4_isLetter l C.2.2.2.2.2.2.2.2.2.2.2 hr) gw_523 gw_524 cal_X4_isLetter rfl rfl (Nat.le_of_ble_eq_true rfl) ⟨Nat.le_of_ble_eq_true rfl, Nat.le_of_ble_eq_true rfl⟩ dX4_advance_89 (fun H locs hp => ?_)
      refine r_if_eq (tgt := 102) C h dX4_advance_92 (by decide) (fun h => ?_) (fun h => ?_)
      · refine lv_aload_n C.1 C.2.1 dX4_advance_102 rfl (lv_at hl 0 rfl) ?_
        refine r_getr (t := 24) C hp xk_23 xs_23 xc_4 xin_4 (j := 1) (by decide) rfl gw_282 rfl dX4_advance_103 ?_
        refine lv_aload_n C.1 C.2.1 dX4_advance_106 rfl (lv_at hl 0 rfl) ?_
        refine r_geti (t := 0) C hp xk_23 xs_23 xc_4 xin_4 (j := 5) (by decide) rfl gw_289 rfl dX4_advance_107 ?_
        refine r_iald C hp h xk_24 xs_24 dX4_advance_110 (fun h => ?_)
        obtain ⟨x19, hr, h⟩ := bd_of h
        refine r_callSI (As := [.int (gI (M17 24 (gs (M17 23 5)).toNat))]) (rest := []) C hl.1 hp (c_X4_isNumeral l C.2.2.2.2.2.2.2.2.2.2.2 hr) gw_579 gw_580 cal_X4_isNumeral rfl rfl (Nat.le_of_ble_eq_true rfl) ⟨Nat.le_of_ble_eq_true rfl, Nat.le_of_ble_eq_true rfl⟩ dX4_advance_111 (fun H locs hp => ?_)
        refine r_if_eq (tgt := 124) C h dX4_advance_114 (by decide) (fun h => ?_) (fun h => ?_)
        · refine lv_aload_n C.1 C.2.1 dX4_advance_124 rfl (lv_at hl 0 rfl) ?_
          obtain ⟨M20, hr, h⟩ := bd_of h
          refine r_callVV (As := []) (rest := []) C hl.1 hp (c_X4_scanSign l C.2.2.2.2.2.2.2.2.2.2.2 hr) gw_589 gw_591 gw_4 xk_23 xs_23 xc_4 cal_X4_scanSign rfl rfl (Nat.le_of_ble_eq_true rfl) ⟨Nat.le_of_ble_eq_true rfl, Nat.le_of_ble_eq_true rfl⟩ dX4_advance_125 (fun H locs hp => ?_)
          cases h
          exact hR _ _ _ _ dX4_advance_128 hp
        · refine lv_aload_n C.1 C.2.1 dX4_advance_117 rfl (lv_at hl 0 rfl) ?_
          obtain ⟨M21, hr, h⟩ := bd_of h
          refine r_callVV (As := []) (rest := []) C hl.1 hp (c_X4_scanNumber l C.2.2.2.2.2.2.2.2.2.2.2 hr) gw_582 gw_584 gw_3 xk_23 xs_23 xc_4 cal_X4_scanNumber rfl rfl (Nat.le_of_ble_eq_true rfl) ⟨Nat.le_of_ble_eq_true rfl, Nat.le_of_ble_eq_true rfl⟩ dX4_advance_118 (fun H locs hp => ?_)
          refine r_goto (tgt := 128) C dX4_advance_121 (by decide) ?_
          cases h
          exact hR _ _ _ _ dX4_advance_128 hp
      · refine lv_aload_n C.1 C.2.1 dX4_advance_95 rfl (lv_at hl 0 rfl) ?_
        obtain ⟨M22, hr, h⟩ := bd_of h
        refine r_callVV (As := []) (rest := []) C hl.1 hp (c_X4_scanWord l C.2.2.2.2.2.2.2.2.2.2.2 hr) gw_526 gw_528 gw_2 xk_23 xs_23 xc_4 cal_X4_scanWord rfl rfl (Nat.le_of_ble_eq_true rfl) ⟨Nat.le_of_ble_eq_true rfl, Nat.le_of_ble_eq_true rfl⟩ dX4_advance_96 (fun H locs hp => ?_)
        refine r_goto (tgt := 128) C dX4_advance_99 (by decide) ?_
        cases h
        exact hR _ _ _ _ dX4_advance_128 hp
    · refine lv_aload_n C.1 C.2.1 dX4_advance_71 rfl (lv_at hl 0 rfl) ?_
      refine r_bipush C dX4_advance_72 (by decide +kernel) ?_
      refine r_puti C hp h xk_23 xs_23 xc_4 xin_4 tyX4 tyX4_ok nmX4 (j := 7) (by decide) rfl gw_291 rfl rfl rfl dX4_advance_74 (fun M23 H locs h hp => ?_)
      refine r_goto (tgt := 128) C dX4_advance_77 (by decide) ?_
      cases h
      exact hR _ _ _ _ dX4_advance_128 hp
theorem c_X4_advance (l : Launch) {V : g_V} (hok : g_ok xG V)  {M : g_M} {res : g_M} (h : m_X4_advance M = some res) : MetV xG V l yX4_advance cX4_advance 1 none 9 324 [.ref (V.2.2 23)] M res :=
  g_metV hok cal_X4_advance.2.2.2 rfl (Nat.le_of_ble_eq_true rfl) (@fun p e R s m args below meth c Q ls C hR hp hl => b_X4_advance C hR h hp hl)
set_option maxRecDepth 100000 in
set_option maxHeartbeats 4000000 in
theorem b_X4_wrong (C : g_CX xG V p R s m args meth c cX4_wrong 2 (some .boolean) RX4 0 0) {res : Int × g_M} (hR : g_RetI xG V p l e R s m args below meth c Q cX4_wrong .boolean res.1 res.2) {a1 : Int} {M : g_M} {H : Heap} {locs : List Loc} {ls : Array Slot} (h : m_X4_wrong a1 M = some res) (hp : g_PT xG V M s H locs) (hl : lv_has ls 2 [(0, .ref (V.2.2 23)), (1, .int (gI a1))]) : W p l e R s m args below meth c H locs 0 0 Q (F0 m 0 ls []) := by
  unfold m_X4_wrong at h
  refine lv_aload_n C.1 C.2.1 dX4_wrong_0 rfl (lv_at hl 0 rfl) ?_
  refine lv_iload_n C.1 C.2.1 dX4_wrong_1 rfl (lv_at hl 1 rfl) ?_
  refine r_puti C hp h xk_23 xs_23 xc_4 xin_4 tyX4 tyX4_ok nmX4 (j := 3) (by decide) rfl gw_285 rfl rfl rfl dX4_wrong_2 (fun M11 H locs h hp => ?_)
  refine lv_aload_n C.1 C.2.1 dX4_wrong_5 rfl (lv_at hl 0 rfl) ?_
  refine lv_aload_n C.1 C.2.1 dX4_wrong_6 rfl (lv_at hl 0 rfl) ?_
  refine r_geti (t := 0) C hp xk_23 xs_23 xc_4 xin_4 (j := 6) (by decide) rfl gw_290 rfl dX4_wrong_7 ?_
  refine r_puti C hp h xk_23 xs_23 xc_4 xin_4 tyX4 tyX4_ok nmX4 (j := 4) (by decide) rfl gw_287 rfl rfl rfl dX4_wrong_10 (fun M12 H locs h hp => ?_)
  refine r_iconst C dX4_wrong_13 ?_
  cases h
  exact hR _ _ _ _ dX4_wrong_14 g_nz0 hp
theorem c_X4_wrong (l : Launch) {V : g_V} (hok : g_ok xG V) {a1 : Int} {M : g_M} {x : Int} {M2 : g_M} (h : m_X4_wrong a1 M = some (x, M2)) : MetI xG V l yX4_wrong cX4_wrong 2 (some .boolean) 0 0 [.ref (V.2.2 23), .int (gI a1)] M x M2 :=
  g_metI hok cal_X4_wrong.2.2.2 rfl (Nat.le_of_ble_eq_true rfl) (@fun p e R s m args below meth c Q ls C hR hp hl => b_X4_wrong C hR h hp hl)
set_option maxRecDepth 100000 in
set_option maxHeartbeats 4000000 in
theorem b_X4_pass (C : g_CX xG V p R s m args meth c cX4_pass 2 (some .boolean) RX4 10 344) {res : Int × g_M} (hR : g_RetI xG V p l e R s m args below meth c Q cX4_pass .boolean res.1 res.2) {a1 : Int} {M : g_M} {H : Heap} {locs : List Loc} {ls : Array Slot} (h : m_X4_pass a1 M = some res) (hp : g_PT xG V M s H locs) (hl : lv_has ls 2 [(0, .ref (V.2.2 23)), (1, .int (gI a1))]) : W p l e R s m args below meth c H locs 0 0 Q (F0 m 0 ls []) := by
  unfold m_X4_pass at h
  refine lv_aload_n C.1 C.2.1 dX4_pass_0 rfl (lv_at hl 0 rfl) ?_
  refine r_geti (t := 0) C hp xk_23 xs_23 xc_4 xin_4 (j := 7) (by decide) rfl gw_291 rfl dX4_pass_1 ?_
  refine lv_iload_n C.1 C.2.1 dX4_pass_4 rfl (lv_at hl 1 rfl) ?_
  refine r_icmp_eq (tgt := 14) C h dX4_pass_5 (by decide) (fun h => ?_) (fun h => ?_)
  · refine lv_aload_n C.1 C.2.1 dX4_pass_14 rfl (lv_at hl 0 rfl) ?_
    obtain ⟨M11, hr, h⟩ := bd_of h
    refine r_callVV (As := []) (rest := []) C hl.1 hp (c_X4_advance l C.2.2.2.2.2.2.2.2.2.2.2 hr) gw_519 gw_521 gw_1 xk_23 xs_23 xc_4 cal_X4_advance rfl rfl (Nat.le_of_ble_eq_true rfl) ⟨Nat.le_of_ble_eq_true rfl, Nat.le_of_ble_eq_true rfl⟩ dX4_pass_15 (fun H locs hp => ?_)
    refine r_iconst C dX4_pass_18 ?_
    cases h
    exact hR _ _ _ _ dX4_pass_19 g_nz1 hp
  · refine lv_aload_n C.1 C.2.1 dX4_pass_8 rfl (lv_at hl 0 rfl) ?_
    refine r_iconst C dX4_pass_9 ?_
    obtain ⟨x12, M13, hr, h⟩ := bW_of h
    refine r_callVI (As := [.int (gI 1)]) (rest := []) C hl.1 hp (c_X4_wrong l C.2.2.2.2.2.2.2.2.2.2.2 hr) gw_656 gw_658 gw_6 xk_23 xs_23 xc_4 cal_X4_wrong rfl rfl (Nat.le_of_ble_eq_true rfl) ⟨Nat.le_of_ble_eq_true rfl, Nat.le_of_ble_eq_true rfl⟩ dX4_pass_10 (fun H locs hp => ?_)
    obtain ⟨hg, h⟩ := gd_of h
    cases h
    exact hR _ _ _ _ dX4_pass_13 (g_nzg hg) hp
theorem c_X4_pass (l : Launch) {V : g_V} (hok : g_ok xG V) {a1 : Int} {M : g_M} {x : Int} {M2 : g_M} (h : m_X4_pass a1 M = some (x, M2)) : MetI xG V l yX4_pass cX4_pass 2 (some .boolean) 10 344 [.ref (V.2.2 23), .int (gI a1)] M x M2 :=
  g_metI hok cal_X4_pass.2.2.2 rfl (Nat.le_of_ble_eq_true rfl) (@fun p e R s m args below meth c Q ls C hR hp hl => b_X4_pass C hR h hp hl)
set_option maxRecDepth 100000 in
set_option maxHeartbeats 4000000 in
theorem b_X4_readNumber (C : g_CX xG V p R s m args meth c cX4_readNumber 3 (some .boolean) RX4 10 344) {res : Int × g_M} (hR : g_RetI xG V p l e R s m args below meth c Q cX4_readNumber .boolean res.1 res.2) {a1 : Int} {a2 : Int} {M : g_M} {H : Heap} {locs : List Loc} {ls : Array Slot} (h : m_X4_readNumber a1 a2 M = some res) (hp : g_PT xG V M s H locs) (hl : lv_has ls 3 [(0, .ref (V.2.2 23)), (1, .int (gI a1)), (2, .int (gI a2))]) : W p l e R s m args below meth c H locs 0 0 Q (F0 m 0 ls []) := by
  unfold m_X4_readNumber at h
  refine lv_aload_n C.1 C.2.1 dX4_readNumber_0 rfl (lv_at hl 0 rfl) ?_
  refine r_geti (t := 0) C hp xk_23 xs_23 xc_4 xin_4 (j := 7) (by decide) rfl gw_291 rfl dX4_readNumber_1 ?_
  refine r_bipush C dX4_readNumber_4 (by decide +kernel) ?_
  refine r_icmp_eq (tgt := 15) C h dX4_readNumber_6 (by decide) (fun h => ?_) (fun h => ?_)
  · refine lv_aload_n C.1 C.2.1 dX4_readNumber_15 rfl (lv_at hl 0 rfl) ?_
    refine r_geti (t := 0) C hp xk_23 xs_23 xc_4 xin_4 (j := 8) (by decide) rfl gw_292 rfl dX4_readNumber_16 ?_
    refine lv_iload_n C.1 C.2.1 dX4_readNumber_19 rfl (lv_at hl 1 rfl) ?_
    refine lv_iload_n C.1 C.2.1 dX4_readNumber_20 rfl (lv_at hl 2 rfl) ?_
    obtain ⟨x11, hr, h⟩ := bd_of h
    refine r_callNI (As := [.int (gI (M 23 8)), .int (gI a1), .int (gI a2)]) (rest := []) C hl.1 hp (c_X8_within l C.2.2.2.2.2.2.2.2.2.2.2 hr) (x_nest C (i := 0) rfl) gw_464 cal_X8_within rfl rfl (Nat.le_of_ble_eq_true rfl) ⟨Nat.le_of_ble_eq_true rfl, Nat.le_of_ble_eq_true rfl⟩ dX4_readNumber_21 (fun H locs hp => ?_)
    refine r_if_ne (tgt := 33) C h dX4_readNumber_24 (by decide) (fun h => ?_) (fun h => ?_)
    · refine lv_aload_n C.1 C.2.1 dX4_readNumber_33 rfl (lv_at hl 0 rfl) ?_
      refine r_getr (t := 25) C hp xk_23 xs_23 xc_4 xin_4 (j := 0) (by decide) rfl gw_280 rfl dX4_readNumber_34 ?_
      refine lv_aload_n C.1 C.2.1 dX4_readNumber_37 rfl (lv_at hl 0 rfl) ?_
      refine r_geti (t := 0) C hp xk_23 xs_23 xc_4 xin_4 (j := 8) (by decide) rfl gw_292 rfl dX4_readNumber_38 ?_
      obtain ⟨M12, hr, h⟩ := bd_of h
      refine r_callVV (As := [.int (gI (M 23 8))]) (rest := []) C hl.1 hp (c_X7_addNumber l C.2.2.2.2.2.2.2.2.2.2.2 xT_25 hr) gw_676 gw_677 gw_678 xk_25 xs_25 xc_7 cal_X7_addNumber rfl rfl (Nat.le_of_ble_eq_true rfl) ⟨Nat.le_of_ble_eq_true rfl, Nat.le_of_ble_eq_true rfl⟩ dX4_readNumber_41 (fun H locs hp => ?_)
      refine lv_aload_n C.1 C.2.1 dX4_readNumber_44 rfl (lv_at hl 0 rfl) ?_
      obtain ⟨M13, hr, h⟩ := bd_of h
      refine r_callVV (As := []) (rest := []) C hl.1 hp (c_X4_advance l C.2.2.2.2.2.2.2.2.2.2.2 hr) gw_519 gw_521 gw_1 xk_23 xs_23 xc_4 cal_X4_advance rfl rfl (Nat.le_of_ble_eq_true rfl) ⟨Nat.le_of_ble_eq_true rfl, Nat.le_of_ble_eq_true rfl⟩ dX4_readNumber_45 (fun H locs hp => ?_)
      refine r_iconst C dX4_readNumber_48 ?_
      cases h
      exact hR _ _ _ _ dX4_readNumber_49 g_nz1 hp
    · refine lv_aload_n C.1 C.2.1 dX4_readNumber_27 rfl (lv_at hl 0 rfl) ?_
      refine r_iconst C dX4_readNumber_28 ?_
      obtain ⟨x14, M15, hr, h⟩ := bW_of h
      refine r_callVI (As := [.int (gI 2)]) (rest := []) C hl.1 hp (c_X4_wrong l C.2.2.2.2.2.2.2.2.2.2.2 hr) gw_656 gw_658 gw_6 xk_23 xs_23 xc_4 cal_X4_wrong rfl rfl (Nat.le_of_ble_eq_true rfl) ⟨Nat.le_of_ble_eq_true rfl, Nat.le_of_ble_eq_true rfl⟩ dX4_readNumber_29 (fun H locs hp => ?_)
      obtain ⟨hg, h⟩ := gd_of h
      cases h
      exact hR _ _ _ _ dX4_readNumber_32 (g_nzg hg) hp
  · refine lv_aload_n C.1 C.2.1 dX4_readNumber_9 rfl (lv_at hl 0 rfl) ?_
    refine r_iconst C dX4_readNumber_10 ?_
    obtain ⟨x16, M17, hr, h⟩ := bW_of h
    refine r_callVI (As := [.int (gI 1)]) (rest := []) C hl.1 hp (c_X4_wrong l C.2.2.2.2.2.2.2.2.2.2.2 hr) gw_656 gw_658 gw_6 xk_23 xs_23 xc_4 cal_X4_wrong rfl rfl (Nat.le_of_ble_eq_true rfl) ⟨Nat.le_of_ble_eq_true rfl, Nat.le_of_ble_eq_true rfl⟩ dX4_readNumber_11 (fun H locs hp => ?_)
    obtain ⟨hg, h⟩ := gd_of h
    cases h
    exact hR _ _ _ _ dX4_readNumber_14 (g_nzg hg) hp
theorem c_X4_readNumber (l : Launch) {V : g_V} (hok : g_ok xG V) {a1 : Int} {a2 : Int} {M : g_M} {x : Int} {M2 : g_M} (h : m_X4_readNumber a1 a2 M = some (x, M2)) : MetI xG V l yX4_readNumber cX4_readNumber 3 (some .boolean) 10 344 [.ref (V.2.2 23), .int (gI a1), .int (gI a2)] M x M2 :=
  g_metI hok cal_X4_readNumber.2.2.2 rfl (Nat.le_of_ble_eq_true rfl) (@fun p e R s m args below meth c Q ls C hR hp hl => b_X4_readNumber C hR h hp hl)
end
