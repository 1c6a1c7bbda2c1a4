theorem dX4_read_0 : decode cX4_read 0 = .ok (.aload_n 0, 1) := by decide +kernel
theorem dX4_read_1 : decode cX4_read 1 = .ok (.getfield 12, 3) := by decide +kernel
theorem dX4_read_4 : decode cX4_read 4 = .ok (.invokevirtual 32, 3) := by decide +kernel
theorem dX4_read_7 : decode cX4_read 7 = .ok (.aload_n 0, 1) := by decide +kernel
theorem dX4_read_8 : decode cX4_read 8 = .ok (.iconst 0, 1) := by decide +kernel
theorem dX4_read_9 : decode cX4_read 9 = .ok (.putfield 22, 3) := by decide +kernel
theorem dX4_read_12 : decode cX4_read 12 = .ok (.aload_n 0, 1) := by decide +kernel
theorem dX4_read_13 : decode cX4_read 13 = .ok (.iconst (-1), 1) := by decide +kernel
theorem dX4_read_14 : decode cX4_read 14 = .ok (.putfield 26, 3) := by decide +kernel
theorem dX4_read_17 : decode cX4_read 17 = .ok (.aload_n 0, 1) := by decide +kernel
theorem dX4_read_18 : decode cX4_read 18 = .ok (.iconst 0, 1) := by decide +kernel
theorem dX4_read_19 : decode cX4_read 19 = .ok (.putfield 35, 3) := by decide +kernel
theorem dX4_read_22 : decode cX4_read 22 = .ok (.aload_n 0, 1) := by decide +kernel
theorem dX4_read_23 : decode cX4_read 23 = .ok (.invokevirtual 38, 3) := by decide +kernel
theorem dX4_read_26 : decode cX4_read 26 = .ok (.iconst 1, 1) := by decide +kernel
theorem dX4_read_27 : decode cX4_read 27 = .ok (.istore_n 1, 1) := by decide +kernel
theorem dX4_read_28 : decode cX4_read 28 = .ok (.iconst 0, 1) := by decide +kernel
theorem dX4_read_29 : decode cX4_read 29 = .ok (.istore_n 2, 1) := by decide +kernel
theorem dX4_read_30 : decode cX4_read 30 = .ok (.iload_n 2, 1) := by decide +kernel
theorem dX4_read_31 : decode cX4_read 31 = .ok (.bipush 24, 2) := by decide +kernel
theorem dX4_read_33 : decode cX4_read 33 = .ok (.if_icmp .gt 27, 3) := by decide +kernel
theorem dX4_read_36 : decode cX4_read 36 = .ok (.iload_n 1, 1) := by decide +kernel
theorem dX4_read_37 : decode cX4_read 37 = .ok (.ifCond .eq 23, 3) := by decide +kernel
theorem dX4_read_40 : decode cX4_read 40 = .ok (.aload_n 0, 1) := by decide +kernel
theorem dX4_read_41 : decode cX4_read 41 = .ok (.getfield 41, 3) := by decide +kernel
theorem dX4_read_44 : decode cX4_read 44 = .ok (.bipush 41, 2) := by decide +kernel
theorem dX4_read_46 : decode cX4_read 46 = .ok (.if_icmp .eq 14, 3) := by decide +kernel
theorem dX4_read_49 : decode cX4_read 49 = .ok (.aload_n 0, 1) := by decide +kernel
theorem dX4_read_50 : decode cX4_read 50 = .ok (.invokevirtual 44, 3) := by decide +kernel
theorem dX4_read_53 : decode cX4_read 53 = .ok (.istore_n 1, 1) := by decide +kernel
theorem dX4_read_54 : decode cX4_read 54 = .ok (.iinc 2 1, 3) := by decide +kernel
theorem dX4_read_57 : decode cX4_read 57 = .ok (.goto (-27), 3) := by decide +kernel
theorem dX4_read_60 : decode cX4_read 60 = .ok (.aload_n 0, 1) := by decide +kernel
theorem dX4_read_61 : decode cX4_read 61 = .ok (.iconst 0, 1) := by decide +kernel
theorem dX4_read_62 : decode cX4_read 62 = .ok (.putfield 29, 3) := by decide +kernel
theorem dX4_read_65 : decode cX4_read 65 = .ok (.iload_n 1, 1) := by decide +kernel
theorem dX4_read_66 : decode cX4_read 66 = .ok (.ireturn, 1) := by decide +kernel
theorem dX4_readClause_0 : decode cX4_readClause 0 = .ok (.aload_n 0, 1) := by decide +kernel
theorem dX4_readClause_1 : decode cX4_readClause 1 = .ok (.getfield 41, 3) := by decide +kernel
theorem dX4_readClause_4 : decode cX4_readClause 4 = .ok (.istore_n 1, 1) := by decide +kernel
theorem dX4_readClause_5 : decode cX4_readClause 5 = .ok (.iload_n 1, 1) := by decide +kernel
theorem dX4_readClause_6 : decode cX4_readClause 6 = .ok (.iconst 0, 1) := by decide +kernel
theorem dX4_readClause_7 : decode cX4_readClause 7 = .ok (.iconst 2, 1) := by decide +kernel
theorem dX4_readClause_8 : decode cX4_readClause 8 = .ok (.invokestatic 96, 3) := by decide +kernel
theorem dX4_readClause_11 : decode cX4_readClause 11 = .ok (.istore_n 2, 1) := by decide +kernel
theorem dX4_readClause_12 : decode cX4_readClause 12 = .ok (.iload_n 2, 1) := by decide +kernel
theorem dX4_readClause_13 : decode cX4_readClause 13 = .ok (.ifCond .ne 25, 3) := by decide +kernel
theorem dX4_readClause_16 : decode cX4_readClause 16 = .ok (.iload_n 1, 1) := by decide +kernel
theorem dX4_readClause_17 : decode cX4_readClause 17 = .ok (.bipush 24, 2) := by decide +kernel
theorem dX4_readClause_19 : decode cX4_readClause 19 = .ok (.if_icmp .eq 19, 3) := by decide +kernel
theorem dX4_readClause_22 : decode cX4_readClause 22 = .ok (.iload_n 1, 1) := by decide +kernel
theorem dX4_readClause_23 : decode cX4_readClause 23 = .ok (.iconst 3, 1) := by decide +kernel
theorem dX4_readClause_24 : decode cX4_readClause 24 = .ok (.bipush 8, 2) := by decide +kernel
theorem dX4_readClause_26 : decode cX4_readClause 26 = .ok (.invokestatic 96, 3) := by decide +kernel
theorem dX4_readClause_29 : decode cX4_readClause 29 = .ok (.ifCond .ne 9, 3) := by decide +kernel
theorem dX4_readClause_32 : decode cX4_readClause 32 = .ok (.aload_n 0, 1) := by decide +kernel
theorem dX4_readClause_33 : decode cX4_readClause 33 = .ok (.iconst 1, 1) := by decide +kernel
theorem dX4_readClause_34 : decode cX4_readClause 34 = .ok (.invokevirtual 93, 3) := by decide +kernel
theorem dX4_readClause_37 : decode cX4_readClause 37 = .ok (.ireturn, 1) := by decide +kernel
theorem dX4_readClause_38 : decode cX4_readClause 38 = .ok (.iload_n 2, 1) := by decide +kernel
theorem dX4_readClause_39 : decode cX4_readClause 39 = .ok (.ifCond .eq 20, 3) := by decide +kernel
theorem dX4_readClause_42 : decode cX4_readClause 42 = .ok (.aload_n 0, 1) := by decide +kernel
theorem dX4_readClause_43 : decode cX4_readClause 43 = .ok (.getfield 12, 3) := by decide +kernel
theorem dX4_readClause_46 : decode cX4_readClause 46 = .ok (.iload_n 1, 1) := by decide +kernel
theorem dX4_readClause_47 : decode cX4_readClause 47 = .ok (.invokevirtual 100, 3) := by decide +kernel
theorem dX4_readClause_50 : decode cX4_readClause 50 = .ok (.ifCond .eq 9, 3) := by decide +kernel
theorem dX4_readClause_53 : decode cX4_readClause 53 = .ok (.aload_n 0, 1) := by decide +kernel
theorem dX4_readClause_54 : decode cX4_readClause 54 = .ok (.iconst 4, 1) := by decide +kernel
theorem dX4_readClause_55 : decode cX4_readClause 55 = .ok (.invokevirtual 93, 3) := by decide +kernel
theorem dX4_readClause_58 : decode cX4_readClause 58 = .ok (.ireturn, 1) := by decide +kernel
theorem dX4_readClause_59 : decode cX4_readClause 59 = .ok (.aload_n 0, 1) := by decide +kernel
theorem dX4_readClause_60 : decode cX4_readClause 60 = .ok (.getfield 12, 3) := by decide +kernel
theorem dX4_readClause_63 : decode cX4_readClause 63 = .ok (.getfield 103, 3) := by decide +kernel
theorem dX4_readClause_66 : decode cX4_readClause 66 = .ok (.bipush 24, 2) := by decide +kernel
theorem dX4_readClause_68 : decode cX4_readClause 68 = .ok (.if_icmp .lt 10, 3) := by decide +kernel
theorem dX4_readClause_71 : decode cX4_readClause 71 = .ok (.aload_n 0, 1) := by decide +kernel
theorem dX4_readClause_72 : decode cX4_readClause 72 = .ok (.bipush 6, 2) := by decide +kernel
theorem dX4_readClause_74 : decode cX4_readClause 74 = .ok (.invokevirtual 93, 3) := by decide +kernel
theorem dX4_readClause_77 : decode cX4_readClause 77 = .ok (.ireturn, 1) := by decide +kernel
theorem dX4_readClause_78 : decode cX4_readClause 78 = .ok (.aload_n 0, 1) := by decide +kernel
theorem dX4_readClause_79 : decode cX4_readClause 79 = .ok (.getfield 12, 3) := by decide +kernel
theorem dX4_readClause_82 : decode cX4_readClause 82 = .ok (.iload_n 1, 1) := by decide +kernel
theorem dX4_readClause_83 : decode cX4_readClause 83 = .ok (.invokevirtual 106, 3) := by decide +kernel
theorem dX4_readClause_86 : decode cX4_readClause 86 = .ok (.aload_n 0, 1) := by decide +kernel
theorem dX4_readClause_87 : decode cX4_readClause 87 = .ok (.invokevirtual 38, 3) := by decide +kernel
theorem dX4_readClause_90 : decode cX4_readClause 90 = .ok (.iload_n 2, 1) := by decide +kernel
theorem dX4_readClause_91 : decode cX4_readClause 91 = .ok (.ifCond .ne 26, 3) := by decide +kernel
theorem dX4_readClause_94 : decode cX4_readClause 94 = .ok (.aload_n 0, 1) := by decide +kernel
theorem dX4_readClause_95 : decode cX4_readClause 95 = .ok (.iload_n 1, 1) := by decide +kernel
theorem dX4_readClause_96 : decode cX4_readClause 96 = .ok (.invokevirtual 110, 3) := by decide +kernel
theorem dX4_readClause_99 : decode cX4_readClause 99 = .ok (.ifCond .eq 16, 3) := by decide +kernel
theorem dX4_readClause_102 : decode cX4_readClause 102 = .ok (.aload_n 0, 1) := by decide +kernel
theorem dX4_readClause_103 : decode cX4_readClause 103 = .ok (.bipush 61, 2) := by decide +kernel
theorem dX4_readClause_105 : decode cX4_readClause 105 = .ok (.invokevirtual 113, 3) := by decide +kernel
theorem dX4_readClause_108 : decode cX4_readClause 108 = .ok (.ifCond .eq 7, 3) := by decide +kernel
theorem dX4_readClause_111 : decode cX4_readClause 111 = .ok (.iconst 1, 1) := by decide +kernel
theorem dX4_readClause_112 : decode cX4_readClause 112 = .ok (.goto 4, 3) := by decide +kernel
theorem dX4_readClause_115 : decode cX4_readClause 115 = .ok (.iconst 0, 1) := by decide +kernel
theorem dX4_readClause_116 : decode cX4_readClause 116 = .ok (.ireturn, 1) := by decide +kernel
theorem dX4_readClause_117 : decode cX4_readClause 117 = .ok (.aload_n 0, 1) := by decide +kernel
theorem dX4_readClause_118 : decode cX4_readClause 118 = .ok (.iload_n 1, 1) := by decide +kernel
theorem dX4_readClause_119 : decode cX4_readClause 119 = .ok (.putfield 116, 3) := by decide +kernel
theorem dX4_readClause_122 : decode cX4_readClause 122 = .ok (.aload_n 0, 1) := by decide +kernel
theorem dX4_readClause_123 : decode cX4_readClause 123 = .ok (.getfield 12, 3) := by decide +kernel
theorem dX4_readClause_126 : decode cX4_readClause 126 = .ok (.getfield 119, 3) := by decide +kernel
theorem dX4_readClause_129 : decode cX4_readClause 129 = .ok (.aload_n 0, 1) := by decide +kernel
theorem dX4_readClause_130 : decode cX4_readClause 130 = .ok (.getfield 116, 3) := by decide +kernel
theorem dX4_readClause_133 : decode cX4_readClause 133 = .ok (.aload_n 0, 1) := by decide +kernel
theorem dX4_readClause_134 : decode cX4_readClause 134 = .ok (.getfield 12, 3) := by decide +kernel
theorem dX4_readClause_137 : decode cX4_readClause 137 = .ok (.getfield 122, 3) := by decide +kernel
theorem dX4_readClause_140 : decode cX4_readClause 140 = .ok (.iastore, 1) := by decide +kernel
theorem dX4_readClause_141 : decode cX4_readClause 141 = .ok (.aload_n 0, 1) := by decide +kernel
theorem dX4_readClause_142 : decode cX4_readClause 142 = .ok (.iconst 0, 1) := by decide +kernel
theorem dX4_readClause_143 : decode cX4_readClause 143 = .ok (.invokevirtual 125, 3) := by decide +kernel
theorem dX4_readClause_146 : decode cX4_readClause 146 = .ok (.istore_n 3, 1) := by decide +kernel
theorem dX4_readClause_147 : decode cX4_readClause 147 = .ok (.aload_n 0, 1) := by decide +kernel
theorem dX4_readClause_148 : decode cX4_readClause 148 = .ok (.getfield 12, 3) := by decide +kernel
theorem dX4_readClause_151 : decode cX4_readClause 151 = .ok (.getfield 128, 3) := by decide +kernel
theorem dX4_readClause_154 : decode cX4_readClause 154 = .ok (.aload_n 0, 1) := by decide +kernel
theorem dX4_readClause_155 : decode cX4_readClause 155 = .ok (.getfield 116, 3) := by decide +kernel
theorem dX4_readClause_158 : decode cX4_readClause 158 = .ok (.aload_n 0, 1) := by decide +kernel
theorem dX4_readClause_159 : decode cX4_readClause 159 = .ok (.getfield 12, 3) := by decide +kernel
theorem dX4_readClause_162 : decode cX4_readClause 162 = .ok (.getfield 122, 3) := by decide +kernel
theorem dX4_readClause_165 : decode cX4_readClause 165 = .ok (.iastore, 1) := by decide +kernel
theorem dX4_readClause_166 : decode cX4_readClause 166 = .ok (.iload_n 3, 1) := by decide +kernel
theorem dX4_readClause_167 : decode cX4_readClause 167 = .ok (.ifCond .eq 16, 3) := by decide +kernel
theorem dX4_readClause_170 : decode cX4_readClause 170 = .ok (.aload_n 0, 1) := by decide +kernel
theorem dX4_readClause_171 : decode cX4_readClause 171 = .ok (.bipush 61, 2) := by decide +kernel
theorem dX4_readClause_173 : decode cX4_readClause 173 = .ok (.invokevirtual 113, 3) := by decide +kernel
theorem dX4_readClause_176 : decode cX4_readClause 176 = .ok (.ifCond .eq 7, 3) := by decide +kernel
theorem dX4_readClause_179 : decode cX4_readClause 179 = .ok (.iconst 1, 1) := by decide +kernel
theorem dX4_readClause_180 : decode cX4_readClause 180 = .ok (.goto 4, 3) := by decide +kernel
theorem dX4_readClause_183 : decode cX4_readClause 183 = .ok (.iconst 0, 1) := by decide +kernel
theorem dX4_readClause_184 : decode cX4_readClause 184 = .ok (.ireturn, 1) := by decide +kernel
theorem dX4_readOrder_0 : decode cX4_readOrder 0 = .ok (.iload_n 1, 1) := by decide +kernel
theorem dX4_readOrder_1 : decode cX4_readOrder 1 = .ok (.lookupswitch 258 #[(3, 112), (4, 146), (5, 181), (6, 216), (7, 250), (24, 59)], 59) := by decide +kernel
theorem dX4_readOrder_60 : decode cX4_readOrder 60 = .ok (.aload_n 0, 1) := by decide +kernel
theorem dX4_readOrder_61 : decode cX4_readOrder 61 = .ok (.iconst 0, 1) := by decide +kernel
theorem dX4_readOrder_62 : decode cX4_readOrder 62 = .ok (.bipush 11, 2) := by decide +kernel
theorem dX4_readOrder_64 : decode cX4_readOrder 64 = .ok (.invokevirtual 131, 3) := by decide +kernel
theorem dX4_readOrder_67 : decode cX4_readOrder 67 = .ok (.ifCond .eq 44, 3) := by decide +kernel
theorem dX4_readOrder_70 : decode cX4_readOrder 70 = .ok (.aload_n 0, 1) := by decide +kernel
theorem dX4_readOrder_71 : decode cX4_readOrder 71 = .ok (.bipush 9, 2) := by decide +kernel
theorem dX4_readOrder_73 : decode cX4_readOrder 73 = .ok (.invokevirtual 113, 3) := by decide +kernel
theorem dX4_readOrder_76 : decode cX4_readOrder 76 = .ok (.ifCond .eq 35, 3) := by decide +kernel
theorem dX4_readOrder_79 : decode cX4_readOrder 79 = .ok (.aload_n 0, 1) := by decide +kernel
theorem dX4_readOrder_80 : decode cX4_readOrder 80 = .ok (.iconst 0, 1) := by decide +kernel
theorem dX4_readOrder_81 : decode cX4_readOrder 81 = .ok (.iconst 3, 1) := by decide +kernel
theorem dX4_readOrder_82 : decode cX4_readOrder 82 = .ok (.invokevirtual 131, 3) := by decide +kernel
theorem dX4_readOrder_85 : decode cX4_readOrder 85 = .ok (.ifCond .eq 26, 3) := by decide +kernel
theorem dX4_readOrder_88 : decode cX4_readOrder 88 = .ok (.aload_n 0, 1) := by decide +kernel
theorem dX4_readOrder_89 : decode cX4_readOrder 89 = .ok (.bipush 10, 2) := by decide +kernel
theorem dX4_readOrder_91 : decode cX4_readOrder 91 = .ok (.invokevirtual 113, 3) := by decide +kernel
theorem dX4_readOrder_94 : decode cX4_readOrder 94 = .ok (.ifCond .eq 17, 3) := by decide +kernel
theorem dX4_readOrder_97 : decode cX4_readOrder 97 = .ok (.aload_n 0, 1) := by decide +kernel
theorem dX4_readOrder_98 : decode cX4_readOrder 98 = .ok (.iconst 0, 1) := by decide +kernel
theorem dX4_readOrder_99 : decode cX4_readOrder 99 = .ok (.bipush 12, 2) := by decide +kernel
theorem dX4_readOrder_101 : decode cX4_readOrder 101 = .ok (.invokevirtual 131, 3) := by decide +kernel
theorem dX4_readOrder_104 : decode cX4_readOrder 104 = .ok (.ifCond .eq 7, 3) := by decide +kernel
theorem dX4_readOrder_107 : decode cX4_readOrder 107 = .ok (.iconst 1, 1) := by decide +kernel
theorem dX4_readOrder_108 : decode cX4_readOrder 108 = .ok (.goto 4, 3) := by decide +kernel
theorem dX4_readOrder_111 : decode cX4_readOrder 111 = .ok (.iconst 0, 1) := by decide +kernel
theorem dX4_readOrder_112 : decode cX4_readOrder 112 = .ok (.ireturn, 1) := by decide +kernel
theorem dX4_readOrder_113 : decode cX4_readOrder 113 = .ok (.aload_n 0, 1) := by decide +kernel
theorem dX4_readOrder_114 : decode cX4_readOrder 114 = .ok (.iconst 0, 1) := by decide +kernel
theorem dX4_readOrder_115 : decode cX4_readOrder 115 = .ok (.iconst 3, 1) := by decide +kernel
theorem dX4_readOrder_116 : decode cX4_readOrder 116 = .ok (.invokevirtual 131, 3) := by decide +kernel
theorem dX4_readOrder_119 : decode cX4_readOrder 119 = .ok (.ifCond .eq 26, 3) := by decide +kernel
theorem dX4_readOrder_122 : decode cX4_readOrder 122 = .ok (.aload_n 0, 1) := by decide +kernel
theorem dX4_readOrder_123 : decode cX4_readOrder 123 = .ok (.bipush 11, 2) := by decide +kernel
theorem dX4_readOrder_125 : decode cX4_readOrder 125 = .ok (.invokevirtual 113, 3) := by decide +kernel
theorem dX4_readOrder_128 : decode cX4_readOrder 128 = .ok (.ifCond .eq 17, 3) := by decide +kernel
theorem dX4_readOrder_131 : decode cX4_readOrder 131 = .ok (.aload_n 0, 1) := by decide +kernel
theorem dX4_readOrder_132 : decode cX4_readOrder 132 = .ok (.iconst 0, 1) := by decide +kernel
theorem dX4_readOrder_133 : decode cX4_readOrder 133 = .ok (.bipush 11, 2) := by decide +kernel
theorem dX4_readOrder_135 : decode cX4_readOrder 135 = .ok (.invokevirtual 131, 3) := by decide +kernel
theorem dX4_readOrder_138 : decode cX4_readOrder 138 = .ok (.ifCond .eq 7, 3) := by decide +kernel
theorem dX4_readOrder_141 : decode cX4_readOrder 141 = .ok (.iconst 1, 1) := by decide +kernel
theorem dX4_readOrder_142 : decode cX4_readOrder 142 = .ok (.goto 4, 3) := by decide +kernel
theorem dX4_readOrder_145 : decode cX4_readOrder 145 = .ok (.iconst 0, 1) := by decide +kernel
theorem dX4_readOrder_146 : decode cX4_readOrder 146 = .ok (.ireturn, 1) := by decide +kernel
theorem dX4_readOrder_147 : decode cX4_readOrder 147 = .ok (.aload_n 0, 1) := by decide +kernel
theorem dX4_readOrder_148 : decode cX4_readOrder 148 = .ok (.iconst 0, 1) := by decide +kernel
theorem dX4_readOrder_149 : decode cX4_readOrder 149 = .ok (.bipush 9, 2) := by decide +kernel
theorem dX4_readOrder_151 : decode cX4_readOrder 151 = .ok (.invokevirtual 131, 3) := by decide +kernel
theorem dX4_readOrder_154 : decode cX4_readOrder 154 = .ok (.ifCond .eq 26, 3) := by decide +kernel
theorem dX4_readOrder_157 : decode cX4_readOrder 157 = .ok (.aload_n 0, 1) := by decide +kernel
theorem dX4_readOrder_158 : decode cX4_readOrder 158 = .ok (.bipush 31, 2) := by decide +kernel
theorem dX4_readOrder_160 : decode cX4_readOrder 160 = .ok (.invokevirtual 113, 3) := by decide +kernel
theorem dX4_readOrder_163 : decode cX4_readOrder 163 = .ok (.ifCond .eq 17, 3) := by decide +kernel
theorem dX4_readOrder_166 : decode cX4_readOrder 166 = .ok (.aload_n 0, 1) := by decide +kernel
theorem dX4_readOrder_167 : decode cX4_readOrder 167 = .ok (.iconst 0, 1) := by decide +kernel
theorem dX4_readOrder_168 : decode cX4_readOrder 168 = .ok (.bipush 9, 2) := by decide +kernel
theorem dX4_readOrder_170 : decode cX4_readOrder 170 = .ok (.invokevirtual 131, 3) := by decide +kernel
theorem dX4_readOrder_173 : decode cX4_readOrder 173 = .ok (.ifCond .eq 7, 3) := by decide +kernel
theorem dX4_readOrder_176 : decode cX4_readOrder 176 = .ok (.iconst 1, 1) := by decide +kernel
theorem dX4_readOrder_177 : decode cX4_readOrder 177 = .ok (.goto 4, 3) := by decide +kernel
theorem dX4_readOrder_180 : decode cX4_readOrder 180 = .ok (.iconst 0, 1) := by decide +kernel
theorem dX4_readOrder_181 : decode cX4_readOrder 181 = .ok (.ireturn, 1) := by decide +kernel
theorem dX4_readOrder_182 : decode cX4_readOrder 182 = .ok (.aload_n 0, 1) := by decide +kernel
theorem dX4_readOrder_183 : decode cX4_readOrder 183 = .ok (.iconst 0, 1) := by decide +kernel
theorem dX4_readOrder_184 : decode cX4_readOrder 184 = .ok (.bipush 7, 2) := by decide +kernel
theorem dX4_readOrder_186 : decode cX4_readOrder 186 = .ok (.invokevirtual 131, 3) := by decide +kernel
theorem dX4_readOrder_189 : decode cX4_readOrder 189 = .ok (.ifCond .eq 26, 3) := by decide +kernel
theorem dX4_readOrder_192 : decode cX4_readOrder 192 = .ok (.aload_n 0, 1) := by decide +kernel
theorem dX4_readOrder_193 : decode cX4_readOrder 193 = .ok (.bipush 12, 2) := by decide +kernel
theorem dX4_readOrder_195 : decode cX4_readOrder 195 = .ok (.invokevirtual 113, 3) := by decide +kernel
theorem dX4_readOrder_198 : decode cX4_readOrder 198 = .ok (.ifCond .eq 17, 3) := by decide +kernel
theorem dX4_readOrder_201 : decode cX4_readOrder 201 = .ok (.aload_n 0, 1) := by decide +kernel
theorem dX4_readOrder_202 : decode cX4_readOrder 202 = .ok (.iconst 0, 1) := by decide +kernel
theorem dX4_readOrder_203 : decode cX4_readOrder 203 = .ok (.bipush 9, 2) := by decide +kernel
theorem dX4_readOrder_205 : decode cX4_readOrder 205 = .ok (.invokevirtual 131, 3) := by decide +kernel
theorem dX4_readOrder_208 : decode cX4_readOrder 208 = .ok (.ifCond .eq 7, 3) := by decide +kernel
theorem dX4_readOrder_211 : decode cX4_readOrder 211 = .ok (.iconst 1, 1) := by decide +kernel
theorem dX4_readOrder_212 : decode cX4_readOrder 212 = .ok (.goto 4, 3) := by decide +kernel
theorem dX4_readOrder_215 : decode cX4_readOrder 215 = .ok (.iconst 0, 1) := by decide +kernel
theorem dX4_readOrder_216 : decode cX4_readOrder 216 = .ok (.ireturn, 1) := by decide +kernel
theorem dX4_readOrder_217 : decode cX4_readOrder 217 = .ok (.aload_n 0, 1) := by decide +kernel
theorem dX4_readOrder_218 : decode cX4_readOrder 218 = .ok (.iconst 0, 1) := by decide +kernel
theorem dX4_readOrder_219 : decode cX4_readOrder 219 = .ok (.bipush 11, 2) := by decide +kernel
theorem dX4_readOrder_221 : decode cX4_readOrder 221 = .ok (.invokevirtual 131, 3) := by decide +kernel
theorem dX4_readOrder_224 : decode cX4_readOrder 224 = .ok (.ifCond .eq 25, 3) := by decide +kernel
theorem dX4_readOrder_227 : decode cX4_readOrder 227 = .ok (.aload_n 0, 1) := by decide +kernel
theorem dX4_readOrder_228 : decode cX4_readOrder 228 = .ok (.bipush 9, 2) := by decide +kernel
theorem dX4_readOrder_230 : decode cX4_readOrder 230 = .ok (.invokevirtual 113, 3) := by decide +kernel
theorem dX4_readOrder_233 : decode cX4_readOrder 233 = .ok (.ifCond .eq 16, 3) := by decide +kernel
theorem dX4_readOrder_236 : decode cX4_readOrder 236 = .ok (.aload_n 0, 1) := by decide +kernel
theorem dX4_readOrder_237 : decode cX4_readOrder 237 = .ok (.iconst 1, 1) := by decide +kernel
theorem dX4_readOrder_238 : decode cX4_readOrder 238 = .ok (.iconst 3, 1) := by decide +kernel
theorem dX4_readOrder_239 : decode cX4_readOrder 239 = .ok (.invokevirtual 131, 3) := by decide +kernel
theorem dX4_readOrder_242 : decode cX4_readOrder 242 = .ok (.ifCond .eq 7, 3) := by decide +kernel
theorem dX4_readOrder_245 : decode cX4_readOrder 245 = .ok (.iconst 1, 1) := by decide +kernel
theorem dX4_readOrder_246 : decode cX4_readOrder 246 = .ok (.goto 4, 3) := by decide +kernel
theorem dX4_readOrder_249 : decode cX4_readOrder 249 = .ok (.iconst 0, 1) := by decide +kernel
theorem dX4_readOrder_250 : decode cX4_readOrder 250 = .ok (.ireturn, 1) := by decide +kernel
theorem dX4_readOrder_251 : decode cX4_readOrder 251 = .ok (.aload_n 0, 1) := by decide +kernel
theorem dX4_readOrder_252 : decode cX4_readOrder 252 = .ok (.iconst 0, 1) := by decide +kernel
theorem dX4_readOrder_253 : decode cX4_readOrder 253 = .ok (.bipush 11, 2) := by decide +kernel
theorem dX4_readOrder_255 : decode cX4_readOrder 255 = .ok (.invokevirtual 131, 3) := by decide +kernel
theorem dX4_readOrder_258 : decode cX4_readOrder 258 = .ok (.ireturn, 1) := by decide +kernel
theorem dX4_readOrder_259 : decode cX4_readOrder 259 = .ok (.aload_n 0, 1) := by decide +kernel
theorem dX4_readOrder_260 : decode cX4_readOrder 260 = .ok (.iconst 1, 1) := by decide +kernel
theorem dX4_readOrder_261 : decode cX4_readOrder 261 = .ok (.bipush 40, 2) := by decide +kernel
theorem dX4_readOrder_263 : decode cX4_readOrder 263 = .ok (.invokevirtual 131, 3) := by decide +kernel
theorem dX4_readOrder_266 : decode cX4_readOrder 266 = .ok (.ireturn, 1) := by decide +kernel
section
variable {p : Program} {l : Launch} {e : Env} {R : Room} {s : State} {m : MethodId} {args : Array Value} {below : List Frame} {meth : Method} {c : Code} {Q : State → Prop} {V : g_V} {nf nl : Nat}
set_option maxRecDepth 100000 in
set_option maxHeartbeats 4000000 in
theorem b_X4_readOrder (C : g_CX xG V p R s m args meth c cX4_readOrder 2 (some .boolean) RX4 11 366) {res : Int × g_M} (hR : g_RetI xG V p l e R s m args below meth c Q cX4_readOrder .boolean res.1 res.2) {a1 : Int} {M : g_M} {H : Heap} {locs : List Loc} {ls : Array Slot} (h : m_X4_readOrder a1 M = some res) (hp : g_PT xG V M s H locs) (hl : lv_has ls 2 [(0, .ref (V.2.2 23)), (1, .int (gI a1))]) : W p l e R s m args below meth c H locs 0 0 Q (F0 m 0 ls []) := by
  unfold m_X4_readOrder at h
  refine lv_iload_n C.1 C.2.1 dX4_readOrder_0 rfl (lv_at hl 1 rfl) ?_
  refine r_ite h (fun hv h => ?_) (fun hv3 h => ?_)
  · refine r_lsw (off := 112) (tgt := 113) C dX4_readOrder_1 (by decide +kernel) (by rw [hv]; decide +kernel) (by decide) ?_
    refine r_jn (P := fun J => ∀ (M18 : g_M) (H : Heap) (locs : List Loc) (ls : Array Slot), J M18 = some res → g_PT xG V M18 s H locs → lv_has ls 2 [] → W p l e R s m args below meth c H locs 0 0 Q (F0 m 145 ls [])) h ?_ (fun J11 hJ11 h => ?_)
    · intro M18 H locs ls h hp hl
      refine r_iconst C dX4_readOrder_145 ?_
      cases h
      exact hR _ _ _ _ dX4_readOrder_146 g_nz0 hp
    refine lv_aload_n C.1 C.2.1 dX4_readOrder_113 rfl (lv_at hl 0 rfl) ?_
    refine r_iconst C dX4_readOrder_114 ?_
    refine r_iconst C dX4_readOrder_115 ?_
    obtain ⟨x12, M13, hr, h⟩ := bW_of h
    refine r_callVI (As := [.int (gI 0), .int (gI 3)]) (rest := []) C hl.1 hp (c_X4_readNumber l C.2.2.2.2.2.2.2.2.2.2.2 hr) gw_672 gw_674 gw_8 xk_23 xs_23 xc_4 cal_X4_readNumber rfl rfl (Nat.le_of_ble_eq_true rfl) ⟨Nat.le_of_ble_eq_true rfl, Nat.le_of_ble_eq_true rfl⟩ dX4_readOrder_116 (fun H locs hp => ?_)
    refine r_if_eq (tgt := 145) C h dX4_readOrder_119 (by decide) (fun h => ?_) (fun h => ?_)
    · exact hJ11 _ _ _ _ h hp (lv_sub hl [] rfl)
    · refine lv_aload_n C.1 C.2.1 dX4_readOrder_122 rfl (lv_at hl 0 rfl) ?_
      refine r_bipush C dX4_readOrder_123 (by decide +kernel) ?_
      obtain ⟨x14, M15, hr, h⟩ := bW_of h
      refine r_callVI (As := [.int (gI 11)]) (rest := []) C hl.1 hp (c_X4_pass l C.2.2.2.2.2.2.2.2.2.2.2 hr) gw_680 gw_682 gw_9 xk_23 xs_23 xc_4 cal_X4_pass rfl rfl (Nat.le_of_ble_eq_true rfl) ⟨Nat.le_of_ble_eq_true rfl, Nat.le_of_ble_eq_true rfl⟩ dX4_readOrder_125 (fun H locs hp => ?_)
      refine r_if_eq (tgt := 145) C h dX4_readOrder_128 (by decide) (fun h => ?_) (fun h => ?_)
      · exact hJ11 _ _ _ _ h hp (lv_sub hl [] rfl)
      · refine lv_aload_n C.1 C.2.1 dX4_readOrder_131 rfl (lv_at hl 0 rfl) ?_
        refine r_iconst C dX4_readOrder_132 ?_
        refine r_bipush C dX4_readOrder_133 (by decide +kernel) ?_
        obtain ⟨x16, M17, hr, h⟩ := bW_of h
        refine r_callVI (As := [.int (gI 0), .int (gI 11)]) (rest := []) C hl.1 hp (c_X4_readNumber l C.2.2.2.2.2.2.2.2.2.2.2 hr) gw_672 gw_674 gw_8 xk_23 xs_23 xc_4 cal_X4_readNumber rfl rfl (Nat.le_of_ble_eq_true rfl) ⟨Nat.le_of_ble_eq_true rfl, Nat.le_of_ble_eq_true rfl⟩ dX4_readOrder_135 (fun H locs hp => ?_)
        refine r_if_eq (tgt := 145) C h dX4_readOrder_138 (by decide) (fun h => ?_) (fun h => ?_)
        · exact hJ11 _ _ _ _ h hp (lv_sub hl [] rfl)
        · refine r_iconst C dX4_readOrder_141 ?_
          refine r_goto (tgt := 146) C dX4_readOrder_142 (by decide) ?_
          cases h
          exact hR _ _ _ _ dX4_readOrder_146 g_nz1 hp
  refine r_ite h (fun hv h => ?_) (fun hv4 h => ?_)
  · refine r_lsw (off := 146) (tgt := 147) C dX4_readOrder_1 (by decide +kernel) (by rw [hv]; decide +kernel) (by decide) ?_
    refine r_jn (P := fun J => ∀ (M26 : g_M) (H : Heap) (locs : List Loc) (ls : Array Slot), J M26 = some res → g_PT xG V M26 s H locs → lv_has ls 2 [] → W p l e R s m args below meth c H locs 0 0 Q (F0 m 180 ls [])) h ?_ (fun J19 hJ19 h => ?_)
    · intro M26 H locs ls h hp hl
      refine r_iconst C dX4_readOrder_180 ?_
      cases h
      exact hR _ _ _ _ dX4_readOrder_181 g_nz0 hp
    refine lv_aload_n C.1 C.2.1 dX4_readOrder_147 rfl (lv_at hl 0 rfl) ?_
    refine r_iconst C dX4_readOrder_148 ?_
    refine r_bipush C dX4_readOrder_149 (by decide +kernel) ?_
    obtain ⟨x20, M21, hr, h⟩ := bW_of h
    refine r_callVI (As := [.int (gI 0), .int (gI 9)]) (rest := []) C hl.1 hp (c_X4_readNumber l C.2.2.2.2.2.2.2.2.2.2.2 hr) gw_672 gw_674 gw_8 xk_23 xs_23 xc_4 cal_X4_readNumber rfl rfl (Nat.le_of_ble_eq_true rfl) ⟨Nat.le_of_ble_eq_true rfl, Nat.le_of_ble_eq_true rfl⟩ dX4_readOrder_151 (fun H locs hp => ?_)
    refine r_if_eq (tgt := 180) C h dX4_readOrder_154 (by decide) (fun h => ?_) (fun h => ?_)
    · exact hJ19 _ _ _ _ h hp (lv_sub hl [] rfl)
    · refine lv_aload_n C.1 C.2.1 dX4_readOrder_157 rfl (lv_at hl 0 rfl) ?_
      refine r_bipush C dX4_readOrder_158 (by decide +kernel) ?_
      obtain ⟨x22, M23, hr, h⟩ := bW_of h
      refine r_callVI (As := [.int (gI 31)]) (rest := []) C hl.1 hp (c_X4_pass l C.2.2.2.2.2.2.2.2.2.2.2 hr) gw_680 gw_682 gw_9 xk_23 xs_23 xc_4 cal_X4_pass rfl rfl (Nat.le_of_ble_eq_true rfl) ⟨Nat.le_of_ble_eq_true rfl, Nat.le_of_ble_eq_true rfl⟩ dX4_readOrder_160 (fun H locs hp => ?_)
      refine r_if_eq (tgt := 180) C h dX4_readOrder_163 (by decide) (fun h => ?_) (fun h => ?_)
      · exact hJ19 _ _ _ _ h hp (lv_sub hl [] rfl)
      · refine lv_aload_n C.1 C.2.1 dX4_readOrder_166 rfl (lv_at hl 0 rfl) ?_
        refine r_iconst C dX4_readOrder_167 ?_
        refine r_bipush C dX4_readOrder_168 (by decide +kernel) ?_
        obtain ⟨x24, M25, hr, h⟩ := bW_of h
        refine r_callVI (As := [.int (gI 0), .int (gI 9)]) (rest := []) C hl.1 hp (c_X4_readNumber l C.2.2.2.2.2.2.2.2.2.2.2 hr) gw_672 gw_674 gw_8 xk_23 xs_23 xc_4 cal_X4_readNumber rfl rfl (Nat.le_of_ble_eq_true rfl) ⟨Nat.le_of_ble_eq_true rfl, Nat.le_of_ble_eq_true rfl⟩ dX4_readOrder_170 (fun H locs hp => ?_)
        refine r_if_eq (tgt := 180) C h dX4_readOrder_173 (by decide) (fun h => ?_) (fun h => ?_)
        · exact hJ19 _ _ _ _ h hp (lv_sub hl [] rfl)
        · refine r_iconst C dX4_readOrder_176 ?_
          refine r_goto (tgt := 181) C dX4_readOrder_177 (by decide) ?_
          cases h
          exact hR _ _ _ _ dX4_readOrder_181 g_nz1 hp
  refine r_ite h (fun hv h => ?_) (fun hv5 h => ?_)
  · refine r_lsw (off := 181) (tgt := 182) C dX4_readOrder_1 (by decide +kernel) (by rw [hv]; decide +kernel) (by decide) ?_
    refine r_jn (P := fun J => ∀ (M34 : g_M) (H : Heap) (locs : List Loc) (ls : Array Slot), J M34 = some res → g_PT xG V M34 s H locs → lv_has ls 2 [] → W p l e R s m args below meth c H locs 0 0 Q (F0 m 215 ls [])) h ?_ (fun J27 hJ27 h => ?_)
    · intro M34 H locs ls h hp hl
      refine r_iconst C dX4_readOrder_215 ?_
      cases h
      exact hR _ _ _ _ dX4_readOrder_216 g_nz0 hp
    refine lv_aload_n C.1 C.2.1 dX4_readOrder_182 rfl (lv_at hl 0 rfl) ?_
    refine r_iconst C dX4_readOrder_183 ?_
    refine r_bipush C dX4_readOrder_184 (by decide +kernel) ?_
    obtain ⟨x28, M29, hr, h⟩ := bW_of h
    refine r_callVI (As := [.int (gI 0), .int (gI 7)]) (rest := []) C hl.1 hp (c_X4_readNumber l C.2.2.2.2.2.2.2.2.2.2.2 hr) gw_672 gw_674 gw_8 xk_23 xs_23 xc_4 cal_X4_readNumber rfl rfl (Nat.le_of_ble_eq_true rfl) ⟨Nat.le_of_ble_eq_true rfl, Nat.le_of_ble_eq_true rfl⟩ dX4_readOrder_186 (fun H locs hp => ?_)
    refine r_if_eq (tgt := 215) C h dX4_readOrder_189 (by decide) (fun h => ?_) (fun h => ?_)
    · exact hJ27 _ _ _ _ h hp (lv_sub hl [] rfl)
    · refine lv_aload_n C.1 C.2.1 dX4_readOrder_192 rfl (lv_at hl 0 rfl) ?_
      refine r_bipush C dX4_readOrder_193 (by decide +kernel) ?_
      obtain ⟨x30, M31, hr, h⟩ := bW_of h
      refine r_callVI (As := [.int (gI 12)]) (rest := []) C hl.1 hp (c_X4_pass l C.2.2.2.2.2.2.2.2.2.2.2 hr) gw_680 gw_682 gw_9 xk_23 xs_23 xc_4 cal_X4_pass rfl rfl (Nat.le_of_ble_eq_true rfl) ⟨Nat.le_of_ble_eq_true rfl, Nat.le_of_ble_eq_true rfl⟩ dX4_readOrder_195 (fun H locs hp => ?_)
      refine r_if_eq (tgt := 215) C h dX4_readOrder_198 (by decide) (fun h => ?_) (fun h => ?_)
      · exact hJ27 _ _ _ _ h hp (lv_sub hl [] rfl)
      · refine lv_aload_n C.1 C.2.1 dX4_readOrder_201 rfl (lv_at hl 0 rfl) ?_
        refine r_iconst C dX4_readOrder_202 ?_
        refine r_bipush C dX4_readOrder_203 (by decide +kernel) ?_
        obtain ⟨x32, M33, hr, h⟩ := bW_of h
        refine r_callVI (As := [.int (gI 0), .int (gI 9)]) (rest := []) C hl.1 hp (c_X4_readNumber l C.2.2.2.2.2.2.2.2.2.2.2 hr) gw_672 gw_674 gw_8 xk_23 xs_23 xc_4 cal_X4_readNumber rfl rfl (Nat.le_of_ble_eq_true rfl) ⟨Nat.le_of_ble_eq_true rfl, Nat.le_of_ble_eq_true rfl⟩ dX4_readOrder_205 (fun H locs hp => ?_)
        refine r_if_eq (tgt := 215) C h dX4_readOrder_208 (by decide) (fun h => ?_) (fun h => ?_)
        · exact hJ27 _ _ _ _ h hp (lv_sub hl [] rfl)
        · refine r_iconst C dX4_readOrder_211 ?_
          refine r_goto (tgt := 216) C dX4_readOrder_212 (by decide) ?_
          cases h
          exact hR _ _ _ _ dX4_readOrder_216 g_nz1 hp
  refine r_ite h (fun hv h => ?_) (fun hv6 h => ?_)
  · refine r_lsw (off := 216) (tgt := 217) C dX4_readOrder_1 (by decide +kernel) (by rw [hv]; decide +kernel) (by decide) ?_
    refine r_jn (P := fun J => ∀ (M42 : g_M) (H : Heap) (locs : List Loc) (ls : Array Slot), J M42 = some res → g_PT xG V M42 s H locs → lv_has ls 2 [] → W p l e R s m args below meth c H locs 0 0 Q (F0 m 249 ls [])) h ?_ (fun J35 hJ35 h => ?_)
    · intro M42 H locs ls h hp hl
      refine r_iconst C dX4_readOrder_249 ?_
      cases h
      exact hR _ _ _ _ dX4_readOrder_250 g_nz0 hp
    refine lv_aload_n C.1 C.2.1 dX4_readOrder_217 rfl (lv_at hl 0 rfl) ?_
    refine r_iconst C dX4_readOrder_218 ?_
    refine r_bipush C dX4_readOrder_219 (by decide +kernel) ?_
    obtain ⟨x36, M37, hr, h⟩ := bW_of h
    refine r_callVI (As := [.int (gI 0), .int (gI 11)]) (rest := []) C hl.1 hp (c_X4_readNumber l C.2.2.2.2.2.2.2.2.2.2.2 hr) gw_672 gw_674 gw_8 xk_23 xs_23 xc_4 cal_X4_readNumber rfl rfl (Nat.le_of_ble_eq_true rfl) ⟨Nat.le_of_ble_eq_true rfl, Nat.le_of_ble_eq_true rfl⟩ dX4_readOrder_221 (fun H locs hp => ?_)
    refine r_if_eq (tgt := 249) C h dX4_readOrder_224 (by decide) (fun h => ?_) (fun h => ?_)
    · exact hJ35 _ _ _ _ h hp (lv_sub hl [] rfl)
    · refine lv_aload_n C.1 C.2.1 dX4_readOrder_227 rfl (lv_at hl 0 rfl) ?_
      refine r_bipush C dX4_readOrder_228 (by decide +kernel) ?_
      obtain ⟨x38, M39, hr, h⟩ := bW_of h
      refine r_callVI (As := [.int (gI 9)]) (rest := []) C hl.1 hp (c_X4_pass l C.2.2.2.2.2.2.2.2.2.2.2 hr) gw_680 gw_682 gw_9 xk_23 xs_23 xc_4 cal_X4_pass rfl rfl (Nat.le_of_ble_eq_true rfl) ⟨Nat.le_of_ble_eq_true rfl, Nat.le_of_ble_eq_true rfl⟩ dX4_readOrder_230 (fun H locs hp => ?_)
      refine r_if_eq (tgt := 249) C h dX4_readOrder_233 (by decide) (fun h => ?_) (fun h => ?_)
      · exact hJ35 _ _ _ _ h hp (lv_sub hl [] rfl)
      · refine lv_aload_n C.1 C.2.1 dX4_readOrder_236 rfl (lv_at hl 0 rfl) ?_
        refine r_iconst C dX4_readOrder_237 ?_
        refine r_iconst C dX4_readOrder_238 ?_
        obtain ⟨x40, M41, hr, h⟩ := bW_of h
        refine r_callVI (As := [.int (gI 1), .int (gI 3)]) (rest := []) C hl.1 hp (c_X4_readNumber l C.2.2.2.2.2.2.2.2.2.2.2 hr) gw_672 gw_674 gw_8 xk_23 xs_23 xc_4 cal_X4_readNumber rfl rfl (Nat.le_of_ble_eq_true rfl) ⟨Nat.le_of_ble_eq_true rfl, Nat.le_of_ble_eq_true rfl⟩ dX4_readOrder_239 (fun H locs hp => ?_)
        refine r_if_eq (tgt := 249) C h dX4_readOrder_242 (by decide) (fun h => ?_) (fun h => ?_)
        · exact hJ35 _ _ _ _ h hp (lv_sub hl [] rfl)
        · refine r_iconst C dX4_readOrder_245 ?_
          refine r_goto (tgt := 250) C dX4_readOrder_246 (by decide) ?_
          cases h
          exact hR _ _ _ _ dX4_readOrder_250 g_nz1 hp
  refine r_ite h (fun hv h => ?_) (fun hv7 h => ?_)
  · refine r_lsw (off := 250) (tgt := 251) C dX4_readOrder_1 (by decide +kernel) (by rw [hv]; decide +kernel) (by decide) ?_
    refine lv_aload_n C.1 C.2.1 dX4_readOrder_251 rfl (lv_at hl 0 rfl) ?_
    refine r_iconst C dX4_readOrder_252 ?_
    refine r_bipush C dX4_readOrder_253 (by decide +kernel) ?_
    obtain ⟨x43, M44, hr, h⟩ := bW_of h
    refine r_callVI (As := [.int (gI 0), .int (gI 11)]) (rest := []) C hl.1 hp (c_X4_readNumber l C.2.2.2.2.2.2.2.2.2.2.2 hr) gw_672 gw_674 gw_8 xk_23 xs_23 xc_4 cal_X4_readNumber rfl rfl (Nat.le_of_ble_eq_true rfl) ⟨Nat.le_of_ble_eq_true rfl, Nat.le_of_ble_eq_true rfl⟩ dX4_readOrder_255 (fun H locs hp => ?_)
    obtain ⟨hg, h⟩ := gd_of h
    cases h
    exact hR _ _ _ _ dX4_readOrder_258 (g_nzg hg) hp
  refine r_ite h (fun hv h => ?_) (fun hv24 h => ?_)
  · refine r_lsw (off := 59) (tgt := 60) C dX4_readOrder_1 (by decide +kernel) (by rw [hv]; decide +kernel) (by decide) ?_
    refine r_jn (P := fun J => ∀ (M56 : g_M) (H : Heap) (locs : List Loc) (ls : Array Slot), J M56 = some res → g_PT xG V M56 s H locs → lv_has ls 2 [] → W p l e R s m args below meth c H locs 0 0 Q (F0 m 111 ls [])) h ?_ (fun J45 hJ45 h => ?_)
    · intro M56 H locs ls h hp hl
      refine r_iconst C dX4_readOrder_111 ?_
      cases h
      exact hR _ _ _ _ dX4_readOrder_112 g_nz0 hp
    refine lv_aload_n C.1 C.2.1 dX4_readOrder_60 rfl (lv_at hl 0 rfl) ?_
    refine r_iconst C dX4_readOrder_61 ?_
    refine r_bipush C dX4_readOrder_62 (by decide +kernel) ?_
    obtain ⟨x46, M47, hr, h⟩ := bW_of h
    refine r_callVI (As := [.int (gI 0), .int (gI 11)]) (rest := []) C hl.1 hp (c_X4_readNumber l C.2.2.2.2.2.2.2.2.2.2.2 hr) gw_672 gw_674 gw_8 xk_23 xs_23 xc_4 cal_X4_readNumber rfl rfl (Nat.le_of_ble_eq_true rfl) ⟨Nat.le_of_ble_eq_true rfl, Nat.le_of_ble_eq_true rfl⟩ dX4_readOrder_64 (fun H locs hp => ?_)
    refine r_if_eq (tgt := 111) C h dX4_readOrder_67 (by decide) (fun h => ?_) (fun h => ?_)
    · exact hJ45 _ _ _ _ h hp (lv_sub hl [] rfl)
    · refine lv_aload_n C.1 C.2.1 dX4_readOrder_70 rfl (lv_at hl 0 rfl) ?_
      refine r_bipush C dX4_readOrder_71 (by decide +kernel) ?_
      obtain ⟨x48, M49, hr, h⟩ := bW_of h
      refine r_callVI (As := [.int (gI 9)]) (rest := []) C hl.1 hp (c_X4_pass l C.2.2.2.2.2.2.2.2.2.2.2 hr) gw_680 gw_682 gw_9 xk_23 xs_23 xc_4 cal_X4_pass rfl rfl (Nat.le_of_ble_eq_true rfl) ⟨Nat.le_of_ble_eq_true rfl, Nat.le_of_ble_eq_true rfl⟩ dX4_readOrder_73 (fun H locs hp => ?_)
      refine r_if_eq (tgt := 111) C h dX4_readOrder_76 (by decide) (fun h => ?_) (fun h => ?_)
      · exact hJ45 _ _ _ _ h hp (lv_sub hl [] rfl)
      · refine lv_aload_n C.1 C.2.1 dX4_readOrder_79 rfl (lv_at hl 0 rfl) ?_
        refine r_iconst C dX4_readOrder_80 ?_
        refine r_iconst C dX4_readOrder_81 ?_
        obtain ⟨x50, M51, hr, h⟩ := bW_of h
        refine r_callVI (As := [.int (gI 0), .int (gI 3)]) (rest := []) C hl.1 hp (c_X4_readNumber l C.2.2.2.2.2.2.2.2.2.2.2 hr) gw_672 gw_674 gw_8 xk_23 xs_23 xc_4 cal_X4_readNumber rfl rfl (Nat.le_of_ble_eq_true rfl) ⟨Nat.le_of_ble_eq_true rfl, Nat.le_of_ble_eq_true rfl⟩ dX4_readOrder_82 (fun H locs hp => ?_)
        refine r_if_eq (tgt := 111) C h dX4_readOrder_85 (by decide) (fun h => ?_) (fun h => ?_)
        · exact hJ45 _ _ _ _ h hp (lv_sub hl [] rfl)
        · refine lv_aload_n C.1 C.2.1 dX4_readOrder_88 rfl (lv_at hl 0 rfl) ?_
          refine r_bipush C dX4_readOrder_89 (by decide +kernel) ?_
          obtain ⟨x52, M53, hr, h⟩ := bW_of h
          refine r_callVI (As := [.int (gI 10)]) (rest := []) C hl.1 hp (c_X4_pass l C.2.2.2.2.2.2.2.2.2.2.2 hr) gw_680 gw_682 gw_9 xk_23 xs_23 xc_4 cal_X4_pass rfl rfl (Nat.le_of_ble_eq_true rfl) ⟨Nat.le_of_ble_eq_true rfl, Nat.le_of_ble_eq_true rfl⟩ dX4_readOrder_91 (fun H locs hp => ?_)
          refine r_if_eq (tgt := 111) C h dX4_readOrder_94 (by decide) (fun h => ?_) (fun h => ?_)
          · exact hJ45 _ _ _ _ h hp (lv_sub hl [] rfl)
          · refine lv_aload_n C.1 C.2.1 dX4_readOrder_97 rfl (lv_at hl 0 rfl) ?_
            refine r_iconst C dX4_readOrder_98 ?_
            refine r_bipush C dX4_readOrder_99 (by decide +kernel) ?_
            obtain ⟨x54, M55, hr, h⟩ := bW_of h
            refine r_callVI (As := [.int (gI 0), .int (gI 12)]) (rest := []) C hl.1 hp (c_X4_readNumber l C.2.2.2.2.2.2.2.2.2.2.2 hr) gw_672 gw_674 gw_8 xk_23 xs_23 xc_4 cal_X4_readNumber rfl rfl (Nat.le_of_ble_eq_true rfl) ⟨Nat.le_of_ble_eq_true rfl, Nat.le_of_ble_eq_true rfl⟩ dX4_readOrder_101 (fun H locs hp => ?_)
            refine r_if_eq (tgt := 111) C h dX4_readOrder_104 (by decide) (fun h => ?_) (fun h => ?_)
            · exact hJ45 _ _ _ _ h hp (lv_sub hl [] rfl)
            · refine r_iconst C dX4_readOrder_107 ?_
              refine r_goto (tgt := 112) C dX4_readOrder_108 (by decide) ?_
              cases h
              exact hR _ _ _ _ dX4_readOrder_112 g_nz1 hp
  have hd : W p l e R s m args below meth c H locs 0 0 Q (F0 m 259 ls []) := by
    refine lv_aload_n C.1 C.2.1 dX4_readOrder_259 rfl (lv_at hl 0 rfl) ?_
    refine r_iconst C dX4_readOrder_260 ?_
    refine r_bipush C dX4_readOrder_261 (by decide +kernel) ?_
    obtain ⟨x57, M58, hr, h⟩ := bW_of h
    refine r_callVI (As := [.int (gI 1), .int (gI 40)]) (rest := []) C hl.1 hp (c_X4_readNumber l C.2.2.2.2.2.2.2.2.2.2.2 hr) gw_672 gw_674 gw_8 xk_23 xs_23 xc_4 cal_X4_readNumber rfl rfl (Nat.le_of_ble_eq_true rfl) ⟨Nat.le_of_ble_eq_true rfl, Nat.le_of_ble_eq_true rfl⟩ dX4_readOrder_263 (fun H locs hp => ?_)
    obtain ⟨hg, h⟩ := gd_of h
    cases h
    exact hR _ _ _ _ dX4_readOrder_266 (g_nzg hg) hp
  exact r_lsw (off := 258) (tgt := 259) C dX4_readOrder_1 (by decide +kernel) (by simp [Op.lookupswitch.offset, Ne.symm hv3, Ne.symm hv4, Ne.symm hv5, Ne.symm hv6, Ne.symm hv7, Ne.symm hv24]) (by decide) hd
theorem c_X4_readOrder (l : Launch) {V : g_V} (hok : g_ok xG V) {a1 : Int} {M : g_M} {x : Int} {M2 : g_M} (h : m_X4_readOrder a1 M = some (x, M2)) : MetI xG V l yX4_readOrder cX4_readOrder 2 (some .boolean) 11 366 [.ref (V.2.2 23), .int (gI a1)] M x M2 :=
  g_metI hok cal_X4_readOrder.2.2.2 rfl (Nat.le_of_ble_eq_true rfl) (@fun p e R s m args below meth c Q ls C hR hp hl => b_X4_readOrder C hR h hp hl)
set_option maxRecDepth 100000 in
set_option maxHeartbeats 4000000 in
theorem b_X4_readClause (C : g_CX xG V p R s m args meth c cX4_readClause 4 (some .boolean) RX4 112 2789) {res : Int × g_M} (hR : g_RetI xG V p l e R s m args below meth c Q cX4_readClause .boolean res.1 res.2)  {M : g_M} {H : Heap} {locs : List Loc} {ls : Array Slot} (h : m_X4_readClause M = some res) (hp : g_PT xG V M s H locs) (hl : lv_has ls 4 [(0, .ref (V.2.2 23))]) : W p l e R s m args below meth c H locs 0 0 Q (F0 m 0 ls []) := by
  unfold m_X4_readClause at h
  refine r_jn (P := fun J => ∀ (x18 : Int) (x19 : Int) (H : Heap) (locs : List Loc) (ls : Array Slot), J x18 x19 = some res → g_PT xG V M s H locs → lv_has ls 4 [(0, .ref (V.2.2 23)), (1, .int (gI x18)), (2, .int (gI x19))] → W p l e R s m args below meth c H locs 0 0 Q (F0 m 38 ls [])) h ?_ (fun J11 hJ11 h => ?_)
  · intro x18 x19 H locs ls h hp hl
    refine r_jn (P := fun J => ∀  (H : Heap) (locs : List Loc) (ls : Array Slot), J  = some res → g_PT xG V M s H locs → lv_has ls 4 [(0, .ref (V.2.2 23)), (1, .int (gI x18)), (2, .int (gI x19))] → W p l e R s m args below meth c H locs 0 0 Q (F0 m 59 ls [])) h ?_ (fun J20 hJ20 h => ?_)
    · intro  H locs ls h hp hl
      refine lv_aload_n C.1 C.2.1 dX4_readClause_59 rfl (lv_at hl 0 rfl) ?_
      refine r_getr (t := 25) C hp xk_23 xs_23 xc_4 xin_4 (j := 0) (by decide) rfl gw_280 rfl dX4_readClause_60 ?_
      refine r_geti (t := 0) C hp xk_25 xs_25 xc_7 xin_7 (j := 6) (by decide) rfl gw_260 rfl dX4_readClause_63 ?_
      refine r_bipush C dX4_readClause_66 (by decide +kernel) ?_
      refine r_icmp_lt (tgt := 78) C h dX4_readClause_68 (by decide) (fun h => ?_) (fun h => ?_)
      · refine lv_aload_n C.1 C.2.1 dX4_readClause_78 rfl (lv_at hl 0 rfl) ?_
        refine r_getr (t := 25) C hp xk_23 xs_23 xc_4 xin_4 (j := 0) (by decide) rfl gw_280 rfl dX4_readClause_79 ?_
        refine lv_iload_n C.1 C.2.1 dX4_readClause_82 rfl (lv_at hl 1 rfl) ?_
        obtain ⟨M24, hr, h⟩ := bd_of h
        refine r_callVV (As := [.int (gI x18)]) (rest := []) C hl.1 hp (c_X7_begin l C.2.2.2.2.2.2.2.2.2.2.2 xT_25 hr) gw_664 gw_665 gw_666 xk_25 xs_25 xc_7 cal_X7_begin rfl rfl (Nat.le_of_ble_eq_true rfl) ⟨Nat.le_of_ble_eq_true rfl, Nat.le_of_ble_eq_true rfl⟩ dX4_readClause_83 (fun H locs hp => ?_)
        refine lv_aload_n C.1 C.2.1 dX4_readClause_86 rfl (lv_at hl 0 rfl) ?_
        obtain ⟨M25, hr, h⟩ := bd_of h
        refine r_callVV (As := []) (rest := []) C hl.1 hp (c_X4_advance l C.2.2.2.2.2.2.2.2.2.2.2 hr) gw_519 gw_521 gw_1 xk_23 xs_23 xc_4 cal_X4_advance rfl rfl (Nat.le_of_ble_eq_true rfl) ⟨Nat.le_of_ble_eq_true rfl, Nat.le_of_ble_eq_true rfl⟩ dX4_readClause_87 (fun H locs hp => ?_)
        refine lv_iload_n C.1 C.2.1 dX4_readClause_90 rfl (lv_at hl 2 rfl) ?_
        refine r_if_ne (tgt := 117) C h dX4_readClause_91 (by decide) (fun h => ?_) (fun h => ?_)
        · refine r_jn (P := fun J => ∀ (M35 : g_M) (H : Heap) (locs : List Loc) (ls : Array Slot), J M35 = some res → g_PT xG V M35 s H locs → lv_has ls 4 [] → W p l e R s m args below meth c H locs 0 0 Q (F0 m 183 ls [])) h ?_ (fun J26 hJ26 h => ?_)
          · intro M35 H locs ls h hp hl
            refine r_iconst C dX4_readClause_183 ?_
            cases h
            exact hR _ _ _ _ dX4_readClause_184 g_nz0 hp
          refine lv_aload_n C.1 C.2.1 dX4_readClause_117 rfl (lv_at hl 0 rfl) ?_
          refine lv_iload_n C.1 C.2.1 dX4_readClause_118 rfl (lv_at hl 1 rfl) ?_
          refine r_puti C hp h xk_23 xs_23 xc_4 xin_4 tyX4 tyX4_ok nmX4 (j := 9) (by decide) rfl gw_293 rfl rfl rfl dX4_readClause_119 (fun M27 H locs h hp => ?_)
          refine lv_aload_n C.1 C.2.1 dX4_readClause_122 rfl (lv_at hl 0 rfl) ?_
          refine r_getr (t := 25) C hp xk_23 xs_23 xc_4 xin_4 (j := 0) (by decide) rfl gw_280 rfl dX4_readClause_123 ?_
          refine r_getr (t := 27) C hp xk_25 xs_25 xc_7 xin_7 (j := 2) (by decide) rfl gw_252 rfl dX4_readClause_126 ?_
          refine lv_aload_n C.1 C.2.1 dX4_readClause_129 rfl (lv_at hl 0 rfl) ?_
          refine r_geti (t := 0) C hp xk_23 xs_23 xc_4 xin_4 (j := 9) (by decide) rfl gw_293 rfl dX4_readClause_130 ?_
          refine lv_aload_n C.1 C.2.1 dX4_readClause_133 rfl (lv_at hl 0 rfl) ?_
          refine r_getr (t := 25) C hp xk_23 xs_23 xc_4 xin_4 (j := 0) (by decide) rfl gw_280 rfl dX4_readClause_134 ?_
          refine r_geti (t := 0) C hp xk_25 xs_25 xc_7 xin_7 (j := 1) (by decide) rfl gw_249 rfl dX4_readClause_137 ?_
          refine r_iast C hp h xk_27 xs_27 dX4_readClause_140 (fun M28 H locs h hp => ?_)
          refine lv_aload_n C.1 C.2.1 dX4_readClause_141 rfl (lv_at hl 0 rfl) ?_
          refine r_iconst C dX4_readClause_142 ?_
          obtain ⟨x29, M30, hr, h⟩ := bW_of h
          refine r_callVI (As := [.int (gI 0)]) (rest := []) C hl.1 hp (x_RC_0 (c_rd l C.2.2.2.2.2.2.2.2.2.2.2 g_depth) hr) gw_684 gw_686 gw_10 xk_23 xs_23 xc_4 cal_X4_readSum rfl rfl (Nat.le_of_ble_eq_true rfl) ⟨Nat.le_of_ble_eq_true rfl, Nat.le_of_ble_eq_true rfl⟩ dX4_readClause_143 (fun H locs hp => ?_)
          refine r_istore_n (lv' := fun x31 => [(3, .int (gI x31)), (0, .ref (V.2.2 23)), (1, .int (gI x18)), (2, .int (gI x19))]) C h dX4_readClause_146 rfl hl (by decide) (fun _ => rfl) (fun x31 ls h hl => ?_)
          refine lv_aload_n C.1 C.2.1 dX4_readClause_147 rfl (lv_at hl 1 rfl) ?_
          refine r_getr (t := 25) C hp xk_23 xs_23 xc_4 xin_4 (j := 0) (by decide) rfl gw_280 rfl dX4_readClause_148 ?_
          refine r_getr (t := 28) C hp xk_25 xs_25 xc_7 xin_7 (j := 3) (by decide) rfl gw_255 rfl dX4_readClause_151 ?_
          refine lv_aload_n C.1 C.2.1 dX4_readClause_154 rfl (lv_at hl 1 rfl) ?_
          refine r_geti (t := 0) C hp xk_23 xs_23 xc_4 xin_4 (j := 9) (by decide) rfl gw_293 rfl dX4_readClause_155 ?_
          refine lv_aload_n C.1 C.2.1 dX4_readClause_158 rfl (lv_at hl 1 rfl) ?_
          refine r_getr (t := 25) C hp xk_23 xs_23 xc_4 xin_4 (j := 0) (by decide) rfl gw_280 rfl dX4_readClause_159 ?_
          refine r_geti (t := 0) C hp xk_25 xs_25 xc_7 xin_7 (j := 1) (by decide) rfl gw_249 rfl dX4_readClause_162 ?_
          refine r_iast C hp h xk_28 xs_28 dX4_readClause_165 (fun M32 H locs h hp => ?_)
          refine lv_iload_n C.1 C.2.1 dX4_readClause_166 rfl (lv_at hl 0 rfl) ?_
          refine r_if_eq (tgt := 183) C h dX4_readClause_167 (by decide) (fun h => ?_) (fun h => ?_)
          · exact hJ26 _ _ _ _ h hp (lv_sub hl [] rfl)
          · refine lv_aload_n C.1 C.2.1 dX4_readClause_170 rfl (lv_at hl 1 rfl) ?_
            refine r_bipush C dX4_readClause_171 (by decide +kernel) ?_
            obtain ⟨x33, M34, hr, h⟩ := bW_of h
            refine r_callVI (As := [.int (gI 61)]) (rest := []) C hl.1 hp (c_X4_pass l C.2.2.2.2.2.2.2.2.2.2.2 hr) gw_680 gw_682 gw_9 xk_23 xs_23 xc_4 cal_X4_pass rfl rfl (Nat.le_of_ble_eq_true rfl) ⟨Nat.le_of_ble_eq_true rfl, Nat.le_of_ble_eq_true rfl⟩ dX4_readClause_173 (fun H locs hp => ?_)
            refine r_if_eq (tgt := 183) C h dX4_readClause_176 (by decide) (fun h => ?_) (fun h => ?_)
            · exact hJ26 _ _ _ _ h hp (lv_sub hl [] rfl)
            · refine r_iconst C dX4_readClause_179 ?_
              refine r_goto (tgt := 184) C dX4_readClause_180 (by decide) ?_
              cases h
              exact hR _ _ _ _ dX4_readClause_184 g_nz1 hp
        · refine r_jn (P := fun J => ∀ (M41 : g_M) (H : Heap) (locs : List Loc) (ls : Array Slot), J M41 = some res → g_PT xG V M41 s H locs → lv_has ls 4 [] → W p l e R s m args below meth c H locs 0 0 Q (F0 m 115 ls [])) h ?_ (fun J36 hJ36 h => ?_)
          · intro M41 H locs ls h hp hl
            refine r_iconst C dX4_readClause_115 ?_
            cases h
            exact hR _ _ _ _ dX4_readClause_116 g_nz0 hp
          refine lv_aload_n C.1 C.2.1 dX4_readClause_94 rfl (lv_at hl 0 rfl) ?_
          refine lv_iload_n C.1 C.2.1 dX4_readClause_95 rfl (lv_at hl 1 rfl) ?_
          obtain ⟨x37, M38, hr, h⟩ := bW_of h
          refine r_callVI (As := [.int (gI x18)]) (rest := []) C hl.1 hp (c_X4_readOrder l C.2.2.2.2.2.2.2.2.2.2.2 hr) gw_668 gw_670 gw_7 xk_23 xs_23 xc_4 cal_X4_readOrder rfl rfl (Nat.le_of_ble_eq_true rfl) ⟨Nat.le_of_ble_eq_true rfl, Nat.le_of_ble_eq_true rfl⟩ dX4_readClause_96 (fun H locs hp => ?_)
          refine r_if_eq (tgt := 115) C h dX4_readClause_99 (by decide) (fun h => ?_) (fun h => ?_)
          · exact hJ36 _ _ _ _ h hp (lv_sub hl [] rfl)
          · refine lv_aload_n C.1 C.2.1 dX4_readClause_102 rfl (lv_at hl 0 rfl) ?_
            refine r_bipush C dX4_readClause_103 (by decide +kernel) ?_
            obtain ⟨x39, M40, hr, h⟩ := bW_of h
            refine r_callVI (As := [.int (gI 61)]) (rest := []) C hl.1 hp (c_X4_pass l C.2.2.2.2.2.2.2.2.2.2.2 hr) gw_680 gw_682 gw_9 xk_23 xs_23 xc_4 cal_X4_pass rfl rfl (Nat.le_of_ble_eq_true rfl) ⟨Nat.le_of_ble_eq_true rfl, Nat.le_of_ble_eq_true rfl⟩ dX4_readClause_105 (fun H locs hp => ?_)
            refine r_if_eq (tgt := 115) C h dX4_readClause_108 (by decide) (fun h => ?_) (fun h => ?_)
            · exact hJ36 _ _ _ _ h hp (lv_sub hl [] rfl)
            · refine r_iconst C dX4_readClause_111 ?_
              refine r_goto (tgt := 116) C dX4_readClause_112 (by decide) ?_
              cases h
              exact hR _ _ _ _ dX4_readClause_116 g_nz1 hp
      · refine lv_aload_n C.1 C.2.1 dX4_readClause_71 rfl (lv_at hl 0 rfl) ?_
        refine r_bipush C dX4_readClause_72 (by decide +kernel) ?_
        obtain ⟨x42, M43, hr, h⟩ := bW_of h
        refine r_callVI (As := [.int (gI 6)]) (rest := []) C hl.1 hp (c_X4_wrong l C.2.2.2.2.2.2.2.2.2.2.2 hr) gw_656 gw_658 gw_6 xk_23 xs_23 xc_4 cal_X4_wrong rfl rfl (Nat.le_of_ble_eq_true rfl) ⟨Nat.le_of_ble_eq_true rfl, Nat.le_of_ble_eq_true rfl⟩ dX4_readClause_74 (fun H locs hp => ?_)
        obtain ⟨hg, h⟩ := gd_of h
        cases h
        exact hR _ _ _ _ dX4_readClause_77 (g_nzg hg) hp
    refine lv_iload_n C.1 C.2.1 dX4_readClause_38 rfl (lv_at hl 2 rfl) ?_
    refine r_if_eq (tgt := 59) C h dX4_readClause_39 (by decide) (fun h => ?_) (fun h => ?_)
    · exact hJ20  _ _ _ h hp hl
    · refine lv_aload_n C.1 C.2.1 dX4_readClause_42 rfl (lv_at hl 0 rfl) ?_
      refine r_getr (t := 25) C hp xk_23 xs_23 xc_4 xin_4 (j := 0) (by decide) rfl gw_280 rfl dX4_readClause_43 ?_
      refine lv_iload_n C.1 C.2.1 dX4_readClause_46 rfl (lv_at hl 1 rfl) ?_
      obtain ⟨x21, hr, h⟩ := bd_of h
      refine r_callVI (As := [.int (gI x18)]) (rest := []) C hl.1 hp (c_X7_has l C.2.2.2.2.2.2.2.2.2.2.2 xT_25 hr) gw_660 gw_661 gw_662 xk_25 xs_25 xc_7 cal_X7_has rfl rfl (Nat.le_of_ble_eq_true rfl) ⟨Nat.le_of_ble_eq_true rfl, Nat.le_of_ble_eq_true rfl⟩ dX4_readClause_47 (fun H locs hp => ?_)
      refine r_if_eq (tgt := 59) C h dX4_readClause_50 (by decide) (fun h => ?_) (fun h => ?_)
      · exact hJ20  _ _ _ h hp hl
      · refine lv_aload_n C.1 C.2.1 dX4_readClause_53 rfl (lv_at hl 0 rfl) ?_
        refine r_iconst C dX4_readClause_54 ?_
        obtain ⟨x22, M23, hr, h⟩ := bW_of h
        refine r_callVI (As := [.int (gI 4)]) (rest := []) C hl.1 hp (c_X4_wrong l C.2.2.2.2.2.2.2.2.2.2.2 hr) gw_656 gw_658 gw_6 xk_23 xs_23 xc_4 cal_X4_wrong rfl rfl (Nat.le_of_ble_eq_true rfl) ⟨Nat.le_of_ble_eq_true rfl, Nat.le_of_ble_eq_true rfl⟩ dX4_readClause_55 (fun H locs hp => ?_)
        obtain ⟨hg, h⟩ := gd_of h
        cases h
        exact hR _ _ _ _ dX4_readClause_58 (g_nzg hg) hp
  refine lv_aload_n C.1 C.2.1 dX4_readClause_0 rfl (lv_at hl 0 rfl) ?_
  refine r_geti (t := 0) C hp xk_23 xs_23 xc_4 xin_4 (j := 7) (by decide) rfl gw_291 rfl dX4_readClause_1 ?_
  refine r_istore_n (lv' := fun x12 => [(1, .int (gI x12)), (0, .ref (V.2.2 23))]) C h dX4_readClause_4 rfl hl (by decide) (fun _ => rfl) (fun x12 ls h hl => ?_)
  refine lv_iload_n C.1 C.2.1 dX4_readClause_5 rfl (lv_at hl 0 rfl) ?_
  refine r_iconst C dX4_readClause_6 ?_
  refine r_iconst C dX4_readClause_7 ?_
  obtain ⟨x13, hr, h⟩ := bd_of h
  refine r_callNI (As := [.int (gI x12), .int (gI 0), .int (gI 2)]) (rest := []) C hl.1 hp (c_X8_within l C.2.2.2.2.2.2.2.2.2.2.2 hr) (x_nest C (i := 0) rfl) gw_464 cal_X8_within rfl rfl (Nat.le_of_ble_eq_true rfl) ⟨Nat.le_of_ble_eq_true rfl, Nat.le_of_ble_eq_true rfl⟩ dX4_readClause_8 (fun H locs hp => ?_)
  refine r_istore_n (lv' := fun x14 => [(2, .int (gI x14)), (1, .int (gI x12)), (0, .ref (V.2.2 23))]) C h dX4_readClause_11 rfl hl (by decide) (fun _ => rfl) (fun x14 ls h hl => ?_)
  refine lv_iload_n C.1 C.2.1 dX4_readClause_12 rfl (lv_at hl 0 rfl) ?_
  refine r_if_ne (tgt := 38) C h dX4_readClause_13 (by decide) (fun h => ?_) (fun h => ?_)
  · exact hJ11 _ _ _ _ _ h hp (lv_sub hl [2, 1, 0] rfl)
  · refine lv_iload_n C.1 C.2.1 dX4_readClause_16 rfl (lv_at hl 1 rfl) ?_
    refine r_bipush C dX4_readClause_17 (by decide +kernel) ?_
    refine r_icmp_eq (tgt := 38) C h dX4_readClause_19 (by decide) (fun h => ?_) (fun h => ?_)
    · exact hJ11 _ _ _ _ _ h hp (lv_sub hl [2, 1, 0] rfl)
    · refine lv_iload_n C.1 C.2.1 dX4_readClause_22 rfl (lv_at hl 1 rfl) ?_
      refine r_iconst C dX4_readClause_23 ?_
      refine r_bipush C dX4_readClause_24 (by decide +kernel) ?_
      obtain ⟨x15, hr, h⟩ := bd_of h
      refine r_callNI (As := [.int (gI x12), .int (gI 3), .int (gI 8)]) (rest := []) C hl.1 hp (c_X8_within l C.2.2.2.2.2.2.2.2.2.2.2 hr) (x_nest C (i := 0) rfl) gw_464 cal_X8_within rfl rfl (Nat.le_of_ble_eq_true rfl) ⟨Nat.le_of_ble_eq_true rfl, Nat.le_of_ble_eq_true rfl⟩ dX4_readClause_26 (fun H locs hp => ?_)
      refine r_if_ne (tgt := 38) C h dX4_readClause_29 (by decide) (fun h => ?_) (fun h => ?_)
      · exact hJ11 _ _ _ _ _ h hp (lv_sub hl [2, 1, 0] rfl)
      · refine lv_aload_n C.1 C.2.1 dX4_readClause_32 rfl (lv_at hl 2 rfl) ?_
        refine r_iconst C dX4_readClause_33 ?_
        obtain ⟨x16, M17, hr, h⟩ := bW_of h
        refine r_callVI (As := [.int (gI 1)]) (rest := []) C hl.1 hp (c_X4_wrong l C.2.2.2.2.2.2.2.2.2.2.2 hr) gw_656 gw_658 gw_6 xk_23 xs_23 xc_4 cal_X4_wrong rfl rfl (Nat.le_of_ble_eq_true rfl) ⟨Nat.le_of_ble_eq_true rfl, Nat.le_of_ble_eq_true rfl⟩ dX4_readClause_34 (fun H locs hp => ?_)
        obtain ⟨hg, h⟩ := gd_of h
        cases h
        exact hR _ _ _ _ dX4_readClause_37 (g_nzg hg) hp
theorem c_X4_readClause (l : Launch) {V : g_V} (hok : g_ok xG V)  {M : g_M} {x : Int} {M2 : g_M} (h : m_X4_readClause M = some (x, M2)) : MetI xG V l yX4_readClause cX4_readClause 4 (some .boolean) 112 2789 [.ref (V.2.2 23)] M x M2 :=
  g_metI hok cal_X4_readClause.2.2.2 rfl (Nat.le_of_ble_eq_true rfl) (@fun p e R s m args below meth c Q ls C hR hp hl => b_X4_readClause C hR h hp hl)
set_option maxRecDepth 100000 in
set_option maxHeartbeats 4000000 in
theorem w_X4_read_L30 (C : g_CX xG V p R s m args meth c cX4_read 3 (some .boolean) RX4 113 2812) {res : Int × g_M} (hR : g_RetI xG V p l e R s m args below meth c Q cX4_read .boolean res.1 res.2)  (k21 : Int → g_M → Option (Int × g_M)) (hk21 : ∀ (x26 : Int) (M27 : g_M) (H : Heap) (locs : List Loc) (ls : Array Slot), k21 x26 M27 = some res → g_PT xG V M27 s H locs → lv_has ls 3 [(0, .ref (V.2.2 23)), (1, .int (gI x26))] → W p l e R s m args below meth c H locs 0 0 Q (F0 m 60 ls [])) : ∀ (f : Nat) (x18 : Int) (x19 : Int) (M20 : g_M) (H : Heap) (locs : List Loc) (ls : Array Slot), m_X4_read_L30 k21 f x18 x19 M20 = some res → g_PT xG V M20 s H locs → lv_has ls 3 [(0, .ref (V.2.2 23)), (1, .int (gI x18)), (2, .int (gI x19))] → W p l e R s m args below meth c H locs 0 0 Q (F0 m 30 ls []) := by
  intro f
  induction f with
  | zero => intro x18 x19 M20 H locs ls h hp hl; cases h
  | succ f ih =>
    intro x18 x19 M20 H locs ls h hp hl
    rw [m_X4_read_L30] at h
    refine lv_iload_n C.1 C.2.1 dX4_read_30 rfl (lv_at hl 2 rfl) ?_
    refine r_bipush C dX4_read_31 (by decide +kernel) ?_
    refine r_icmp_gt (tgt := 60) C h dX4_read_33 (by decide) (fun h => ?_) (fun h => ?_)
    · exact hk21 _ _ _ _ _ h hp (lv_sub hl [0, 1] rfl)
    · refine lv_iload_n C.1 C.2.1 dX4_read_36 rfl (lv_at hl 1 rfl) ?_
      refine r_if_eq (tgt := 60) C h dX4_read_37 (by decide) (fun h => ?_) (fun h => ?_)
      · exact hk21 _ _ _ _ _ h hp (lv_sub hl [0, 1] rfl)
      · refine lv_aload_n C.1 C.2.1 dX4_read_40 rfl (lv_at hl 0 rfl) ?_
        refine r_geti (t := 0) C hp xk_23 xs_23 xc_4 xin_4 (j := 7) (by decide) rfl gw_291 rfl dX4_read_41 ?_
        refine r_bipush C dX4_read_44 (by decide +kernel) ?_
        refine r_icmp_eq (tgt := 60) C h dX4_read_46 (by decide) (fun h => ?_) (fun h => ?_)
        · exact hk21 _ _ _ _ _ h hp (lv_sub hl [0, 1] rfl)
        · refine lv_aload_n C.1 C.2.1 dX4_read_49 rfl (lv_at hl 0 rfl) ?_
          obtain ⟨x22, M23, hr, h⟩ := bW_of h
          refine r_callVI (As := []) (rest := []) C hl.1 hp (c_X4_readClause l C.2.2.2.2.2.2.2.2.2.2.2 hr) gw_651 gw_653 gw_5 xk_23 xs_23 xc_4 cal_X4_readClause rfl rfl (Nat.le_of_ble_eq_true rfl) ⟨Nat.le_of_ble_eq_true rfl, Nat.le_of_ble_eq_true rfl⟩ dX4_read_50 (fun H locs hp => ?_)
          refine r_istore_n (lv' := fun x24 => [(1, .int (gI x24)), (0, .ref (V.2.2 23)), (2, .int (gI x19))]) C h dX4_read_53 rfl hl (by decide) (fun _ => rfl) (fun x24 ls h hl => ?_)
          refine r_iinc (lv' := fun x25 => [(2, .int (gI x25)), (1, .int (gI x24)), (0, .ref (V.2.2 23))]) C h dX4_read_54 hl (j := 2) rfl (by decide) (fun _ => rfl) (fun x25 ls h hl => ?_)
          refine r_goto (tgt := 30) C dX4_read_57 (by decide) ?_
          exact ih _ _ _ _ _ _ h hp (lv_sub hl [2, 1, 0] rfl)
set_option maxRecDepth 100000 in
set_option maxHeartbeats 4000000 in
theorem b_X4_read (C : g_CX xG V p R s m args meth c cX4_read 3 (some .boolean) RX4 113 2812) {res : Int × g_M} (hR : g_RetI xG V p l e R s m args below meth c Q cX4_read .boolean res.1 res.2)  {M : g_M} {H : Heap} {locs : List Loc} {ls : Array Slot} (h : m_X4_read M = some res) (hp : g_PT xG V M s H locs) (hl : lv_has ls 3 [(0, .ref (V.2.2 23))]) : W p l e R s m args below meth c H locs 0 0 Q (F0 m 0 ls []) := by
  unfold m_X4_read at h
  refine lv_aload_n C.1 C.2.1 dX4_read_0 rfl (lv_at hl 0 rfl) ?_
  refine r_getr (t := 25) C hp xk_23 xs_23 xc_4 xin_4 (j := 0) (by decide) rfl gw_280 rfl dX4_read_1 ?_
  obtain ⟨M11, hr, h⟩ := bd_of h
  refine r_callVV (As := []) (rest := []) C hl.1 hp (c_X7_empty l C.2.2.2.2.2.2.2.2.2.2.2 xT_25 hr) gw_515 gw_516 gw_517 xk_25 xs_25 xc_7 cal_X7_empty rfl rfl (Nat.le_of_ble_eq_true rfl) ⟨Nat.le_of_ble_eq_true rfl, Nat.le_of_ble_eq_true rfl⟩ dX4_read_4 (fun H locs hp => ?_)
  refine lv_aload_n C.1 C.2.1 dX4_read_7 rfl (lv_at hl 0 rfl) ?_
  refine r_iconst C dX4_read_8 ?_
  refine r_puti C hp h xk_23 xs_23 xc_4 xin_4 tyX4 tyX4_ok nmX4 (j := 3) (by decide) rfl gw_285 rfl rfl rfl dX4_read_9 (fun M12 H locs h hp => ?_)
  refine lv_aload_n C.1 C.2.1 dX4_read_12 rfl (lv_at hl 0 rfl) ?_
  refine r_iconst C dX4_read_13 ?_
  refine r_puti C hp h xk_23 xs_23 xc_4 xin_4 tyX4 tyX4_ok nmX4 (j := 4) (by decide) rfl gw_287 rfl rfl rfl dX4_read_14 (fun M13 H locs h hp => ?_)
  refine lv_aload_n C.1 C.2.1 dX4_read_17 rfl (lv_at hl 0 rfl) ?_
  refine r_iconst C dX4_read_18 ?_
  refine r_puti C hp h xk_23 xs_23 xc_4 xin_4 tyX4 tyX4_ok nmX4 (j := 5) (by decide) rfl gw_289 rfl rfl rfl dX4_read_19 (fun M14 H locs h hp => ?_)
  refine lv_aload_n C.1 C.2.1 dX4_read_22 rfl (lv_at hl 0 rfl) ?_
  obtain ⟨M15, hr, h⟩ := bd_of h
  refine r_callVV (As := []) (rest := []) C hl.1 hp (c_X4_advance l C.2.2.2.2.2.2.2.2.2.2.2 hr) gw_519 gw_521 gw_1 xk_23 xs_23 xc_4 cal_X4_advance rfl rfl (Nat.le_of_ble_eq_true rfl) ⟨Nat.le_of_ble_eq_true rfl, Nat.le_of_ble_eq_true rfl⟩ dX4_read_23 (fun H locs hp => ?_)
  refine r_iconst C dX4_read_26 ?_
  refine r_istore_n (lv' := fun x16 => [(1, .int (gI x16)), (0, .ref (V.2.2 23))]) C h dX4_read_27 rfl hl (by decide) (fun _ => rfl) (fun x16 ls h hl => ?_)
  refine r_iconst C dX4_read_28 ?_
  refine r_istore_n (lv' := fun x17 => [(2, .int (gI x17)), (1, .int (gI x16)), (0, .ref (V.2.2 23))]) C h dX4_read_29 rfl hl (by decide) (fun _ => rfl) (fun x17 ls h hl => ?_)
  refine w_X4_read_L30 C hR _ ?_ _ _ _ _ H locs ls h hp (lv_sub hl [2, 1, 0] rfl)
  · intro x28 M29 H locs ls h hp hl
    refine lv_aload_n C.1 C.2.1 dX4_read_60 rfl (lv_at hl 0 rfl) ?_
    refine r_iconst C dX4_read_61 ?_
    refine r_puti C hp h xk_23 xs_23 xc_4 xin_4 tyX4 tyX4_ok nmX4 (j := 2) (by decide) rfl gw_283 rfl rfl rfl dX4_read_62 (fun M30 H locs h hp => ?_)
    refine lv_iload_n C.1 C.2.1 dX4_read_65 rfl (lv_at hl 1 rfl) ?_
    obtain ⟨hg, h⟩ := gd_of h
    cases h
    exact hR _ _ _ _ dX4_read_66 (g_nzg hg) hp
theorem c_X4_read (l : Launch) {V : g_V} (hok : g_ok xG V)  {M : g_M} {x : Int} {M2 : g_M} (h : m_X4_read M = some (x, M2)) : MetI xG V l yX4_read cX4_read 3 (some .boolean) 113 2812 [.ref (V.2.2 23)] M x M2 :=
  g_metI hok cal_X4_read.2.2.2 rfl (Nat.le_of_ble_eq_true rfl) (@fun p e R s m args below meth c Q ls C hR hp hl => b_X4_read C hR h hp hl)
end
