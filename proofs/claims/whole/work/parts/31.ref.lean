theorem dX9_isLong_0 : decode cX9_isLong 0 = .ok (.aload_n 0, 1) := by decide +kernel
theorem dX9_isLong_1 : decode cX9_isLong 1 = .ok (.getfield 120, 3) := by decide +kernel
theorem dX9_isLong_4 : decode cX9_isLong 4 = .ok (.iconst 2, 1) := by decide +kernel
theorem dX9_isLong_5 : decode cX9_isLong 5 = .ok (.if_icmp .ne 17, 3) := by decide +kernel
theorem dX9_isLong_8 : decode cX9_isLong 8 = .ok (.aload_n 0, 1) := by decide +kernel
theorem dX9_isLong_9 : decode cX9_isLong 9 = .ok (.getfield 110, 3) := by decide +kernel
theorem dX9_isLong_12 : decode cX9_isLong 12 = .ok (.aload_n 0, 1) := by decide +kernel
theorem dX9_isLong_13 : decode cX9_isLong 13 = .ok (.getfield 117, 3) := by decide +kernel
theorem dX9_isLong_16 : decode cX9_isLong 16 = .ok (.isub, 1) := by decide +kernel
theorem dX9_isLong_17 : decode cX9_isLong 17 = .ok (.iload 5, 2) := by decide +kernel
theorem dX9_isLong_19 : decode cX9_isLong 19 = .ok (.if_icmp .eq 5, 3) := by decide +kernel
theorem dX9_isLong_22 : decode cX9_isLong 22 = .ok (.iconst 0, 1) := by decide +kernel
theorem dX9_isLong_23 : decode cX9_isLong 23 = .ok (.ireturn, 1) := by decide +kernel
theorem dX9_isLong_24 : decode cX9_isLong 24 = .ok (.iload 5, 2) := by decide +kernel
theorem dX9_isLong_26 : decode cX9_isLong 26 = .ok (.bipush 7, 2) := by decide +kernel
theorem dX9_isLong_28 : decode cX9_isLong 28 = .ok (.if_icmp .ne 40, 3) := by decide +kernel
theorem dX9_isLong_31 : decode cX9_isLong 31 = .ok (.aload_n 0, 1) := by decide +kernel
theorem dX9_isLong_32 : decode cX9_isLong 32 = .ok (.aload_n 0, 1) := by decide +kernel
theorem dX9_isLong_33 : decode cX9_isLong 33 = .ok (.getfield 117, 3) := by decide +kernel
theorem dX9_isLong_36 : decode cX9_isLong 36 = .ok (.iconst 4, 1) := by decide +kernel
theorem dX9_isLong_37 : decode cX9_isLong 37 = .ok (.iadd, 1) := by decide +kernel
theorem dX9_isLong_38 : decode cX9_isLong 38 = .ok (.invokevirtual 113, 3) := by decide +kernel
theorem dX9_isLong_41 : decode cX9_isLong 41 = .ok (.aload_n 0, 1) := by decide +kernel
theorem dX9_isLong_42 : decode cX9_isLong 42 = .ok (.aload_n 0, 1) := by decide +kernel
theorem dX9_isLong_43 : decode cX9_isLong 43 = .ok (.getfield 117, 3) := by decide +kernel
theorem dX9_isLong_46 : decode cX9_isLong 46 = .ok (.iconst 5, 1) := by decide +kernel
theorem dX9_isLong_47 : decode cX9_isLong 47 = .ok (.iadd, 1) := by decide +kernel
theorem dX9_isLong_48 : decode cX9_isLong 48 = .ok (.invokevirtual 113, 3) := by decide +kernel
theorem dX9_isLong_51 : decode cX9_isLong 51 = .ok (.aload_n 0, 1) := by decide +kernel
theorem dX9_isLong_52 : decode cX9_isLong 52 = .ok (.aload_n 0, 1) := by decide +kernel
theorem dX9_isLong_53 : decode cX9_isLong 53 = .ok (.getfield 117, 3) := by decide +kernel
theorem dX9_isLong_56 : decode cX9_isLong 56 = .ok (.bipush 6, 2) := by decide +kernel
theorem dX9_isLong_58 : decode cX9_isLong 58 = .ok (.iadd, 1) := by decide +kernel
theorem dX9_isLong_59 : decode cX9_isLong 59 = .ok (.invokevirtual 113, 3) := by decide +kernel
theorem dX9_isLong_62 : decode cX9_isLong 62 = .ok (.invokestatic 146, 3) := by decide +kernel
theorem dX9_isLong_65 : decode cX9_isLong 65 = .ok (.goto 48, 3) := by decide +kernel
theorem dX9_isLong_68 : decode cX9_isLong 68 = .ok (.aload_n 0, 1) := by decide +kernel
theorem dX9_isLong_69 : decode cX9_isLong 69 = .ok (.aload_n 0, 1) := by decide +kernel
theorem dX9_isLong_70 : decode cX9_isLong 70 = .ok (.getfield 117, 3) := by decide +kernel
theorem dX9_isLong_73 : decode cX9_isLong 73 = .ok (.iconst 4, 1) := by decide +kernel
theorem dX9_isLong_74 : decode cX9_isLong 74 = .ok (.iadd, 1) := by decide +kernel
theorem dX9_isLong_75 : decode cX9_isLong 75 = .ok (.invokevirtual 113, 3) := by decide +kernel
theorem dX9_isLong_78 : decode cX9_isLong 78 = .ok (.aload_n 0, 1) := by decide +kernel
theorem dX9_isLong_79 : decode cX9_isLong 79 = .ok (.aload_n 0, 1) := by decide +kernel
theorem dX9_isLong_80 : decode cX9_isLong 80 = .ok (.getfield 117, 3) := by decide +kernel
theorem dX9_isLong_83 : decode cX9_isLong 83 = .ok (.iconst 5, 1) := by decide +kernel
theorem dX9_isLong_84 : decode cX9_isLong 84 = .ok (.iadd, 1) := by decide +kernel
theorem dX9_isLong_85 : decode cX9_isLong 85 = .ok (.invokevirtual 113, 3) := by decide +kernel
theorem dX9_isLong_88 : decode cX9_isLong 88 = .ok (.aload_n 0, 1) := by decide +kernel
theorem dX9_isLong_89 : decode cX9_isLong 89 = .ok (.aload_n 0, 1) := by decide +kernel
theorem dX9_isLong_90 : decode cX9_isLong 90 = .ok (.getfield 117, 3) := by decide +kernel
theorem dX9_isLong_93 : decode cX9_isLong 93 = .ok (.bipush 6, 2) := by decide +kernel
theorem dX9_isLong_95 : decode cX9_isLong 95 = .ok (.iadd, 1) := by decide +kernel
theorem dX9_isLong_96 : decode cX9_isLong 96 = .ok (.invokevirtual 113, 3) := by decide +kernel
theorem dX9_isLong_99 : decode cX9_isLong 99 = .ok (.aload_n 0, 1) := by decide +kernel
theorem dX9_isLong_100 : decode cX9_isLong 100 = .ok (.aload_n 0, 1) := by decide +kernel
theorem dX9_isLong_101 : decode cX9_isLong 101 = .ok (.getfield 117, 3) := by decide +kernel
theorem dX9_isLong_104 : decode cX9_isLong 104 = .ok (.bipush 7, 2) := by decide +kernel
theorem dX9_isLong_106 : decode cX9_isLong 106 = .ok (.iadd, 1) := by decide +kernel
theorem dX9_isLong_107 : decode cX9_isLong 107 = .ok (.invokevirtual 113, 3) := by decide +kernel
theorem dX9_isLong_110 : decode cX9_isLong 110 = .ok (.invokestatic 150, 3) := by decide +kernel
theorem dX9_isLong_113 : decode cX9_isLong 113 = .ok (.lstore 6, 2) := by decide +kernel
theorem dX9_isLong_115 : decode cX9_isLong 115 = .ok (.aload_n 0, 1) := by decide +kernel
theorem dX9_isLong_116 : decode cX9_isLong 116 = .ok (.aload_n 0, 1) := by decide +kernel
theorem dX9_isLong_117 : decode cX9_isLong 117 = .ok (.getfield 117, 3) := by decide +kernel
theorem dX9_isLong_120 : decode cX9_isLong 120 = .ok (.invokevirtual 113, 3) := by decide +kernel
theorem dX9_isLong_123 : decode cX9_isLong 123 = .ok (.aload_n 0, 1) := by decide +kernel
theorem dX9_isLong_124 : decode cX9_isLong 124 = .ok (.aload_n 0, 1) := by decide +kernel
theorem dX9_isLong_125 : decode cX9_isLong 125 = .ok (.getfield 117, 3) := by decide +kernel
theorem dX9_isLong_128 : decode cX9_isLong 128 = .ok (.iconst 1, 1) := by decide +kernel
theorem dX9_isLong_129 : decode cX9_isLong 129 = .ok (.iadd, 1) := by decide +kernel
theorem dX9_isLong_130 : decode cX9_isLong 130 = .ok (.invokevirtual 113, 3) := by decide +kernel
theorem dX9_isLong_133 : decode cX9_isLong 133 = .ok (.aload_n 0, 1) := by decide +kernel
theorem dX9_isLong_134 : decode cX9_isLong 134 = .ok (.aload_n 0, 1) := by decide +kernel
theorem dX9_isLong_135 : decode cX9_isLong 135 = .ok (.getfield 117, 3) := by decide +kernel
theorem dX9_isLong_138 : decode cX9_isLong 138 = .ok (.iconst 2, 1) := by decide +kernel
theorem dX9_isLong_139 : decode cX9_isLong 139 = .ok (.iadd, 1) := by decide +kernel
theorem dX9_isLong_140 : decode cX9_isLong 140 = .ok (.invokevirtual 113, 3) := by decide +kernel
theorem dX9_isLong_143 : decode cX9_isLong 143 = .ok (.aload_n 0, 1) := by decide +kernel
theorem dX9_isLong_144 : decode cX9_isLong 144 = .ok (.aload_n 0, 1) := by decide +kernel
theorem dX9_isLong_145 : decode cX9_isLong 145 = .ok (.getfield 117, 3) := by decide +kernel
theorem dX9_isLong_148 : decode cX9_isLong 148 = .ok (.iconst 3, 1) := by decide +kernel
theorem dX9_isLong_149 : decode cX9_isLong 149 = .ok (.iadd, 1) := by decide +kernel
theorem dX9_isLong_150 : decode cX9_isLong 150 = .ok (.invokevirtual 113, 3) := by decide +kernel
theorem dX9_isLong_153 : decode cX9_isLong 153 = .ok (.invokestatic 150, 3) := by decide +kernel
theorem dX9_isLong_156 : decode cX9_isLong 156 = .ok (.lload_n 1, 1) := by decide +kernel
theorem dX9_isLong_157 : decode cX9_isLong 157 = .ok (.lcmp, 1) := by decide +kernel
theorem dX9_isLong_158 : decode cX9_isLong 158 = .ok (.ifCond .ne 14, 3) := by decide +kernel
theorem dX9_isLong_161 : decode cX9_isLong 161 = .ok (.lload 6, 2) := by decide +kernel
theorem dX9_isLong_163 : decode cX9_isLong 163 = .ok (.lload_n 3, 1) := by decide +kernel
theorem dX9_isLong_164 : decode cX9_isLong 164 = .ok (.lcmp, 1) := by decide +kernel
theorem dX9_isLong_165 : decode cX9_isLong 165 = .ok (.ifCond .ne 7, 3) := by decide +kernel
theorem dX9_isLong_168 : decode cX9_isLong 168 = .ok (.iconst 1, 1) := by decide +kernel
theorem dX9_isLong_169 : decode cX9_isLong 169 = .ok (.goto 4, 3) := by decide +kernel
theorem dX9_isLong_172 : decode cX9_isLong 172 = .ok (.iconst 0, 1) := by decide +kernel
theorem dX9_isLong_173 : decode cX9_isLong 173 = .ok (.ireturn, 1) := by decide +kernel
theorem dX9_nameOf_0 : decode cX9_nameOf 0 = .ok (.aload_n 0, 1) := by decide +kernel
theorem dX9_nameOf_1 : decode cX9_nameOf 1 = .ok (.getfield 120, 3) := by decide +kernel
theorem dX9_nameOf_4 : decode cX9_nameOf 4 = .ok (.iconst 2, 1) := by decide +kernel
theorem dX9_nameOf_5 : decode cX9_nameOf 5 = .ok (.if_icmp .eq 5, 3) := by decide +kernel
theorem dX9_nameOf_8 : decode cX9_nameOf 8 = .ok (.iconst (-1), 1) := by decide +kernel
theorem dX9_nameOf_9 : decode cX9_nameOf 9 = .ok (.ireturn, 1) := by decide +kernel
theorem dX9_nameOf_10 : decode cX9_nameOf 10 = .ok (.aload_n 0, 1) := by decide +kernel
theorem dX9_nameOf_11 : decode cX9_nameOf 11 = .ok (.getfield 133, 3) := by decide +kernel
theorem dX9_nameOf_14 : decode cX9_nameOf 14 = .ok (.bipush 100, 2) := by decide +kernel
theorem dX9_nameOf_16 : decode cX9_nameOf 16 = .ok (.bipush 97, 2) := by decide +kernel
theorem dX9_nameOf_18 : decode cX9_nameOf 18 = .ok (.bipush 121, 2) := by decide +kernel
theorem dX9_nameOf_20 : decode cX9_nameOf 20 = .ok (.invokestatic 146, 3) := by decide +kernel
theorem dX9_nameOf_23 : decode cX9_nameOf 23 = .ok (.lcmp, 1) := by decide +kernel
theorem dX9_nameOf_24 : decode cX9_nameOf 24 = .ok (.ifCond .ne 5, 3) := by decide +kernel
theorem dX9_nameOf_27 : decode cX9_nameOf 27 = .ok (.iconst 0, 1) := by decide +kernel
theorem dX9_nameOf_28 : decode cX9_nameOf 28 = .ok (.ireturn, 1) := by decide +kernel
theorem dX9_nameOf_29 : decode cX9_nameOf 29 = .ok (.aload_n 0, 1) := by decide +kernel
theorem dX9_nameOf_30 : decode cX9_nameOf 30 = .ok (.getfield 133, 3) := by decide +kernel
theorem dX9_nameOf_33 : decode cX9_nameOf 33 = .ok (.bipush 115, 2) := by decide +kernel
theorem dX9_nameOf_35 : decode cX9_nameOf 35 = .ok (.bipush 101, 2) := by decide +kernel
theorem dX9_nameOf_37 : decode cX9_nameOf 37 = .ok (.bipush 101, 2) := by decide +kernel
theorem dX9_nameOf_39 : decode cX9_nameOf 39 = .ok (.bipush 110, 2) := by decide +kernel
theorem dX9_nameOf_41 : decode cX9_nameOf 41 = .ok (.invokestatic 150, 3) := by decide +kernel
theorem dX9_nameOf_44 : decode cX9_nameOf 44 = .ok (.lcmp, 1) := by decide +kernel
theorem dX9_nameOf_45 : decode cX9_nameOf 45 = .ok (.ifCond .ne 5, 3) := by decide +kernel
theorem dX9_nameOf_48 : decode cX9_nameOf 48 = .ok (.iconst 1, 1) := by decide +kernel
theorem dX9_nameOf_49 : decode cX9_nameOf 49 = .ok (.ireturn, 1) := by decide +kernel
theorem dX9_nameOf_50 : decode cX9_nameOf 50 = .ok (.aload_n 0, 1) := by decide +kernel
theorem dX9_nameOf_51 : decode cX9_nameOf 51 = .ok (.getfield 133, 3) := by decide +kernel
theorem dX9_nameOf_54 : decode cX9_nameOf 54 = .ok (.bipush 112, 2) := by decide +kernel
theorem dX9_nameOf_56 : decode cX9_nameOf 56 = .ok (.bipush 108, 2) := by decide +kernel
theorem dX9_nameOf_58 : decode cX9_nameOf 58 = .ok (.bipush 97, 2) := by decide +kernel
theorem dX9_nameOf_60 : decode cX9_nameOf 60 = .ok (.bipush 105, 2) := by decide +kernel
theorem dX9_nameOf_62 : decode cX9_nameOf 62 = .ok (.bipush 110, 2) := by decide +kernel
theorem dX9_nameOf_64 : decode cX9_nameOf 64 = .ok (.invokestatic 154, 3) := by decide +kernel
theorem dX9_nameOf_67 : decode cX9_nameOf 67 = .ok (.lcmp, 1) := by decide +kernel
theorem dX9_nameOf_68 : decode cX9_nameOf 68 = .ok (.ifCond .ne 5, 3) := by decide +kernel
theorem dX9_nameOf_71 : decode cX9_nameOf 71 = .ok (.iconst 2, 1) := by decide +kernel
theorem dX9_nameOf_72 : decode cX9_nameOf 72 = .ok (.ireturn, 1) := by decide +kernel
theorem dX9_nameOf_73 : decode cX9_nameOf 73 = .ok (.aload_n 0, 1) := by decide +kernel
theorem dX9_nameOf_74 : decode cX9_nameOf 74 = .ok (.getfield 133, 3) := by decide +kernel
theorem dX9_nameOf_77 : decode cX9_nameOf 77 = .ok (.bipush 115, 2) := by decide +kernel
theorem dX9_nameOf_79 : decode cX9_nameOf 79 = .ok (.bipush 99, 2) := by decide +kernel
theorem dX9_nameOf_81 : decode cX9_nameOf 81 = .ok (.bipush 101, 2) := by decide +kernel
theorem dX9_nameOf_83 : decode cX9_nameOf 83 = .ok (.bipush 110, 2) := by decide +kernel
theorem dX9_nameOf_85 : decode cX9_nameOf 85 = .ok (.bipush 101, 2) := by decide +kernel
theorem dX9_nameOf_87 : decode cX9_nameOf 87 = .ok (.invokestatic 154, 3) := by decide +kernel
theorem dX9_nameOf_90 : decode cX9_nameOf 90 = .ok (.lcmp, 1) := by decide +kernel
theorem dX9_nameOf_91 : decode cX9_nameOf 91 = .ok (.ifCond .ne 5, 3) := by decide +kernel
theorem dX9_nameOf_94 : decode cX9_nameOf 94 = .ok (.iconst 3, 1) := by decide +kernel
theorem dX9_nameOf_95 : decode cX9_nameOf 95 = .ok (.ireturn, 1) := by decide +kernel
theorem dX9_nameOf_96 : decode cX9_nameOf 96 = .ok (.aload_n 0, 1) := by decide +kernel
theorem dX9_nameOf_97 : decode cX9_nameOf 97 = .ok (.getfield 133, 3) := by decide +kernel
theorem dX9_nameOf_100 : decode cX9_nameOf 100 = .ok (.bipush 115, 2) := by decide +kernel
theorem dX9_nameOf_102 : decode cX9_nameOf 102 = .ok (.bipush 104, 2) := by decide +kernel
theorem dX9_nameOf_104 : decode cX9_nameOf 104 = .ok (.bipush 111, 2) := by decide +kernel
theorem dX9_nameOf_106 : decode cX9_nameOf 106 = .ok (.bipush 119, 2) := by decide +kernel
theorem dX9_nameOf_108 : decode cX9_nameOf 108 = .ok (.bipush 110, 2) := by decide +kernel
theorem dX9_nameOf_110 : decode cX9_nameOf 110 = .ok (.invokestatic 154, 3) := by decide +kernel
theorem dX9_nameOf_113 : decode cX9_nameOf 113 = .ok (.lcmp, 1) := by decide +kernel
theorem dX9_nameOf_114 : decode cX9_nameOf 114 = .ok (.ifCond .ne 5, 3) := by decide +kernel
theorem dX9_nameOf_117 : decode cX9_nameOf 117 = .ok (.iconst 4, 1) := by decide +kernel
theorem dX9_nameOf_118 : decode cX9_nameOf 118 = .ok (.ireturn, 1) := by decide +kernel
theorem dX9_nameOf_119 : decode cX9_nameOf 119 = .ok (.aload_n 0, 1) := by decide +kernel
theorem dX9_nameOf_120 : decode cX9_nameOf 120 = .ok (.getfield 133, 3) := by decide +kernel
theorem dX9_nameOf_123 : decode cX9_nameOf 123 = .ok (.bipush 100, 2) := by decide +kernel
theorem dX9_nameOf_125 : decode cX9_nameOf 125 = .ok (.bipush 114, 2) := by decide +kernel
theorem dX9_nameOf_127 : decode cX9_nameOf 127 = .ok (.bipush 97, 2) := by decide +kernel
theorem dX9_nameOf_129 : decode cX9_nameOf 129 = .ok (.bipush 119, 2) := by decide +kernel
theorem dX9_nameOf_131 : decode cX9_nameOf 131 = .ok (.invokestatic 150, 3) := by decide +kernel
theorem dX9_nameOf_134 : decode cX9_nameOf 134 = .ok (.lcmp, 1) := by decide +kernel
theorem dX9_nameOf_135 : decode cX9_nameOf 135 = .ok (.ifCond .ne 5, 3) := by decide +kernel
theorem dX9_nameOf_138 : decode cX9_nameOf 138 = .ok (.iconst 5, 1) := by decide +kernel
theorem dX9_nameOf_139 : decode cX9_nameOf 139 = .ok (.ireturn, 1) := by decide +kernel
theorem dX9_nameOf_140 : decode cX9_nameOf 140 = .ok (.aload_n 0, 1) := by decide +kernel
theorem dX9_nameOf_141 : decode cX9_nameOf 141 = .ok (.getfield 133, 3) := by decide +kernel
theorem dX9_nameOf_144 : decode cX9_nameOf 144 = .ok (.bipush 99, 2) := by decide +kernel
theorem dX9_nameOf_146 : decode cX9_nameOf 146 = .ok (.bipush 117, 2) := by decide +kernel
theorem dX9_nameOf_148 : decode cX9_nameOf 148 = .ok (.bipush 101, 2) := by decide +kernel
theorem dX9_nameOf_150 : decode cX9_nameOf 150 = .ok (.invokestatic 146, 3) := by decide +kernel
theorem dX9_nameOf_153 : decode cX9_nameOf 153 = .ok (.lcmp, 1) := by decide +kernel
theorem dX9_nameOf_154 : decode cX9_nameOf 154 = .ok (.ifCond .ne 6, 3) := by decide +kernel
theorem dX9_nameOf_157 : decode cX9_nameOf 157 = .ok (.bipush 6, 2) := by decide +kernel
theorem dX9_nameOf_159 : decode cX9_nameOf 159 = .ok (.ireturn, 1) := by decide +kernel
theorem dX9_nameOf_160 : decode cX9_nameOf 160 = .ok (.aload_n 0, 1) := by decide +kernel
theorem dX9_nameOf_161 : decode cX9_nameOf 161 = .ok (.getfield 133, 3) := by decide +kernel
theorem dX9_nameOf_164 : decode cX9_nameOf 164 = .ok (.bipush 110, 2) := by decide +kernel
theorem dX9_nameOf_166 : decode cX9_nameOf 166 = .ok (.bipush 101, 2) := by decide +kernel
theorem dX9_nameOf_168 : decode cX9_nameOf 168 = .ok (.bipush 120, 2) := by decide +kernel
theorem dX9_nameOf_170 : decode cX9_nameOf 170 = .ok (.bipush 116, 2) := by decide +kernel
theorem dX9_nameOf_172 : decode cX9_nameOf 172 = .ok (.invokestatic 150, 3) := by decide +kernel
theorem dX9_nameOf_175 : decode cX9_nameOf 175 = .ok (.lcmp, 1) := by decide +kernel
theorem dX9_nameOf_176 : decode cX9_nameOf 176 = .ok (.ifCond .ne 6, 3) := by decide +kernel
theorem dX9_nameOf_179 : decode cX9_nameOf 179 = .ok (.bipush 7, 2) := by decide +kernel
theorem dX9_nameOf_181 : decode cX9_nameOf 181 = .ok (.ireturn, 1) := by decide +kernel
theorem dX9_nameOf_182 : decode cX9_nameOf 182 = .ok (.aload_n 0, 1) := by decide +kernel
theorem dX9_nameOf_183 : decode cX9_nameOf 183 = .ok (.getfield 133, 3) := by decide +kernel
theorem dX9_nameOf_186 : decode cX9_nameOf 186 = .ok (.bipush 119, 2) := by decide +kernel
theorem dX9_nameOf_188 : decode cX9_nameOf 188 = .ok (.bipush 104, 2) := by decide +kernel
theorem dX9_nameOf_190 : decode cX9_nameOf 190 = .ok (.bipush 111, 2) := by decide +kernel
theorem dX9_nameOf_192 : decode cX9_nameOf 192 = .ok (.invokestatic 146, 3) := by decide +kernel
theorem dX9_nameOf_195 : decode cX9_nameOf 195 = .ok (.lcmp, 1) := by decide +kernel
theorem dX9_nameOf_196 : decode cX9_nameOf 196 = .ok (.ifCond .ne 6, 3) := by decide +kernel
theorem dX9_nameOf_199 : decode cX9_nameOf 199 = .ok (.bipush 8, 2) := by decide +kernel
theorem dX9_nameOf_201 : decode cX9_nameOf 201 = .ok (.ireturn, 1) := by decide +kernel
theorem dX9_nameOf_202 : decode cX9_nameOf 202 = .ok (.aload_n 0, 1) := by decide +kernel
theorem dX9_nameOf_203 : decode cX9_nameOf 203 = .ok (.getfield 133, 3) := by decide +kernel
theorem dX9_nameOf_206 : decode cX9_nameOf 206 = .ok (.bipush 103, 2) := by decide +kernel
theorem dX9_nameOf_208 : decode cX9_nameOf 208 = .ok (.bipush 108, 2) := by decide +kernel
theorem dX9_nameOf_210 : decode cX9_nameOf 210 = .ok (.bipush 97, 2) := by decide +kernel
theorem dX9_nameOf_212 : decode cX9_nameOf 212 = .ok (.bipush 100, 2) := by decide +kernel
theorem dX9_nameOf_214 : decode cX9_nameOf 214 = .ok (.invokestatic 150, 3) := by decide +kernel
theorem dX9_nameOf_217 : decode cX9_nameOf 217 = .ok (.lcmp, 1) := by decide +kernel
theorem dX9_nameOf_218 : decode cX9_nameOf 218 = .ok (.ifCond .ne 6, 3) := by decide +kernel
theorem dX9_nameOf_221 : decode cX9_nameOf 221 = .ok (.bipush 9, 2) := by decide +kernel
theorem dX9_nameOf_223 : decode cX9_nameOf 223 = .ok (.ireturn, 1) := by decide +kernel
theorem dX9_nameOf_224 : decode cX9_nameOf 224 = .ok (.aload_n 0, 1) := by decide +kernel
theorem dX9_nameOf_225 : decode cX9_nameOf 225 = .ok (.getfield 133, 3) := by decide +kernel
theorem dX9_nameOf_228 : decode cX9_nameOf 228 = .ok (.bipush 114, 2) := by decide +kernel
theorem dX9_nameOf_230 : decode cX9_nameOf 230 = .ok (.bipush 111, 2) := by decide +kernel
theorem dX9_nameOf_232 : decode cX9_nameOf 232 = .ok (.bipush 119, 2) := by decide +kernel
theorem dX9_nameOf_234 : decode cX9_nameOf 234 = .ok (.invokestatic 146, 3) := by decide +kernel
theorem dX9_nameOf_237 : decode cX9_nameOf 237 = .ok (.lcmp, 1) := by decide +kernel
theorem dX9_nameOf_238 : decode cX9_nameOf 238 = .ok (.ifCond .ne 8, 3) := by decide +kernel
theorem dX9_nameOf_241 : decode cX9_nameOf 241 = .ok (.bipush 10, 2) := by decide +kernel
theorem dX9_nameOf_243 : decode cX9_nameOf 243 = .ok (.goto 28, 3) := by decide +kernel
theorem dX9_nameOf_246 : decode cX9_nameOf 246 = .ok (.aload_n 0, 1) := by decide +kernel
theorem dX9_nameOf_247 : decode cX9_nameOf 247 = .ok (.getfield 133, 3) := by decide +kernel
theorem dX9_nameOf_250 : decode cX9_nameOf 250 = .ok (.bipush 108, 2) := by decide +kernel
theorem dX9_nameOf_252 : decode cX9_nameOf 252 = .ok (.bipush 111, 2) := by decide +kernel
theorem dX9_nameOf_254 : decode cX9_nameOf 254 = .ok (.bipush 110, 2) := by decide +kernel
theorem dX9_nameOf_256 : decode cX9_nameOf 256 = .ok (.bipush 103, 2) := by decide +kernel
theorem dX9_nameOf_258 : decode cX9_nameOf 258 = .ok (.invokestatic 150, 3) := by decide +kernel
theorem dX9_nameOf_261 : decode cX9_nameOf 261 = .ok (.lcmp, 1) := by decide +kernel
theorem dX9_nameOf_262 : decode cX9_nameOf 262 = .ok (.ifCond .ne 8, 3) := by decide +kernel
theorem dX9_nameOf_265 : decode cX9_nameOf 265 = .ok (.bipush 11, 2) := by decide +kernel
theorem dX9_nameOf_267 : decode cX9_nameOf 267 = .ok (.goto 4, 3) := by decide +kernel
theorem dX9_nameOf_270 : decode cX9_nameOf 270 = .ok (.iconst (-1), 1) := by decide +kernel
theorem dX9_nameOf_271 : decode cX9_nameOf 271 = .ok (.ireturn, 1) := by decide +kernel
theorem dX9_isOf_0 : decode cX9_isOf 0 = .ok (.iload_n 1, 1) := by decide +kernel
theorem dX9_isOf_1 : decode cX9_isOf 1 = .ok (.iconst 3, 1) := by decide +kernel
theorem dX9_isOf_2 : decode cX9_isOf 2 = .ok (.if_icmp .ge 5, 3) := by decide +kernel
theorem dX9_isOf_5 : decode cX9_isOf 5 = .ok (.iconst 1, 1) := by decide +kernel
theorem dX9_isOf_6 : decode cX9_isOf 6 = .ok (.ireturn, 1) := by decide +kernel
theorem dX9_isOf_7 : decode cX9_isOf 7 = .ok (.iload_n 1, 1) := by decide +kernel
theorem dX9_isOf_8 : decode cX9_isOf 8 = .ok (.iconst 3, 1) := by decide +kernel
theorem dX9_isOf_9 : decode cX9_isOf 9 = .ok (.if_icmp .ne 17, 3) := by decide +kernel
theorem dX9_isOf_12 : decode cX9_isOf 12 = .ok (.aload_n 0, 1) := by decide +kernel
theorem dX9_isOf_13 : decode cX9_isOf 13 = .ok (.getfield 164, 3) := by decide +kernel
theorem dX9_isOf_16 : decode cX9_isOf 16 = .ok (.iconst 2, 1) := by decide +kernel
theorem dX9_isOf_17 : decode cX9_isOf 17 = .ok (.if_icmp .eq 7, 3) := by decide +kernel
theorem dX9_isOf_20 : decode cX9_isOf 20 = .ok (.iconst 1, 1) := by decide +kernel
theorem dX9_isOf_21 : decode cX9_isOf 21 = .ok (.goto 4, 3) := by decide +kernel
theorem dX9_isOf_24 : decode cX9_isOf 24 = .ok (.iconst 0, 1) := by decide +kernel
theorem dX9_isOf_25 : decode cX9_isOf 25 = .ok (.ireturn, 1) := by decide +kernel
theorem dX9_isOf_26 : decode cX9_isOf 26 = .ok (.iload_n 1, 1) := by decide +kernel
theorem dX9_isOf_27 : decode cX9_isOf 27 = .ok (.bipush 6, 2) := by decide +kernel
theorem dX9_isOf_29 : decode cX9_isOf 29 = .ok (.if_icmp .ge 18, 3) := by decide +kernel
theorem dX9_isOf_32 : decode cX9_isOf 32 = .ok (.aload_n 0, 1) := by decide +kernel
theorem dX9_isOf_33 : decode cX9_isOf 33 = .ok (.getfield 164, 3) := by decide +kernel
theorem dX9_isOf_36 : decode cX9_isOf 36 = .ok (.ifCond .ne 7, 3) := by decide +kernel
theorem dX9_isOf_39 : decode cX9_isOf 39 = .ok (.iconst 1, 1) := by decide +kernel
theorem dX9_isOf_40 : decode cX9_isOf 40 = .ok (.goto 42, 3) := by decide +kernel
theorem dX9_isOf_43 : decode cX9_isOf 43 = .ok (.iconst 0, 1) := by decide +kernel
theorem dX9_isOf_44 : decode cX9_isOf 44 = .ok (.goto 38, 3) := by decide +kernel
theorem dX9_isOf_47 : decode cX9_isOf 47 = .ok (.iload_n 1, 1) := by decide +kernel
theorem dX9_isOf_48 : decode cX9_isOf 48 = .ok (.bipush 8, 2) := by decide +kernel
theorem dX9_isOf_50 : decode cX9_isOf 50 = .ok (.if_icmp .ge 19, 3) := by decide +kernel
theorem dX9_isOf_53 : decode cX9_isOf 53 = .ok (.aload_n 0, 1) := by decide +kernel
theorem dX9_isOf_54 : decode cX9_isOf 54 = .ok (.getfield 164, 3) := by decide +kernel
theorem dX9_isOf_57 : decode cX9_isOf 57 = .ok (.iconst 1, 1) := by decide +kernel
theorem dX9_isOf_58 : decode cX9_isOf 58 = .ok (.if_icmp .ne 7, 3) := by decide +kernel
theorem dX9_isOf_61 : decode cX9_isOf 61 = .ok (.iconst 1, 1) := by decide +kernel
theorem dX9_isOf_62 : decode cX9_isOf 62 = .ok (.goto 20, 3) := by decide +kernel
theorem dX9_isOf_65 : decode cX9_isOf 65 = .ok (.iconst 0, 1) := by decide +kernel
theorem dX9_isOf_66 : decode cX9_isOf 66 = .ok (.goto 16, 3) := by decide +kernel
theorem dX9_isOf_69 : decode cX9_isOf 69 = .ok (.aload_n 0, 1) := by decide +kernel
theorem dX9_isOf_70 : decode cX9_isOf 70 = .ok (.getfield 164, 3) := by decide +kernel
theorem dX9_isOf_73 : decode cX9_isOf 73 = .ok (.iconst 2, 1) := by decide +kernel
theorem dX9_isOf_74 : decode cX9_isOf 74 = .ok (.if_icmp .ne 7, 3) := by decide +kernel
theorem dX9_isOf_77 : decode cX9_isOf 77 = .ok (.iconst 1, 1) := by decide +kernel
theorem dX9_isOf_78 : decode cX9_isOf 78 = .ok (.goto 4, 3) := by decide +kernel
theorem dX9_isOf_81 : decode cX9_isOf 81 = .ok (.iconst 0, 1) := by decide +kernel
theorem dX9_isOf_82 : decode cX9_isOf 82 = .ok (.ireturn, 1) := by decide +kernel
theorem dX9_rank_0 : decode cX9_rank 0 = .ok (.iload_n 0, 1) := by decide +kernel
theorem dX9_rank_1 : decode cX9_rank 1 = .ok (.bipush 40, 2) := by decide +kernel
theorem dX9_rank_3 : decode cX9_rank 3 = .ok (.if_icmp .lt 7, 3) := by decide +kernel
theorem dX9_rank_6 : decode cX9_rank 6 = .ok (.iconst 0, 1) := by decide +kernel
theorem dX9_rank_7 : decode cX9_rank 7 = .ok (.goto 70, 3) := by decide +kernel
theorem dX9_rank_10 : decode cX9_rank 10 = .ok (.iload_n 0, 1) := by decide +kernel
theorem dX9_rank_11 : decode cX9_rank 11 = .ok (.bipush 22, 2) := by decide +kernel
theorem dX9_rank_13 : decode cX9_rank 13 = .ok (.if_icmp .ne 7, 3) := by decide +kernel
theorem dX9_rank_16 : decode cX9_rank 16 = .ok (.iconst 1, 1) := by decide +kernel
theorem dX9_rank_17 : decode cX9_rank 17 = .ok (.goto 60, 3) := by decide +kernel
theorem dX9_rank_20 : decode cX9_rank 20 = .ok (.iload_n 0, 1) := by decide +kernel
theorem dX9_rank_21 : decode cX9_rank 21 = .ok (.bipush 21, 2) := by decide +kernel
theorem dX9_rank_23 : decode cX9_rank 23 = .ok (.if_icmp .ne 7, 3) := by decide +kernel
theorem dX9_rank_26 : decode cX9_rank 26 = .ok (.iconst 2, 1) := by decide +kernel
theorem dX9_rank_27 : decode cX9_rank 27 = .ok (.goto 50, 3) := by decide +kernel
theorem dX9_rank_30 : decode cX9_rank 30 = .ok (.iload_n 0, 1) := by decide +kernel
theorem dX9_rank_31 : decode cX9_rank 31 = .ok (.bipush 20, 2) := by decide +kernel
theorem dX9_rank_33 : decode cX9_rank 33 = .ok (.if_icmp .ne 7, 3) := by decide +kernel
theorem dX9_rank_36 : decode cX9_rank 36 = .ok (.iconst 3, 1) := by decide +kernel
theorem dX9_rank_37 : decode cX9_rank 37 = .ok (.goto 40, 3) := by decide +kernel
theorem dX9_rank_40 : decode cX9_rank 40 = .ok (.iload_n 0, 1) := by decide +kernel
theorem dX9_rank_41 : decode cX9_rank 41 = .ok (.bipush 10, 2) := by decide +kernel
theorem dX9_rank_43 : decode cX9_rank 43 = .ok (.if_icmp .lt 7, 3) := by decide +kernel
theorem dX9_rank_46 : decode cX9_rank 46 = .ok (.iconst 4, 1) := by decide +kernel
theorem dX9_rank_47 : decode cX9_rank 47 = .ok (.goto 30, 3) := by decide +kernel
theorem dX9_rank_50 : decode cX9_rank 50 = .ok (.iload_n 0, 1) := by decide +kernel
theorem dX9_rank_51 : decode cX9_rank 51 = .ok (.iconst 4, 1) := by decide +kernel
theorem dX9_rank_52 : decode cX9_rank 52 = .ok (.if_icmp .eq 8, 3) := by decide +kernel
theorem dX9_rank_55 : decode cX9_rank 55 = .ok (.iload_n 0, 1) := by decide +kernel
theorem dX9_rank_56 : decode cX9_rank 56 = .ok (.iconst 2, 1) := by decide +kernel
theorem dX9_rank_57 : decode cX9_rank 57 = .ok (.if_icmp .ne 8, 3) := by decide +kernel
theorem dX9_rank_60 : decode cX9_rank 60 = .ok (.bipush 7, 2) := by decide +kernel
theorem dX9_rank_62 : decode cX9_rank 62 = .ok (.goto 15, 3) := by decide +kernel
theorem dX9_rank_65 : decode cX9_rank 65 = .ok (.iload_n 0, 1) := by decide +kernel
theorem dX9_rank_66 : decode cX9_rank 66 = .ok (.bipush 7, 2) := by decide +kernel
theorem dX9_rank_68 : decode cX9_rank 68 = .ok (.if_icmp .lt 8, 3) := by decide +kernel
theorem dX9_rank_71 : decode cX9_rank 71 = .ok (.bipush 6, 2) := by decide +kernel
theorem dX9_rank_73 : decode cX9_rank 73 = .ok (.goto 4, 3) := by decide +kernel
theorem dX9_rank_76 : decode cX9_rank 76 = .ok (.iconst 5, 1) := by decide +kernel
theorem dX9_rank_77 : decode cX9_rank 77 = .ok (.ireturn, 1) := by decide +kernel
theorem dX9_settle_0 : decode cX9_settle 0 = .ok (.aload_n 0, 1) := by decide +kernel
theorem dX9_settle_1 : decode cX9_settle 1 = .ok (.getfield 167, 3) := by decide +kernel
theorem dX9_settle_4 : decode cX9_settle 4 = .ok (.ifCond .le 89, 3) := by decide +kernel
theorem dX9_settle_7 : decode cX9_settle 7 = .ok (.aload_n 0, 1) := by decide +kernel
theorem dX9_settle_8 : decode cX9_settle 8 = .ok (.getfield 29, 3) := by decide +kernel
theorem dX9_settle_11 : decode cX9_settle 11 = .ok (.aload_n 0, 1) := by decide +kernel
theorem dX9_settle_12 : decode cX9_settle 12 = .ok (.getfield 167, 3) := by decide +kernel
theorem dX9_settle_15 : decode cX9_settle 15 = .ok (.iconst 1, 1) := by decide +kernel
theorem dX9_settle_16 : decode cX9_settle 16 = .ok (.isub, 1) := by decide +kernel
theorem dX9_settle_17 : decode cX9_settle 17 = .ok (.iaload, 1) := by decide +kernel
theorem dX9_settle_18 : decode cX9_settle 18 = .ok (.invokestatic 170, 3) := by decide +kernel
theorem dX9_settle_21 : decode cX9_settle 21 = .ok (.iload_n 1, 1) := by decide +kernel
theorem dX9_settle_22 : decode cX9_settle 22 = .ok (.if_icmp .lt 71, 3) := by decide +kernel
theorem dX9_settle_25 : decode cX9_settle 25 = .ok (.aload_n 0, 1) := by decide +kernel
theorem dX9_settle_26 : decode cX9_settle 26 = .ok (.dup, 1) := by decide +kernel
theorem dX9_settle_27 : decode cX9_settle 27 = .ok (.getfield 167, 3) := by decide +kernel
theorem dX9_settle_30 : decode cX9_settle 30 = .ok (.iconst 1, 1) := by decide +kernel
theorem dX9_settle_31 : decode cX9_settle 31 = .ok (.isub, 1) := by decide +kernel
theorem dX9_settle_32 : decode cX9_settle 32 = .ok (.putfield 167, 3) := by decide +kernel
theorem dX9_settle_35 : decode cX9_settle 35 = .ok (.aload_n 0, 1) := by decide +kernel
theorem dX9_settle_36 : decode cX9_settle 36 = .ok (.aload_n 0, 1) := by decide +kernel
theorem dX9_settle_37 : decode cX9_settle 37 = .ok (.getfield 29, 3) := by decide +kernel
theorem dX9_settle_40 : decode cX9_settle 40 = .ok (.aload_n 0, 1) := by decide +kernel
theorem dX9_settle_41 : decode cX9_settle 41 = .ok (.getfield 167, 3) := by decide +kernel
theorem dX9_settle_44 : decode cX9_settle 44 = .ok (.iaload, 1) := by decide +kernel
theorem dX9_settle_45 : decode cX9_settle 45 = .ok (.iconst 0, 1) := by decide +kernel
theorem dX9_settle_46 : decode cX9_settle 46 = .ok (.invokevirtual 173, 3) := by decide +kernel
theorem dX9_settle_49 : decode cX9_settle 49 = .ok (.aload_n 0, 1) := by decide +kernel
theorem dX9_settle_50 : decode cX9_settle 50 = .ok (.getfield 29, 3) := by decide +kernel
theorem dX9_settle_53 : decode cX9_settle 53 = .ok (.aload_n 0, 1) := by decide +kernel
theorem dX9_settle_54 : decode cX9_settle 54 = .ok (.getfield 167, 3) := by decide +kernel
theorem dX9_settle_57 : decode cX9_settle 57 = .ok (.iaload, 1) := by decide +kernel
theorem dX9_settle_58 : decode cX9_settle 58 = .ok (.invokestatic 170, 3) := by decide +kernel
theorem dX9_settle_61 : decode cX9_settle 61 = .ok (.bipush 7, 2) := by decide +kernel
theorem dX9_settle_63 : decode cX9_settle 63 = .ok (.if_icmp .eq 17, 3) := by decide +kernel
theorem dX9_settle_66 : decode cX9_settle 66 = .ok (.aload_n 0, 1) := by decide +kernel
theorem dX9_settle_67 : decode cX9_settle 67 = .ok (.getfield 29, 3) := by decide +kernel
theorem dX9_settle_70 : decode cX9_settle 70 = .ok (.aload_n 0, 1) := by decide +kernel
theorem dX9_settle_71 : decode cX9_settle 71 = .ok (.getfield 167, 3) := by decide +kernel
theorem dX9_settle_74 : decode cX9_settle 74 = .ok (.iaload, 1) := by decide +kernel
theorem dX9_settle_75 : decode cX9_settle 75 = .ok (.bipush 20, 2) := by decide +kernel
theorem dX9_settle_77 : decode cX9_settle 77 = .ok (.if_icmp .ne (-77), 3) := by decide +kernel
theorem dX9_settle_80 : decode cX9_settle 80 = .ok (.aload_n 0, 1) := by decide +kernel
theorem dX9_settle_81 : decode cX9_settle 81 = .ok (.dup, 1) := by decide +kernel
theorem dX9_settle_82 : decode cX9_settle 82 = .ok (.getfield 177, 3) := by decide +kernel
theorem dX9_settle_85 : decode cX9_settle 85 = .ok (.iconst 1, 1) := by decide +kernel
theorem dX9_settle_86 : decode cX9_settle 86 = .ok (.isub, 1) := by decide +kernel
theorem dX9_settle_87 : decode cX9_settle 87 = .ok (.putfield 177, 3) := by decide +kernel
theorem dX9_settle_90 : decode cX9_settle 90 = .ok (.goto (-90), 3) := by decide +kernel
theorem dX9_settle_93 : decode cX9_settle 93 = .ok (.return_, 1) := by decide +kernel
theorem dX9_openAt_0 : decode cX9_openAt 0 = .ok (.aload_n 0, 1) := by decide +kernel
theorem dX9_openAt_1 : decode cX9_openAt 1 = .ok (.getfield 167, 3) := by decide +kernel
theorem dX9_openAt_4 : decode cX9_openAt 4 = .ok (.iconst 1, 1) := by decide +kernel
theorem dX9_openAt_5 : decode cX9_openAt 5 = .ok (.isub, 1) := by decide +kernel
theorem dX9_openAt_6 : decode cX9_openAt 6 = .ok (.istore_n 1, 1) := by decide +kernel
theorem dX9_openAt_7 : decode cX9_openAt 7 = .ok (.iload_n 1, 1) := by decide +kernel
theorem dX9_openAt_8 : decode cX9_openAt 8 = .ok (.ifCond .lt 20, 3) := by decide +kernel
theorem dX9_openAt_11 : decode cX9_openAt 11 = .ok (.aload_n 0, 1) := by decide +kernel
theorem dX9_openAt_12 : decode cX9_openAt 12 = .ok (.getfield 29, 3) := by decide +kernel
theorem dX9_openAt_15 : decode cX9_openAt 15 = .ok (.iload_n 1, 1) := by decide +kernel
theorem dX9_openAt_16 : decode cX9_openAt 16 = .ok (.iaload, 1) := by decide +kernel
theorem dX9_openAt_17 : decode cX9_openAt 17 = .ok (.bipush 40, 2) := by decide +kernel
theorem dX9_openAt_19 : decode cX9_openAt 19 = .ok (.if_icmp .ge 9, 3) := by decide +kernel
theorem dX9_openAt_22 : decode cX9_openAt 22 = .ok (.iinc 1 (-1), 3) := by decide +kernel
theorem dX9_openAt_25 : decode cX9_openAt 25 = .ok (.goto (-18), 3) := by decide +kernel
theorem dX9_openAt_28 : decode cX9_openAt 28 = .ok (.iload_n 1, 1) := by decide +kernel
theorem dX9_openAt_29 : decode cX9_openAt 29 = .ok (.ireturn, 1) := by decide +kernel
theorem dX9_openNow_0 : decode cX9_openNow 0 = .ok (.aload_n 0, 1) := by decide +kernel
theorem dX9_openNow_1 : decode cX9_openNow 1 = .ok (.invokevirtual 180, 3) := by decide +kernel
theorem dX9_openNow_4 : decode cX9_openNow 4 = .ok (.ifCond .ge 7, 3) := by decide +kernel
theorem dX9_openNow_7 : decode cX9_openNow 7 = .ok (.iconst (-1), 1) := by decide +kernel
theorem dX9_openNow_8 : decode cX9_openNow 8 = .ok (.goto 12, 3) := by decide +kernel
theorem dX9_openNow_11 : decode cX9_openNow 11 = .ok (.aload_n 0, 1) := by decide +kernel
theorem dX9_openNow_12 : decode cX9_openNow 12 = .ok (.getfield 29, 3) := by decide +kernel
theorem dX9_openNow_15 : decode cX9_openNow 15 = .ok (.aload_n 0, 1) := by decide +kernel
theorem dX9_openNow_16 : decode cX9_openNow 16 = .ok (.invokevirtual 180, 3) := by decide +kernel
theorem dX9_openNow_19 : decode cX9_openNow 19 = .ok (.iaload, 1) := by decide +kernel
theorem dX9_openNow_20 : decode cX9_openNow 20 = .ok (.ireturn, 1) := by decide +kernel
theorem dX9_isCompared_0 : decode cX9_isCompared 0 = .ok (.aload_n 0, 1) := by decide +kernel
theorem dX9_isCompared_1 : decode cX9_isCompared 1 = .ok (.getfield 167, 3) := by decide +kernel
theorem dX9_isCompared_4 : decode cX9_isCompared 4 = .ok (.iconst 1, 1) := by decide +kernel
theorem dX9_isCompared_5 : decode cX9_isCompared 5 = .ok (.isub, 1) := by decide +kernel
theorem dX9_isCompared_6 : decode cX9_isCompared 6 = .ok (.istore_n 1, 1) := by decide +kernel
theorem dX9_isCompared_7 : decode cX9_isCompared 7 = .ok (.iload_n 1, 1) := by decide +kernel
theorem dX9_isCompared_8 : decode cX9_isCompared 8 = .ok (.ifCond .lt 22, 3) := by decide +kernel
theorem dX9_isCompared_11 : decode cX9_isCompared 11 = .ok (.aload_n 0, 1) := by decide +kernel
theorem dX9_isCompared_12 : decode cX9_isCompared 12 = .ok (.getfield 29, 3) := by decide +kernel
theorem dX9_isCompared_15 : decode cX9_isCompared 15 = .ok (.iload_n 1, 1) := by decide +kernel
theorem dX9_isCompared_16 : decode cX9_isCompared 16 = .ok (.iaload, 1) := by decide +kernel
theorem dX9_isCompared_17 : decode cX9_isCompared 17 = .ok (.invokestatic 170, 3) := by decide +kernel
theorem dX9_isCompared_20 : decode cX9_isCompared 20 = .ok (.iconst 4, 1) := by decide +kernel
theorem dX9_isCompared_21 : decode cX9_isCompared 21 = .ok (.if_icmp .le 9, 3) := by decide +kernel
theorem dX9_isCompared_24 : decode cX9_isCompared 24 = .ok (.iinc 1 (-1), 3) := by decide +kernel
theorem dX9_isCompared_27 : decode cX9_isCompared 27 = .ok (.goto (-20), 3) := by decide +kernel
theorem dX9_isCompared_30 : decode cX9_isCompared 30 = .ok (.iload_n 1, 1) := by decide +kernel
theorem dX9_isCompared_31 : decode cX9_isCompared 31 = .ok (.ifCond .lt 20, 3) := by decide +kernel
theorem dX9_isCompared_34 : decode cX9_isCompared 34 = .ok (.aload_n 0, 1) := by decide +kernel
theorem dX9_isCompared_35 : decode cX9_isCompared 35 = .ok (.getfield 29, 3) := by decide +kernel
theorem dX9_isCompared_38 : decode cX9_isCompared 38 = .ok (.iload_n 1, 1) := by decide +kernel
theorem dX9_isCompared_39 : decode cX9_isCompared 39 = .ok (.iaload, 1) := by decide +kernel
theorem dX9_isCompared_40 : decode cX9_isCompared 40 = .ok (.invokestatic 170, 3) := by decide +kernel
theorem dX9_isCompared_43 : decode cX9_isCompared 43 = .ok (.iconst 4, 1) := by decide +kernel
theorem dX9_isCompared_44 : decode cX9_isCompared 44 = .ok (.if_icmp .ne 7, 3) := by decide +kernel
theorem dX9_isCompared_47 : decode cX9_isCompared 47 = .ok (.iconst 1, 1) := by decide +kernel
theorem dX9_isCompared_48 : decode cX9_isCompared 48 = .ok (.goto 4, 3) := by decide +kernel
theorem dX9_isCompared_51 : decode cX9_isCompared 51 = .ok (.iconst 0, 1) := by decide +kernel
theorem dX9_isCompared_52 : decode cX9_isCompared 52 = .ok (.ireturn, 1) := by decide +kernel
theorem dX9_isAskAhead_0 : decode cX9_isAskAhead 0 = .ok (.aload_n 0, 1) := by decide +kernel
theorem dX9_isAskAhead_1 : decode cX9_isAskAhead 1 = .ok (.invokevirtual 184, 3) := by decide +kernel
theorem dX9_isAskAhead_4 : decode cX9_isAskAhead 4 = .ok (.bipush 41, 2) := by decide +kernel
theorem dX9_isAskAhead_6 : decode cX9_isAskAhead 6 = .ok (.if_icmp .ne 45, 3) := by decide +kernel
theorem dX9_isAskAhead_9 : decode cX9_isAskAhead 9 = .ok (.aload_n 0, 1) := by decide +kernel
theorem dX9_isAskAhead_10 : decode cX9_isAskAhead 10 = .ok (.getfield 29, 3) := by decide +kernel
theorem dX9_isAskAhead_13 : decode cX9_isAskAhead 13 = .ok (.aload_n 0, 1) := by decide +kernel
theorem dX9_isAskAhead_14 : decode cX9_isAskAhead 14 = .ok (.getfield 167, 3) := by decide +kernel
theorem dX9_isAskAhead_17 : decode cX9_isAskAhead 17 = .ok (.iconst 1, 1) := by decide +kernel
theorem dX9_isAskAhead_18 : decode cX9_isAskAhead 18 = .ok (.isub, 1) := by decide +kernel
theorem dX9_isAskAhead_19 : decode cX9_isAskAhead 19 = .ok (.iaload, 1) := by decide +kernel
theorem dX9_isAskAhead_20 : decode cX9_isAskAhead 20 = .ok (.bipush 40, 2) := by decide +kernel
theorem dX9_isAskAhead_22 : decode cX9_isAskAhead 22 = .ok (.if_icmp .ge 25, 3) := by decide +kernel
theorem dX9_isAskAhead_25 : decode cX9_isAskAhead 25 = .ok (.aload_n 0, 1) := by decide +kernel
theorem dX9_isAskAhead_26 : decode cX9_isAskAhead 26 = .ok (.getfield 29, 3) := by decide +kernel
theorem dX9_isAskAhead_29 : decode cX9_isAskAhead 29 = .ok (.aload_n 0, 1) := by decide +kernel
theorem dX9_isAskAhead_30 : decode cX9_isAskAhead 30 = .ok (.getfield 167, 3) := by decide +kernel
theorem dX9_isAskAhead_33 : decode cX9_isAskAhead 33 = .ok (.iconst 1, 1) := by decide +kernel
theorem dX9_isAskAhead_34 : decode cX9_isAskAhead 34 = .ok (.isub, 1) := by decide +kernel
theorem dX9_isAskAhead_35 : decode cX9_isAskAhead 35 = .ok (.iaload, 1) := by decide +kernel
theorem dX9_isAskAhead_36 : decode cX9_isAskAhead 36 = .ok (.invokestatic 170, 3) := by decide +kernel
theorem dX9_isAskAhead_39 : decode cX9_isAskAhead 39 = .ok (.iconst 1, 1) := by decide +kernel
theorem dX9_isAskAhead_40 : decode cX9_isAskAhead 40 = .ok (.iconst 3, 1) := by decide +kernel
theorem dX9_isAskAhead_41 : decode cX9_isAskAhead 41 = .ok (.invokestatic 78, 3) := by decide +kernel
theorem dX9_isAskAhead_44 : decode cX9_isAskAhead 44 = .ok (.ifCond .eq 7, 3) := by decide +kernel
theorem dX9_isAskAhead_47 : decode cX9_isAskAhead 47 = .ok (.iconst 1, 1) := by decide +kernel
theorem dX9_isAskAhead_48 : decode cX9_isAskAhead 48 = .ok (.goto 4, 3) := by decide +kernel
theorem dX9_isAskAhead_51 : decode cX9_isAskAhead 51 = .ok (.iconst 0, 1) := by decide +kernel
theorem dX9_isAskAhead_52 : decode cX9_isAskAhead 52 = .ok (.ireturn, 1) := by decide +kernel
theorem dX9_opened_0 : decode cX9_opened 0 = .ok (.aload_n 0, 1) := by decide +kernel
theorem dX9_opened_1 : decode cX9_opened 1 = .ok (.getfield 177, 3) := by decide +kernel
theorem dX9_opened_4 : decode cX9_opened 4 = .ok (.bipush 8, 2) := by decide +kernel
theorem dX9_opened_6 : decode cX9_opened 6 = .ok (.if_icmp .ne 5, 3) := by decide +kernel
theorem dX9_opened_9 : decode cX9_opened 9 = .ok (.iconst 3, 1) := by decide +kernel
theorem dX9_opened_10 : decode cX9_opened 10 = .ok (.ireturn, 1) := by decide +kernel
theorem dX9_opened_11 : decode cX9_opened 11 = .ok (.aload_n 0, 1) := by decide +kernel
theorem dX9_opened_12 : decode cX9_opened 12 = .ok (.dup, 1) := by decide +kernel
theorem dX9_opened_13 : decode cX9_opened 13 = .ok (.getfield 177, 3) := by decide +kernel
theorem dX9_opened_16 : decode cX9_opened 16 = .ok (.iconst 1, 1) := by decide +kernel
theorem dX9_opened_17 : decode cX9_opened 17 = .ok (.iadd, 1) := by decide +kernel
theorem dX9_opened_18 : decode cX9_opened 18 = .ok (.putfield 177, 3) := by decide +kernel
theorem dX9_opened_21 : decode cX9_opened 21 = .ok (.aload_n 0, 1) := by decide +kernel
theorem dX9_opened_22 : decode cX9_opened 22 = .ok (.getfield 29, 3) := by decide +kernel
theorem dX9_opened_25 : decode cX9_opened 25 = .ok (.aload_n 0, 1) := by decide +kernel
theorem dX9_opened_26 : decode cX9_opened 26 = .ok (.getfield 167, 3) := by decide +kernel
theorem dX9_opened_29 : decode cX9_opened 29 = .ok (.iload_n 1, 1) := by decide +kernel
theorem dX9_opened_30 : decode cX9_opened 30 = .ok (.iastore, 1) := by decide +kernel
theorem dX9_opened_31 : decode cX9_opened 31 = .ok (.aload_n 0, 1) := by decide +kernel
theorem dX9_opened_32 : decode cX9_opened 32 = .ok (.dup, 1) := by decide +kernel
theorem dX9_opened_33 : decode cX9_opened 33 = .ok (.getfield 167, 3) := by decide +kernel
theorem dX9_opened_36 : decode cX9_opened 36 = .ok (.iconst 1, 1) := by decide +kernel
theorem dX9_opened_37 : decode cX9_opened 37 = .ok (.iadd, 1) := by decide +kernel
theorem dX9_opened_38 : decode cX9_opened 38 = .ok (.putfield 167, 3) := by decide +kernel
theorem dX9_opened_41 : decode cX9_opened 41 = .ok (.aload_n 0, 1) := by decide +kernel
theorem dX9_opened_42 : decode cX9_opened 42 = .ok (.invokevirtual 187, 3) := by decide +kernel
theorem dX9_opened_45 : decode cX9_opened 45 = .ok (.iconst 0, 1) := by decide +kernel
theorem dX9_opened_46 : decode cX9_opened 46 = .ok (.ireturn, 1) := by decide +kernel
theorem dX9_beginOne_0 : decode cX9_beginOne 0 = .ok (.aload_n 0, 1) := by decide +kernel
theorem dX9_beginOne_1 : decode cX9_beginOne 1 = .ok (.getfield 120, 3) := by decide +kernel
theorem dX9_beginOne_4 : decode cX9_beginOne 4 = .ok (.iconst 1, 1) := by decide +kernel
theorem dX9_beginOne_5 : decode cX9_beginOne 5 = .ok (.if_icmp .ne 15, 3) := by decide +kernel
theorem dX9_beginOne_8 : decode cX9_beginOne 8 = .ok (.aload_n 0, 1) := by decide +kernel
theorem dX9_beginOne_9 : decode cX9_beginOne 9 = .ok (.getfield 126, 3) := by decide +kernel
theorem dX9_beginOne_12 : decode cX9_beginOne 12 = .ok (.sipush 9999, 3) := by decide +kernel
theorem dX9_beginOne_15 : decode cX9_beginOne 15 = .ok (.if_icmp .le 5, 3) := by decide +kernel
theorem dX9_beginOne_18 : decode cX9_beginOne 18 = .ok (.iconst 2, 1) := by decide +kernel
theorem dX9_beginOne_19 : decode cX9_beginOne 19 = .ok (.ireturn, 1) := by decide +kernel
theorem dX9_beginOne_20 : decode cX9_beginOne 20 = .ok (.aload_n 0, 1) := by decide +kernel
theorem dX9_beginOne_21 : decode cX9_beginOne 21 = .ok (.invokevirtual 190, 3) := by decide +kernel
theorem dX9_beginOne_24 : decode cX9_beginOne 24 = .ok (.istore_n 1, 1) := by decide +kernel
theorem dX9_beginOne_25 : decode cX9_beginOne 25 = .ok (.iload_n 1, 1) := by decide +kernel
theorem dX9_beginOne_26 : decode cX9_beginOne 26 = .ok (.ifCond .lt 13, 3) := by decide +kernel
theorem dX9_beginOne_29 : decode cX9_beginOne 29 = .ok (.aload_n 0, 1) := by decide +kernel
theorem dX9_beginOne_30 : decode cX9_beginOne 30 = .ok (.iload_n 1, 1) := by decide +kernel
theorem dX9_beginOne_31 : decode cX9_beginOne 31 = .ok (.invokevirtual 193, 3) := by decide +kernel
theorem dX9_beginOne_34 : decode cX9_beginOne 34 = .ok (.ifCond .ne 5, 3) := by decide +kernel
theorem dX9_beginOne_37 : decode cX9_beginOne 37 = .ok (.iconst 5, 1) := by decide +kernel
theorem dX9_beginOne_38 : decode cX9_beginOne 38 = .ok (.ireturn, 1) := by decide +kernel
theorem dX9_beginOne_39 : decode cX9_beginOne 39 = .ok (.aload_n 0, 1) := by decide +kernel
theorem dX9_beginOne_40 : decode cX9_beginOne 40 = .ok (.getfield 120, 3) := by decide +kernel
theorem dX9_beginOne_43 : decode cX9_beginOne 43 = .ok (.iconst 1, 1) := by decide +kernel
theorem dX9_beginOne_44 : decode cX9_beginOne 44 = .ok (.if_icmp .eq 7, 3) := by decide +kernel
theorem dX9_beginOne_47 : decode cX9_beginOne 47 = .ok (.iload_n 1, 1) := by decide +kernel
theorem dX9_beginOne_48 : decode cX9_beginOne 48 = .ok (.ifCond .lt 53, 3) := by decide +kernel
theorem dX9_beginOne_51 : decode cX9_beginOne 51 = .ok (.aload_n 0, 1) := by decide +kernel
theorem dX9_beginOne_52 : decode cX9_beginOne 52 = .ok (.aload_n 0, 1) := by decide +kernel
theorem dX9_beginOne_53 : decode cX9_beginOne 53 = .ok (.getfield 120, 3) := by decide +kernel
theorem dX9_beginOne_56 : decode cX9_beginOne 56 = .ok (.iconst 1, 1) := by decide +kernel
theorem dX9_beginOne_57 : decode cX9_beginOne 57 = .ok (.if_icmp .ne 7, 3) := by decide +kernel
theorem dX9_beginOne_60 : decode cX9_beginOne 60 = .ok (.iconst 0, 1) := by decide +kernel
theorem dX9_beginOne_61 : decode cX9_beginOne 61 = .ok (.goto 4, 3) := by decide +kernel
theorem dX9_beginOne_64 : decode cX9_beginOne 64 = .ok (.iconst 1, 1) := by decide +kernel
theorem dX9_beginOne_65 : decode cX9_beginOne 65 = .ok (.aload_n 0, 1) := by decide +kernel
theorem dX9_beginOne_66 : decode cX9_beginOne 66 = .ok (.getfield 120, 3) := by decide +kernel
theorem dX9_beginOne_69 : decode cX9_beginOne 69 = .ok (.iconst 1, 1) := by decide +kernel
theorem dX9_beginOne_70 : decode cX9_beginOne 70 = .ok (.if_icmp .ne 10, 3) := by decide +kernel
theorem dX9_beginOne_73 : decode cX9_beginOne 73 = .ok (.aload_n 0, 1) := by decide +kernel
theorem dX9_beginOne_74 : decode cX9_beginOne 74 = .ok (.getfield 126, 3) := by decide +kernel
theorem dX9_beginOne_77 : decode cX9_beginOne 77 = .ok (.goto 4, 3) := by decide +kernel
theorem dX9_beginOne_80 : decode cX9_beginOne 80 = .ok (.iload_n 1, 1) := by decide +kernel
theorem dX9_beginOne_81 : decode cX9_beginOne 81 = .ok (.invokevirtual 173, 3) := by decide +kernel
theorem dX9_beginOne_84 : decode cX9_beginOne 84 = .ok (.aload_n 0, 1) := by decide +kernel
theorem dX9_beginOne_85 : decode cX9_beginOne 85 = .ok (.invokevirtual 187, 3) := by decide +kernel
theorem dX9_beginOne_88 : decode cX9_beginOne 88 = .ok (.aload_n 0, 1) := by decide +kernel
theorem dX9_beginOne_89 : decode cX9_beginOne 89 = .ok (.iconst 1, 1) := by decide +kernel
theorem dX9_beginOne_90 : decode cX9_beginOne 90 = .ok (.putfield 196, 3) := by decide +kernel
theorem dX9_beginOne_93 : decode cX9_beginOne 93 = .ok (.aload_n 0, 1) := by decide +kernel
theorem dX9_beginOne_94 : decode cX9_beginOne 94 = .ok (.bipush 7, 2) := by decide +kernel
theorem dX9_beginOne_96 : decode cX9_beginOne 96 = .ok (.invokevirtual 199, 3) := by decide +kernel
theorem dX9_beginOne_99 : decode cX9_beginOne 99 = .ok (.iconst 0, 1) := by decide +kernel
theorem dX9_beginOne_100 : decode cX9_beginOne 100 = .ok (.ireturn, 1) := by decide +kernel
theorem dX9_beginOne_101 : decode cX9_beginOne 101 = .ok (.aload_n 0, 1) := by decide +kernel
theorem dX9_beginOne_102 : decode cX9_beginOne 102 = .ok (.getfield 120, 3) := by decide +kernel
theorem dX9_beginOne_105 : decode cX9_beginOne 105 = .ok (.bipush 40, 2) := by decide +kernel
theorem dX9_beginOne_107 : decode cX9_beginOne 107 = .ok (.if_icmp .ne 10, 3) := by decide +kernel
theorem dX9_beginOne_110 : decode cX9_beginOne 110 = .ok (.aload_n 0, 1) := by decide +kernel
theorem dX9_beginOne_111 : decode cX9_beginOne 111 = .ok (.bipush 40, 2) := by decide +kernel
theorem dX9_beginOne_113 : decode cX9_beginOne 113 = .ok (.invokevirtual 202, 3) := by decide +kernel
theorem dX9_beginOne_116 : decode cX9_beginOne 116 = .ok (.ireturn, 1) := by decide +kernel
theorem dX9_beginOne_117 : decode cX9_beginOne 117 = .ok (.aload_n 0, 1) := by decide +kernel
theorem dX9_beginOne_118 : decode cX9_beginOne 118 = .ok (.getfield 120, 3) := by decide +kernel
theorem dX9_beginOne_121 : decode cX9_beginOne 121 = .ok (.bipush 45, 2) := by decide +kernel
theorem dX9_beginOne_123 : decode cX9_beginOne 123 = .ok (.if_icmp .ne 9, 3) := by decide +kernel
theorem dX9_beginOne_126 : decode cX9_beginOne 126 = .ok (.aload_n 0, 1) := by decide +kernel
theorem dX9_beginOne_127 : decode cX9_beginOne 127 = .ok (.iconst 4, 1) := by decide +kernel
theorem dX9_beginOne_128 : decode cX9_beginOne 128 = .ok (.invokevirtual 202, 3) := by decide +kernel
theorem dX9_beginOne_131 : decode cX9_beginOne 131 = .ok (.ireturn, 1) := by decide +kernel
theorem dX9_beginOne_132 : decode cX9_beginOne 132 = .ok (.aload_n 0, 1) := by decide +kernel
theorem dX9_beginOne_133 : decode cX9_beginOne 133 = .ok (.bipush 107, 2) := by decide +kernel
theorem dX9_beginOne_135 : decode cX9_beginOne 135 = .ok (.bipush 105, 2) := by decide +kernel
theorem dX9_beginOne_137 : decode cX9_beginOne 137 = .ok (.bipush 110, 2) := by decide +kernel
theorem dX9_beginOne_139 : decode cX9_beginOne 139 = .ok (.bipush 100, 2) := by decide +kernel
theorem dX9_beginOne_141 : decode cX9_beginOne 141 = .ok (.bipush 115, 2) := by decide +kernel
theorem dX9_beginOne_143 : decode cX9_beginOne 143 = .ok (.invokestatic 154, 3) := by decide +kernel
theorem dX9_beginOne_146 : decode cX9_beginOne 146 = .ok (.invokevirtual 205, 3) := by decide +kernel
theorem dX9_beginOne_149 : decode cX9_beginOne 149 = .ok (.ifCond .eq 9, 3) := by decide +kernel
theorem dX9_beginOne_152 : decode cX9_beginOne 152 = .ok (.aload_n 0, 1) := by decide +kernel
theorem dX9_beginOne_153 : decode cX9_beginOne 153 = .ok (.iconst 2, 1) := by decide +kernel
theorem dX9_beginOne_154 : decode cX9_beginOne 154 = .ok (.invokevirtual 202, 3) := by decide +kernel
theorem dX9_beginOne_157 : decode cX9_beginOne 157 = .ok (.ireturn, 1) := by decide +kernel
theorem dX9_beginOne_158 : decode cX9_beginOne 158 = .ok (.aload_n 0, 1) := by decide +kernel
theorem dX9_beginOne_159 : decode cX9_beginOne 159 = .ok (.bipush 105, 2) := by decide +kernel
theorem dX9_beginOne_161 : decode cX9_beginOne 161 = .ok (.bipush 102, 2) := by decide +kernel
theorem dX9_beginOne_163 : decode cX9_beginOne 163 = .ok (.invokestatic 142, 3) := by decide +kernel
theorem dX9_beginOne_166 : decode cX9_beginOne 166 = .ok (.invokevirtual 205, 3) := by decide +kernel
theorem dX9_beginOne_169 : decode cX9_beginOne 169 = .ok (.ifCond .eq 10, 3) := by decide +kernel
theorem dX9_beginOne_172 : decode cX9_beginOne 172 = .ok (.aload_n 0, 1) := by decide +kernel
theorem dX9_beginOne_173 : decode cX9_beginOne 173 = .ok (.bipush 41, 2) := by decide +kernel
theorem dX9_beginOne_175 : decode cX9_beginOne 175 = .ok (.invokevirtual 202, 3) := by decide +kernel
theorem dX9_beginOne_178 : decode cX9_beginOne 178 = .ok (.ireturn, 1) := by decide +kernel
theorem dX9_beginOne_179 : decode cX9_beginOne 179 = .ok (.aload_n 0, 1) := by decide +kernel
theorem dX9_beginOne_180 : decode cX9_beginOne 180 = .ok (.bipush 110, 2) := by decide +kernel
theorem dX9_beginOne_182 : decode cX9_beginOne 182 = .ok (.bipush 111, 2) := by decide +kernel
theorem dX9_beginOne_184 : decode cX9_beginOne 184 = .ok (.bipush 116, 2) := by decide +kernel
theorem dX9_beginOne_186 : decode cX9_beginOne 186 = .ok (.invokestatic 146, 3) := by decide +kernel
theorem dX9_beginOne_189 : decode cX9_beginOne 189 = .ok (.invokevirtual 205, 3) := by decide +kernel
theorem dX9_beginOne_192 : decode cX9_beginOne 192 = .ok (.ifCond .eq 19, 3) := by decide +kernel
theorem dX9_beginOne_195 : decode cX9_beginOne 195 = .ok (.aload_n 0, 1) := by decide +kernel
theorem dX9_beginOne_196 : decode cX9_beginOne 196 = .ok (.invokevirtual 209, 3) := by decide +kernel
theorem dX9_beginOne_199 : decode cX9_beginOne 199 = .ok (.ifCond .eq 12, 3) := by decide +kernel
theorem dX9_beginOne_202 : decode cX9_beginOne 202 = .ok (.aload_n 0, 1) := by decide +kernel
theorem dX9_beginOne_203 : decode cX9_beginOne 203 = .ok (.bipush 20, 2) := by decide +kernel
theorem dX9_beginOne_205 : decode cX9_beginOne 205 = .ok (.invokevirtual 202, 3) := by decide +kernel
theorem dX9_beginOne_208 : decode cX9_beginOne 208 = .ok (.goto 4, 3) := by decide +kernel
theorem dX9_beginOne_211 : decode cX9_beginOne 211 = .ok (.iconst 1, 1) := by decide +kernel
theorem dX9_beginOne_212 : decode cX9_beginOne 212 = .ok (.ireturn, 1) := by decide +kernel
theorem dX9_compareOf_0 : decode cX9_compareOf 0 = .ok (.aload_n 0, 1) := by decide +kernel
theorem dX9_compareOf_1 : decode cX9_compareOf 1 = .ok (.getfield 120, 3) := by decide +kernel
theorem dX9_compareOf_4 : decode cX9_compareOf 4 = .ok (.bipush 60, 2) := by decide +kernel
theorem dX9_compareOf_6 : decode cX9_compareOf 6 = .ok (.if_icmp .ne 8, 3) := by decide +kernel
theorem dX9_compareOf_9 : decode cX9_compareOf 9 = .ok (.bipush 10, 2) := by decide +kernel
theorem dX9_compareOf_11 : decode cX9_compareOf 11 = .ok (.goto 72, 3) := by decide +kernel
theorem dX9_compareOf_14 : decode cX9_compareOf 14 = .ok (.aload_n 0, 1) := by decide +kernel
theorem dX9_compareOf_15 : decode cX9_compareOf 15 = .ok (.getfield 120, 3) := by decide +kernel
theorem dX9_compareOf_18 : decode cX9_compareOf 18 = .ok (.iconst 4, 1) := by decide +kernel
theorem dX9_compareOf_19 : decode cX9_compareOf 19 = .ok (.if_icmp .ne 8, 3) := by decide +kernel
theorem dX9_compareOf_22 : decode cX9_compareOf 22 = .ok (.bipush 11, 2) := by decide +kernel
theorem dX9_compareOf_24 : decode cX9_compareOf 24 = .ok (.goto 59, 3) := by decide +kernel
theorem dX9_compareOf_27 : decode cX9_compareOf 27 = .ok (.aload_n 0, 1) := by decide +kernel
theorem dX9_compareOf_28 : decode cX9_compareOf 28 = .ok (.getfield 120, 3) := by decide +kernel
theorem dX9_compareOf_31 : decode cX9_compareOf 31 = .ok (.bipush 62, 2) := by decide +kernel
theorem dX9_compareOf_33 : decode cX9_compareOf 33 = .ok (.if_icmp .ne 8, 3) := by decide +kernel
theorem dX9_compareOf_36 : decode cX9_compareOf 36 = .ok (.bipush 12, 2) := by decide +kernel
theorem dX9_compareOf_38 : decode cX9_compareOf 38 = .ok (.goto 45, 3) := by decide +kernel
theorem dX9_compareOf_41 : decode cX9_compareOf 41 = .ok (.aload_n 0, 1) := by decide +kernel
theorem dX9_compareOf_42 : decode cX9_compareOf 42 = .ok (.getfield 120, 3) := by decide +kernel
theorem dX9_compareOf_45 : decode cX9_compareOf 45 = .ok (.iconst 5, 1) := by decide +kernel
theorem dX9_compareOf_46 : decode cX9_compareOf 46 = .ok (.if_icmp .ne 8, 3) := by decide +kernel
theorem dX9_compareOf_49 : decode cX9_compareOf 49 = .ok (.bipush 13, 2) := by decide +kernel
theorem dX9_compareOf_51 : decode cX9_compareOf 51 = .ok (.goto 32, 3) := by decide +kernel
theorem dX9_compareOf_54 : decode cX9_compareOf 54 = .ok (.aload_n 0, 1) := by decide +kernel
theorem dX9_compareOf_55 : decode cX9_compareOf 55 = .ok (.getfield 120, 3) := by decide +kernel
theorem dX9_compareOf_58 : decode cX9_compareOf 58 = .ok (.bipush 61, 2) := by decide +kernel
theorem dX9_compareOf_60 : decode cX9_compareOf 60 = .ok (.if_icmp .ne 8, 3) := by decide +kernel
theorem dX9_compareOf_63 : decode cX9_compareOf 63 = .ok (.bipush 14, 2) := by decide +kernel
theorem dX9_compareOf_65 : decode cX9_compareOf 65 = .ok (.goto 18, 3) := by decide +kernel
theorem dX9_compareOf_68 : decode cX9_compareOf 68 = .ok (.aload_n 0, 1) := by decide +kernel
theorem dX9_compareOf_69 : decode cX9_compareOf 69 = .ok (.getfield 120, 3) := by decide +kernel
theorem dX9_compareOf_72 : decode cX9_compareOf 72 = .ok (.bipush 35, 2) := by decide +kernel
theorem dX9_compareOf_74 : decode cX9_compareOf 74 = .ok (.if_icmp .ne 8, 3) := by decide +kernel
theorem dX9_compareOf_77 : decode cX9_compareOf 77 = .ok (.bipush 15, 2) := by decide +kernel
theorem dX9_compareOf_79 : decode cX9_compareOf 79 = .ok (.goto 4, 3) := by decide +kernel
theorem dX9_compareOf_82 : decode cX9_compareOf 82 = .ok (.iconst (-1), 1) := by decide +kernel
theorem dX9_compareOf_83 : decode cX9_compareOf 83 = .ok (.ireturn, 1) := by decide +kernel
theorem dX9_betweenOf_0 : decode cX9_betweenOf 0 = .ok (.aload_n 0, 1) := by decide +kernel
theorem dX9_betweenOf_1 : decode cX9_betweenOf 1 = .ok (.getfield 120, 3) := by decide +kernel
theorem dX9_betweenOf_4 : decode cX9_betweenOf 4 = .ok (.bipush 43, 2) := by decide +kernel
theorem dX9_betweenOf_6 : decode cX9_betweenOf 6 = .ok (.if_icmp .ne 5, 3) := by decide +kernel
theorem dX9_betweenOf_9 : decode cX9_betweenOf 9 = .ok (.iconst 5, 1) := by decide +kernel
theorem dX9_betweenOf_10 : decode cX9_betweenOf 10 = .ok (.ireturn, 1) := by decide +kernel
theorem dX9_betweenOf_11 : decode cX9_betweenOf 11 = .ok (.aload_n 0, 1) := by decide +kernel
theorem dX9_betweenOf_12 : decode cX9_betweenOf 12 = .ok (.getfield 120, 3) := by decide +kernel
theorem dX9_betweenOf_15 : decode cX9_betweenOf 15 = .ok (.bipush 45, 2) := by decide +kernel
theorem dX9_betweenOf_17 : decode cX9_betweenOf 17 = .ok (.if_icmp .ne 6, 3) := by decide +kernel
theorem dX9_betweenOf_20 : decode cX9_betweenOf 20 = .ok (.bipush 6, 2) := by decide +kernel
theorem dX9_betweenOf_22 : decode cX9_betweenOf 22 = .ok (.ireturn, 1) := by decide +kernel
theorem dX9_betweenOf_23 : decode cX9_betweenOf 23 = .ok (.aload_n 0, 1) := by decide +kernel
theorem dX9_betweenOf_24 : decode cX9_betweenOf 24 = .ok (.getfield 120, 3) := by decide +kernel
theorem dX9_betweenOf_27 : decode cX9_betweenOf 27 = .ok (.bipush 42, 2) := by decide +kernel
theorem dX9_betweenOf_29 : decode cX9_betweenOf 29 = .ok (.if_icmp .ne 6, 3) := by decide +kernel
theorem dX9_betweenOf_32 : decode cX9_betweenOf 32 = .ok (.bipush 7, 2) := by decide +kernel
theorem dX9_betweenOf_34 : decode cX9_betweenOf 34 = .ok (.ireturn, 1) := by decide +kernel
theorem dX9_betweenOf_35 : decode cX9_betweenOf 35 = .ok (.aload_n 0, 1) := by decide +kernel
theorem dX9_betweenOf_36 : decode cX9_betweenOf 36 = .ok (.getfield 120, 3) := by decide +kernel
theorem dX9_betweenOf_39 : decode cX9_betweenOf 39 = .ok (.bipush 47, 2) := by decide +kernel
theorem dX9_betweenOf_41 : decode cX9_betweenOf 41 = .ok (.if_icmp .ne 6, 3) := by decide +kernel
theorem dX9_betweenOf_44 : decode cX9_betweenOf 44 = .ok (.bipush 8, 2) := by decide +kernel
theorem dX9_betweenOf_46 : decode cX9_betweenOf 46 = .ok (.ireturn, 1) := by decide +kernel
theorem dX9_betweenOf_47 : decode cX9_betweenOf 47 = .ok (.aload_n 0, 1) := by decide +kernel
theorem dX9_betweenOf_48 : decode cX9_betweenOf 48 = .ok (.getfield 120, 3) := by decide +kernel
theorem dX9_betweenOf_51 : decode cX9_betweenOf 51 = .ok (.bipush 37, 2) := by decide +kernel
theorem dX9_betweenOf_53 : decode cX9_betweenOf 53 = .ok (.if_icmp .ne 6, 3) := by decide +kernel
theorem dX9_betweenOf_56 : decode cX9_betweenOf 56 = .ok (.bipush 9, 2) := by decide +kernel
theorem dX9_betweenOf_58 : decode cX9_betweenOf 58 = .ok (.ireturn, 1) := by decide +kernel
theorem dX9_betweenOf_59 : decode cX9_betweenOf 59 = .ok (.aload_n 0, 1) := by decide +kernel
theorem dX9_betweenOf_60 : decode cX9_betweenOf 60 = .ok (.invokevirtual 184, 3) := by decide +kernel
theorem dX9_betweenOf_63 : decode cX9_betweenOf 63 = .ok (.bipush 41, 2) := by decide +kernel
theorem dX9_betweenOf_65 : decode cX9_betweenOf 65 = .ok (.if_icmp .eq 5, 3) := by decide +kernel
theorem dX9_betweenOf_68 : decode cX9_betweenOf 68 = .ok (.iconst (-1), 1) := by decide +kernel
theorem dX9_betweenOf_69 : decode cX9_betweenOf 69 = .ok (.ireturn, 1) := by decide +kernel
theorem dX9_betweenOf_70 : decode cX9_betweenOf 70 = .ok (.aload_n 0, 1) := by decide +kernel
theorem dX9_betweenOf_71 : decode cX9_betweenOf 71 = .ok (.invokevirtual 213, 3) := by decide +kernel
theorem dX9_betweenOf_74 : decode cX9_betweenOf 74 = .ok (.ifCond .ne 8, 3) := by decide +kernel
theorem dX9_betweenOf_77 : decode cX9_betweenOf 77 = .ok (.aload_n 0, 1) := by decide +kernel
theorem dX9_betweenOf_78 : decode cX9_betweenOf 78 = .ok (.invokevirtual 216, 3) := by decide +kernel
theorem dX9_betweenOf_81 : decode cX9_betweenOf 81 = .ok (.ireturn, 1) := by decide +kernel
theorem dX9_betweenOf_82 : decode cX9_betweenOf 82 = .ok (.aload_n 0, 1) := by decide +kernel
theorem dX9_betweenOf_83 : decode cX9_betweenOf 83 = .ok (.bipush 97, 2) := by decide +kernel
theorem dX9_betweenOf_85 : decode cX9_betweenOf 85 = .ok (.bipush 110, 2) := by decide +kernel
theorem dX9_betweenOf_87 : decode cX9_betweenOf 87 = .ok (.bipush 100, 2) := by decide +kernel
theorem dX9_betweenOf_89 : decode cX9_betweenOf 89 = .ok (.invokestatic 146, 3) := by decide +kernel
theorem dX9_betweenOf_92 : decode cX9_betweenOf 92 = .ok (.invokevirtual 205, 3) := by decide +kernel
theorem dX9_betweenOf_95 : decode cX9_betweenOf 95 = .ok (.ifCond .eq 8, 3) := by decide +kernel
theorem dX9_betweenOf_98 : decode cX9_betweenOf 98 = .ok (.bipush 21, 2) := by decide +kernel
theorem dX9_betweenOf_100 : decode cX9_betweenOf 100 = .ok (.goto 23, 3) := by decide +kernel
theorem dX9_betweenOf_103 : decode cX9_betweenOf 103 = .ok (.aload_n 0, 1) := by decide +kernel
theorem dX9_betweenOf_104 : decode cX9_betweenOf 104 = .ok (.bipush 111, 2) := by decide +kernel
theorem dX9_betweenOf_106 : decode cX9_betweenOf 106 = .ok (.bipush 114, 2) := by decide +kernel
theorem dX9_betweenOf_108 : decode cX9_betweenOf 108 = .ok (.invokestatic 142, 3) := by decide +kernel
theorem dX9_betweenOf_111 : decode cX9_betweenOf 111 = .ok (.invokevirtual 205, 3) := by decide +kernel
theorem dX9_betweenOf_114 : decode cX9_betweenOf 114 = .ok (.ifCond .eq 8, 3) := by decide +kernel
theorem dX9_betweenOf_117 : decode cX9_betweenOf 117 = .ok (.bipush 22, 2) := by decide +kernel
theorem dX9_betweenOf_119 : decode cX9_betweenOf 119 = .ok (.goto 4, 3) := by decide +kernel
theorem dX9_betweenOf_122 : decode cX9_betweenOf 122 = .ok (.iconst (-1), 1) := by decide +kernel
theorem dX9_betweenOf_123 : decode cX9_betweenOf 123 = .ok (.ireturn, 1) := by decide +kernel
section
variable {p : Program} {l : Launch} {e : Env} {R : Room} {s : State} {m : MethodId} {args : Array Value} {below : List Frame} {meth : Method} {c : Code} {Q : State → Prop} {V : g_V} {nf nl : Nat}
set_option maxRecDepth 100000 in
set_option maxHeartbeats 4000000 in
theorem b_X9_isLong (C : g_CX mG V p R s m args meth c cX9_isLong 8 (some .boolean) RX9 3 66) {res : Int} {M : g_M} (hR : g_RetI mG V p l e R s m args below meth c Q cX9_isLong .boolean res M) {a1 : Int} {a2 : Int} {a3 : Int} {H : Heap} {locs : List Loc} {ls : Array Slot} (h : m_X9_isLong a1 a2 a3 M = some res) (hp : g_PT mG V M s H locs) (hl : lv_has ls 8 [(0, .ref (V.2.2 0)), (1, .long (gJ a1)), (3, .long (gJ a2)), (5, .int (gI a3))]) : W p l e R s m args below meth c H locs 0 0 Q (F0 m 0 ls []) := by
  unfold m_X9_isLong at h
  refine lv_aload_n C.1 C.2.1 dX9_isLong_0 rfl (lv_at hl 0 rfl) ?_
  refine r_geti (t := 0) C hp mk_0 ms_0 mc_0 min_0 (j := 9) (by decide) rfl gw_1265 rfl dX9_isLong_1 ?_
  refine r_iconst C dX9_isLong_4 ?_
  refine r_icmp_ne (tgt := 22) C h dX9_isLong_5 (by decide) (fun h => ?_) (fun h => ?_)
  · refine r_iconst C dX9_isLong_22 ?_
    cases h
    exact hR _ _ _ _ dX9_isLong_23 g_nz0 hp
  · refine lv_aload_n C.1 C.2.1 dX9_isLong_8 rfl (lv_at hl 0 rfl) ?_
    refine r_geti (t := 0) C hp mk_0 ms_0 mc_0 min_0 (j := 7) (by decide) rfl gw_1263 rfl dX9_isLong_9 ?_
    refine lv_aload_n C.1 C.2.1 dX9_isLong_12 rfl (lv_at hl 0 rfl) ?_
    refine r_geti (t := 0) C hp mk_0 ms_0 mc_0 min_0 (j := 8) (by decide) rfl gw_1264 rfl dX9_isLong_13 ?_
    refine r_isub C dX9_isLong_16 ?_
    refine lv_iload C.1 C.2.1 dX9_isLong_17 (lv_at hl 3 rfl) ?_
    refine r_icmp_eq (tgt := 24) C h dX9_isLong_19 (by decide) (fun h => ?_) (fun h => ?_)
    · refine r_jn (P := fun J => ∀ (x21 : Int) (H : Heap) (locs : List Loc) (ls : Array Slot), J x21 = some res → g_PT mG V M s H locs → lv_has ls 8 [(0, .ref (V.2.2 0)), (1, .long (gJ a1)), (3, .long (gJ a2))] → W p l e R s m args below meth c H locs 0 0 Q (F0 m 113 ls [.long (gJ x21)])) h ?_ (fun J11 hJ11 h => ?_)
      · intro x21 H locs ls h hp hl
        refine r_jn (P := fun J => ∀  (H : Heap) (locs : List Loc) (ls : Array Slot), J  = some res → g_PT mG V M s H locs → lv_has ls 8 [] → W p l e R s m args below meth c H locs 0 0 Q (F0 m 172 ls [])) h ?_ (fun J22 hJ22 h => ?_)
        · intro  H locs ls h hp hl
          refine r_iconst C dX9_isLong_172 ?_
          cases h
          exact hR _ _ _ _ dX9_isLong_173 g_nz0 hp
        refine r_lstore (lv' := fun x23 => [(6, .long (gJ x23)), (0, .ref (V.2.2 0)), (1, .long (gJ a1)), (3, .long (gJ a2))]) C h dX9_isLong_113 hl (by decide) (fun _ => rfl) (fun x23 ls h hl => ?_)
        refine lv_aload_n C.1 C.2.1 dX9_isLong_115 rfl (lv_at hl 1 rfl) ?_
        refine lv_aload_n C.1 C.2.1 dX9_isLong_116 rfl (lv_at hl 1 rfl) ?_
        refine r_geti (t := 0) C hp mk_0 ms_0 mc_0 min_0 (j := 8) (by decide) rfl gw_1264 rfl dX9_isLong_117 ?_
        obtain ⟨x24, hr, h⟩ := bd_of h
        refine r_callVI (As := [.int (gI (M 0 8))]) (rest := []) C hl.1 hp (c_X9_byteAt l C.2.2.2.2.2.2.2.2.2.2.2 hr) gw_1431 gw_1433 gw_51 mk_0 ms_0 mc_0 cal_X9_byteAt rfl rfl (Nat.le_of_ble_eq_true rfl) ⟨Nat.le_of_ble_eq_true rfl, Nat.le_of_ble_eq_true rfl⟩ dX9_isLong_120 (fun H locs hp => ?_)
        refine lv_aload_n C.1 C.2.1 dX9_isLong_123 rfl (lv_at hl 1 rfl) ?_
        refine lv_aload_n C.1 C.2.1 dX9_isLong_124 rfl (lv_at hl 1 rfl) ?_
        refine r_geti (t := 0) C hp mk_0 ms_0 mc_0 min_0 (j := 8) (by decide) rfl gw_1264 rfl dX9_isLong_125 ?_
        refine r_iconst C dX9_isLong_128 ?_
        refine r_iadd C dX9_isLong_129 ?_
        obtain ⟨x25, hr, h⟩ := bd_of h
        refine r_callVI (As := [.int (gI ((M 0 8) + 1))]) (rest := [.int (gI x24)]) C hl.1 hp (c_X9_byteAt l C.2.2.2.2.2.2.2.2.2.2.2 hr) gw_1431 gw_1433 gw_51 mk_0 ms_0 mc_0 cal_X9_byteAt rfl rfl (Nat.le_of_ble_eq_true rfl) ⟨Nat.le_of_ble_eq_true rfl, Nat.le_of_ble_eq_true rfl⟩ dX9_isLong_130 (fun H locs hp => ?_)
        refine lv_aload_n C.1 C.2.1 dX9_isLong_133 rfl (lv_at hl 1 rfl) ?_
        refine lv_aload_n C.1 C.2.1 dX9_isLong_134 rfl (lv_at hl 1 rfl) ?_
        refine r_geti (t := 0) C hp mk_0 ms_0 mc_0 min_0 (j := 8) (by decide) rfl gw_1264 rfl dX9_isLong_135 ?_
        refine r_iconst C dX9_isLong_138 ?_
        refine r_iadd C dX9_isLong_139 ?_
        obtain ⟨x26, hr, h⟩ := bd_of h
        refine r_callVI (As := [.int (gI ((M 0 8) + 2))]) (rest := [.int (gI x25), .int (gI x24)]) C hl.1 hp (c_X9_byteAt l C.2.2.2.2.2.2.2.2.2.2.2 hr) gw_1431 gw_1433 gw_51 mk_0 ms_0 mc_0 cal_X9_byteAt rfl rfl (Nat.le_of_ble_eq_true rfl) ⟨Nat.le_of_ble_eq_true rfl, Nat.le_of_ble_eq_true rfl⟩ dX9_isLong_140 (fun H locs hp => ?_)
        refine lv_aload_n C.1 C.2.1 dX9_isLong_143 rfl (lv_at hl 1 rfl) ?_
        refine lv_aload_n C.1 C.2.1 dX9_isLong_144 rfl (lv_at hl 1 rfl) ?_
        refine r_geti (t := 0) C hp mk_0 ms_0 mc_0 min_0 (j := 8) (by decide) rfl gw_1264 rfl dX9_isLong_145 ?_
        refine r_iconst C dX9_isLong_148 ?_
        refine r_iadd C dX9_isLong_149 ?_
        obtain ⟨x27, hr, h⟩ := bd_of h
        refine r_callVI (As := [.int (gI ((M 0 8) + 3))]) (rest := [.int (gI x26), .int (gI x25), .int (gI x24)]) C hl.1 hp (c_X9_byteAt l C.2.2.2.2.2.2.2.2.2.2.2 hr) gw_1431 gw_1433 gw_51 mk_0 ms_0 mc_0 cal_X9_byteAt rfl rfl (Nat.le_of_ble_eq_true rfl) ⟨Nat.le_of_ble_eq_true rfl, Nat.le_of_ble_eq_true rfl⟩ dX9_isLong_150 (fun H locs hp => ?_)
        obtain ⟨x28, hr, h⟩ := bd_of h
        refine r_callSL (As := [.int (gI x24), .int (gI x25), .int (gI x26), .int (gI x27)]) (rest := []) C hl.1 hp (c_X9_w4 l C.2.2.2.2.2.2.2.2.2.2.2 hr) gw_1454 gw_1455 cal_X9_w4 rfl rfl (Nat.le_of_ble_eq_true rfl) ⟨Nat.le_of_ble_eq_true rfl, Nat.le_of_ble_eq_true rfl⟩ dX9_isLong_153 (fun H locs hp => ?_)
        refine lv_lload_n C.1 C.2.1 dX9_isLong_156 rfl (lv_at hl 2 rfl) ?_
        refine r_lcmp C dX9_isLong_157 ?_
        refine r_if_ne (tgt := 172) C h dX9_isLong_158 (by decide) (fun h => ?_) (fun h => ?_)
        · exact hJ22  _ _ _ h hp (lv_sub hl [] rfl)
        · refine lv_lload C.1 C.2.1 dX9_isLong_161 (lv_at hl 0 rfl) ?_
          refine lv_lload_n C.1 C.2.1 dX9_isLong_163 rfl (lv_at hl 3 rfl) ?_
          refine r_lcmp C dX9_isLong_164 ?_
          refine r_if_ne (tgt := 172) C h dX9_isLong_165 (by decide) (fun h => ?_) (fun h => ?_)
          · exact hJ22  _ _ _ h hp (lv_sub hl [] rfl)
          · refine r_iconst C dX9_isLong_168 ?_
            refine r_goto (tgt := 173) C dX9_isLong_169 (by decide) ?_
            cases h
            exact hR _ _ _ _ dX9_isLong_173 g_nz1 hp
      refine lv_iload C.1 C.2.1 dX9_isLong_24 (lv_at hl 3 rfl) ?_
      refine r_bipush C dX9_isLong_26 (by decide +kernel) ?_
      refine r_icmp_ne (tgt := 68) C h dX9_isLong_28 (by decide) (fun h => ?_) (fun h => ?_)
      · refine lv_aload_n C.1 C.2.1 dX9_isLong_68 rfl (lv_at hl 0 rfl) ?_
        refine lv_aload_n C.1 C.2.1 dX9_isLong_69 rfl (lv_at hl 0 rfl) ?_
        refine r_geti (t := 0) C hp mk_0 ms_0 mc_0 min_0 (j := 8) (by decide) rfl gw_1264 rfl dX9_isLong_70 ?_
        refine r_iconst C dX9_isLong_73 ?_
        refine r_iadd C dX9_isLong_74 ?_
        obtain ⟨x12, hr, h⟩ := bd_of h
        refine r_callVI (As := [.int (gI ((M 0 8) + 4))]) (rest := []) C hl.1 hp (c_X9_byteAt l C.2.2.2.2.2.2.2.2.2.2.2 hr) gw_1431 gw_1433 gw_51 mk_0 ms_0 mc_0 cal_X9_byteAt rfl rfl (Nat.le_of_ble_eq_true rfl) ⟨Nat.le_of_ble_eq_true rfl, Nat.le_of_ble_eq_true rfl⟩ dX9_isLong_75 (fun H locs hp => ?_)
        refine lv_aload_n C.1 C.2.1 dX9_isLong_78 rfl (lv_at hl 0 rfl) ?_
        refine lv_aload_n C.1 C.2.1 dX9_isLong_79 rfl (lv_at hl 0 rfl) ?_
        refine r_geti (t := 0) C hp mk_0 ms_0 mc_0 min_0 (j := 8) (by decide) rfl gw_1264 rfl dX9_isLong_80 ?_
        refine r_iconst C dX9_isLong_83 ?_
        refine r_iadd C dX9_isLong_84 ?_
        obtain ⟨x13, hr, h⟩ := bd_of h
        refine r_callVI (As := [.int (gI ((M 0 8) + 5))]) (rest := [.int (gI x12)]) C hl.1 hp (c_X9_byteAt l C.2.2.2.2.2.2.2.2.2.2.2 hr) gw_1431 gw_1433 gw_51 mk_0 ms_0 mc_0 cal_X9_byteAt rfl rfl (Nat.le_of_ble_eq_true rfl) ⟨Nat.le_of_ble_eq_true rfl, Nat.le_of_ble_eq_true rfl⟩ dX9_isLong_85 (fun H locs hp => ?_)
        refine lv_aload_n C.1 C.2.1 dX9_isLong_88 rfl (lv_at hl 0 rfl) ?_
        refine lv_aload_n C.1 C.2.1 dX9_isLong_89 rfl (lv_at hl 0 rfl) ?_
        refine r_geti (t := 0) C hp mk_0 ms_0 mc_0 min_0 (j := 8) (by decide) rfl gw_1264 rfl dX9_isLong_90 ?_
        refine r_bipush C dX9_isLong_93 (by decide +kernel) ?_
        refine r_iadd C dX9_isLong_95 ?_
        obtain ⟨x14, hr, h⟩ := bd_of h
        refine r_callVI (As := [.int (gI ((M 0 8) + 6))]) (rest := [.int (gI x13), .int (gI x12)]) C hl.1 hp (c_X9_byteAt l C.2.2.2.2.2.2.2.2.2.2.2 hr) gw_1431 gw_1433 gw_51 mk_0 ms_0 mc_0 cal_X9_byteAt rfl rfl (Nat.le_of_ble_eq_true rfl) ⟨Nat.le_of_ble_eq_true rfl, Nat.le_of_ble_eq_true rfl⟩ dX9_isLong_96 (fun H locs hp => ?_)
        refine lv_aload_n C.1 C.2.1 dX9_isLong_99 rfl (lv_at hl 0 rfl) ?_
        refine lv_aload_n C.1 C.2.1 dX9_isLong_100 rfl (lv_at hl 0 rfl) ?_
        refine r_geti (t := 0) C hp mk_0 ms_0 mc_0 min_0 (j := 8) (by decide) rfl gw_1264 rfl dX9_isLong_101 ?_
        refine r_bipush C dX9_isLong_104 (by decide +kernel) ?_
        refine r_iadd C dX9_isLong_106 ?_
        obtain ⟨x15, hr, h⟩ := bd_of h
        refine r_callVI (As := [.int (gI ((M 0 8) + 7))]) (rest := [.int (gI x14), .int (gI x13), .int (gI x12)]) C hl.1 hp (c_X9_byteAt l C.2.2.2.2.2.2.2.2.2.2.2 hr) gw_1431 gw_1433 gw_51 mk_0 ms_0 mc_0 cal_X9_byteAt rfl rfl (Nat.le_of_ble_eq_true rfl) ⟨Nat.le_of_ble_eq_true rfl, Nat.le_of_ble_eq_true rfl⟩ dX9_isLong_107 (fun H locs hp => ?_)
        obtain ⟨x16, hr, h⟩ := bd_of h
        refine r_callSL (As := [.int (gI x12), .int (gI x13), .int (gI x14), .int (gI x15)]) (rest := []) C hl.1 hp (c_X9_w4 l C.2.2.2.2.2.2.2.2.2.2.2 hr) gw_1454 gw_1455 cal_X9_w4 rfl rfl (Nat.le_of_ble_eq_true rfl) ⟨Nat.le_of_ble_eq_true rfl, Nat.le_of_ble_eq_true rfl⟩ dX9_isLong_110 (fun H locs hp => ?_)
        exact hJ11 _ _ _ _ h hp (lv_sub hl [0, 1, 2] rfl)
      · refine lv_aload_n C.1 C.2.1 dX9_isLong_31 rfl (lv_at hl 0 rfl) ?_
        refine lv_aload_n C.1 C.2.1 dX9_isLong_32 rfl (lv_at hl 0 rfl) ?_
        refine r_geti (t := 0) C hp mk_0 ms_0 mc_0 min_0 (j := 8) (by decide) rfl gw_1264 rfl dX9_isLong_33 ?_
        refine r_iconst C dX9_isLong_36 ?_
        refine r_iadd C dX9_isLong_37 ?_
        obtain ⟨x17, hr, h⟩ := bd_of h
        refine r_callVI (As := [.int (gI ((M 0 8) + 4))]) (rest := []) C hl.1 hp (c_X9_byteAt l C.2.2.2.2.2.2.2.2.2.2.2 hr) gw_1431 gw_1433 gw_51 mk_0 ms_0 mc_0 cal_X9_byteAt rfl rfl (Nat.le_of_ble_eq_true rfl) ⟨Nat.le_of_ble_eq_true rfl, Nat.le_of_ble_eq_true rfl⟩ dX9_isLong_38 (fun H locs hp => ?_)
        refine lv_aload_n C.1 C.2.1 dX9_isLong_41 rfl (lv_at hl 0 rfl) ?_
        refine lv_aload_n C.1 C.2.1 dX9_isLong_42 rfl (lv_at hl 0 rfl) ?_
        refine r_geti (t := 0) C hp mk_0 ms_0 mc_0 min_0 (j := 8) (by decide) rfl gw_1264 rfl dX9_isLong_43 ?_
        refine r_iconst C dX9_isLong_46 ?_
        refine r_iadd C dX9_isLong_47 ?_
        obtain ⟨x18, hr, h⟩ := bd_of h
        refine r_callVI (As := [.int (gI ((M 0 8) + 5))]) (rest := [.int (gI x17)]) C hl.1 hp (c_X9_byteAt l C.2.2.2.2.2.2.2.2.2.2.2 hr) gw_1431 gw_1433 gw_51 mk_0 ms_0 mc_0 cal_X9_byteAt rfl rfl (Nat.le_of_ble_eq_true rfl) ⟨Nat.le_of_ble_eq_true rfl, Nat.le_of_ble_eq_true rfl⟩ dX9_isLong_48 (fun H locs hp => ?_)
        refine lv_aload_n C.1 C.2.1 dX9_isLong_51 rfl (lv_at hl 0 rfl) ?_
        refine lv_aload_n C.1 C.2.1 dX9_isLong_52 rfl (lv_at hl 0 rfl) ?_
        refine r_geti (t := 0) C hp mk_0 ms_0 mc_0 min_0 (j := 8) (by decide) rfl gw_1264 rfl dX9_isLong_53 ?_
        refine r_bipush C dX9_isLong_56 (by decide +kernel) ?_
        refine r_iadd C dX9_isLong_58 ?_
        obtain ⟨x19, hr, h⟩ := bd_of h
        refine r_callVI (As := [.int (gI ((M 0 8) + 6))]) (rest := [.int (gI x18), .int (gI x17)]) C hl.1 hp (c_X9_byteAt l C.2.2.2.2.2.2.2.2.2.2.2 hr) gw_1431 gw_1433 gw_51 mk_0 ms_0 mc_0 cal_X9_byteAt rfl rfl (Nat.le_of_ble_eq_true rfl) ⟨Nat.le_of_ble_eq_true rfl, Nat.le_of_ble_eq_true rfl⟩ dX9_isLong_59 (fun H locs hp => ?_)
        obtain ⟨x20, hr, h⟩ := bd_of h
        refine r_callSL (As := [.int (gI x17), .int (gI x18), .int (gI x19)]) (rest := []) C hl.1 hp (c_X9_w3 l C.2.2.2.2.2.2.2.2.2.2.2 hr) gw_1457 gw_1458 cal_X9_w3 rfl rfl (Nat.le_of_ble_eq_true rfl) ⟨Nat.le_of_ble_eq_true rfl, Nat.le_of_ble_eq_true rfl⟩ dX9_isLong_62 (fun H locs hp => ?_)
        refine r_goto (tgt := 113) C dX9_isLong_65 (by decide) ?_
        exact hJ11 _ _ _ _ h hp (lv_sub hl [0, 1, 2] rfl)
    · refine r_iconst C dX9_isLong_22 ?_
      cases h
      exact hR _ _ _ _ dX9_isLong_23 g_nz0 hp
theorem c_X9_isLong (l : Launch) {V : g_V} (hok : g_ok mG V) {a1 : Int} {a2 : Int} {a3 : Int} {M : g_M} {x : Int} (h : m_X9_isLong a1 a2 a3 M = some x) : MetI mG V l yX9_isLong cX9_isLong 8 (some .boolean) 3 66 [.ref (V.2.2 0), .long (gJ a1), .long (gJ a2), .int (gI a3)] M x M :=
  g_metI hok cal_X9_isLong.2.2.2 rfl (Nat.le_of_ble_eq_true rfl) (@fun p e R s m args below meth c Q ls C hR hp hl => b_X9_isLong C hR h hp hl)
set_option maxRecDepth 100000 in
set_option maxHeartbeats 4000000 in
theorem b_X9_nameOf (C : g_CX mG V p R s m args meth c cX9_nameOf 1 (some .int) RX9 4 90) {res : Int} {M : g_M} (hR : g_RetI mG V p l e R s m args below meth c Q cX9_nameOf .int res M)  {H : Heap} {locs : List Loc} {ls : Array Slot} (h : m_X9_nameOf M = some res) (hp : g_PT mG V M s H locs) (hl : lv_has ls 1 [(0, .ref (V.2.2 0))]) : W p l e R s m args below meth c H locs 0 0 Q (F0 m 0 ls []) := by
  unfold m_X9_nameOf at h
  refine lv_aload_n C.1 C.2.1 dX9_nameOf_0 rfl (lv_at hl 0 rfl) ?_
  refine r_geti (t := 0) C hp mk_0 ms_0 mc_0 min_0 (j := 9) (by decide) rfl gw_1265 rfl dX9_nameOf_1 ?_
  refine r_iconst C dX9_nameOf_4 ?_
  refine r_icmp_eq (tgt := 10) C h dX9_nameOf_5 (by decide) (fun h => ?_) (fun h => ?_)
  · refine lv_aload_n C.1 C.2.1 dX9_nameOf_10 rfl (lv_at hl 0 rfl) ?_
    refine r_getl (t := 0) C hp mk_0 ms_0 mc_0 min_0 (j := 11) (by decide) rfl gw_1267 rfl dX9_nameOf_11 ?_
    refine r_bipush C dX9_nameOf_14 (by decide +kernel) ?_
    refine r_bipush C dX9_nameOf_16 (by decide +kernel) ?_
    refine r_bipush C dX9_nameOf_18 (by decide +kernel) ?_
    obtain ⟨x11, hr, h⟩ := bd_of h
    refine r_callSL (As := [.int (gI 100), .int (gI 97), .int (gI 121)]) (rest := [.long (gJ (M 0 11))]) C hl.1 hp (c_X9_w3 l C.2.2.2.2.2.2.2.2.2.2.2 hr) gw_1457 gw_1458 cal_X9_w3 rfl rfl (Nat.le_of_ble_eq_true rfl) ⟨Nat.le_of_ble_eq_true rfl, Nat.le_of_ble_eq_true rfl⟩ dX9_nameOf_20 (fun H locs hp => ?_)
    refine r_lcmp C dX9_nameOf_23 ?_
    refine r_if_ne (tgt := 29) C h dX9_nameOf_24 (by decide) (fun h => ?_) (fun h => ?_)
    · refine lv_aload_n C.1 C.2.1 dX9_nameOf_29 rfl (lv_at hl 0 rfl) ?_
      refine r_getl (t := 0) C hp mk_0 ms_0 mc_0 min_0 (j := 11) (by decide) rfl gw_1267 rfl dX9_nameOf_30 ?_
      refine r_bipush C dX9_nameOf_33 (by decide +kernel) ?_
      refine r_bipush C dX9_nameOf_35 (by decide +kernel) ?_
      refine r_bipush C dX9_nameOf_37 (by decide +kernel) ?_
      refine r_bipush C dX9_nameOf_39 (by decide +kernel) ?_
      obtain ⟨x12, hr, h⟩ := bd_of h
      refine r_callSL (As := [.int (gI 115), .int (gI 101), .int (gI 101), .int (gI 110)]) (rest := [.long (gJ (M 0 11))]) C hl.1 hp (c_X9_w4 l C.2.2.2.2.2.2.2.2.2.2.2 hr) gw_1454 gw_1455 cal_X9_w4 rfl rfl (Nat.le_of_ble_eq_true rfl) ⟨Nat.le_of_ble_eq_true rfl, Nat.le_of_ble_eq_true rfl⟩ dX9_nameOf_41 (fun H locs hp => ?_)
      refine r_lcmp C dX9_nameOf_44 ?_
      refine r_if_ne (tgt := 50) C h dX9_nameOf_45 (by decide) (fun h => ?_) (fun h => ?_)
      · refine lv_aload_n C.1 C.2.1 dX9_nameOf_50 rfl (lv_at hl 0 rfl) ?_
        refine r_getl (t := 0) C hp mk_0 ms_0 mc_0 min_0 (j := 11) (by decide) rfl gw_1267 rfl dX9_nameOf_51 ?_
        refine r_bipush C dX9_nameOf_54 (by decide +kernel) ?_
        refine r_bipush C dX9_nameOf_56 (by decide +kernel) ?_
        refine r_bipush C dX9_nameOf_58 (by decide +kernel) ?_
        refine r_bipush C dX9_nameOf_60 (by decide +kernel) ?_
        refine r_bipush C dX9_nameOf_62 (by decide +kernel) ?_
        obtain ⟨x13, hr, h⟩ := bd_of h
        refine r_callSL (As := [.int (gI 112), .int (gI 108), .int (gI 97), .int (gI 105), .int (gI 110)]) (rest := [.long (gJ (M 0 11))]) C hl.1 hp (c_X9_w5 l C.2.2.2.2.2.2.2.2.2.2.2 hr) gw_1467 gw_1468 cal_X9_w5 rfl rfl (Nat.le_of_ble_eq_true rfl) ⟨Nat.le_of_ble_eq_true rfl, Nat.le_of_ble_eq_true rfl⟩ dX9_nameOf_64 (fun H locs hp => ?_)
        refine r_lcmp C dX9_nameOf_67 ?_
        refine r_if_ne (tgt := 73) C h dX9_nameOf_68 (by decide) (fun h => ?_) (fun h => ?_)
        · refine lv_aload_n C.1 C.2.1 dX9_nameOf_73 rfl (lv_at hl 0 rfl) ?_
          refine r_getl (t := 0) C hp mk_0 ms_0 mc_0 min_0 (j := 11) (by decide) rfl gw_1267 rfl dX9_nameOf_74 ?_
          refine r_bipush C dX9_nameOf_77 (by decide +kernel) ?_
          refine r_bipush C dX9_nameOf_79 (by decide +kernel) ?_
          refine r_bipush C dX9_nameOf_81 (by decide +kernel) ?_
          refine r_bipush C dX9_nameOf_83 (by decide +kernel) ?_
          refine r_bipush C dX9_nameOf_85 (by decide +kernel) ?_
          obtain ⟨x14, hr, h⟩ := bd_of h
          refine r_callSL (As := [.int (gI 115), .int (gI 99), .int (gI 101), .int (gI 110), .int (gI 101)]) (rest := [.long (gJ (M 0 11))]) C hl.1 hp (c_X9_w5 l C.2.2.2.2.2.2.2.2.2.2.2 hr) gw_1467 gw_1468 cal_X9_w5 rfl rfl (Nat.le_of_ble_eq_true rfl) ⟨Nat.le_of_ble_eq_true rfl, Nat.le_of_ble_eq_true rfl⟩ dX9_nameOf_87 (fun H locs hp => ?_)
          refine r_lcmp C dX9_nameOf_90 ?_
          refine r_if_ne (tgt := 96) C h dX9_nameOf_91 (by decide) (fun h => ?_) (fun h => ?_)
          · refine lv_aload_n C.1 C.2.1 dX9_nameOf_96 rfl (lv_at hl 0 rfl) ?_
            refine r_getl (t := 0) C hp mk_0 ms_0 mc_0 min_0 (j := 11) (by decide) rfl gw_1267 rfl dX9_nameOf_97 ?_
            refine r_bipush C dX9_nameOf_100 (by decide +kernel) ?_
            refine r_bipush C dX9_nameOf_102 (by decide +kernel) ?_
            refine r_bipush C dX9_nameOf_104 (by decide +kernel) ?_
            refine r_bipush C dX9_nameOf_106 (by decide +kernel) ?_
            refine r_bipush C dX9_nameOf_108 (by decide +kernel) ?_
            obtain ⟨x15, hr, h⟩ := bd_of h
            refine r_callSL (As := [.int (gI 115), .int (gI 104), .int (gI 111), .int (gI 119), .int (gI 110)]) (rest := [.long (gJ (M 0 11))]) C hl.1 hp (c_X9_w5 l C.2.2.2.2.2.2.2.2.2.2.2 hr) gw_1467 gw_1468 cal_X9_w5 rfl rfl (Nat.le_of_ble_eq_true rfl) ⟨Nat.le_of_ble_eq_true rfl, Nat.le_of_ble_eq_true rfl⟩ dX9_nameOf_110 (fun H locs hp => ?_)
            refine r_lcmp C dX9_nameOf_113 ?_
            refine r_if_ne (tgt := 119) C h dX9_nameOf_114 (by decide) (fun h => ?_) (fun h => ?_)
            · refine lv_aload_n C.1 C.2.1 dX9_nameOf_119 rfl (lv_at hl 0 rfl) ?_
              refine r_getl (t := 0) C hp mk_0 ms_0 mc_0 min_0 (j := 11) (by decide) rfl gw_1267 rfl dX9_nameOf_120 ?_
              refine r_bipush C dX9_nameOf_123 (by decide +kernel) ?_
              refine r_bipush C dX9_nameOf_125 (by decide +kernel) ?_
              refine r_bipush C dX9_nameOf_127 (by decide +kernel) ?_
              refine r_bipush C dX9_nameOf_129 (by decide +kernel) ?_
              obtain ⟨x16, hr, h⟩ := bd_of h
              refine r_callSL (As := [.int (gI 100), .int (gI 114), .int (gI 97), .int (gI 119)]) (rest := [.long (gJ (M 0 11))]) C hl.1 hp (c_X9_w4 l C.2.2.2.2.2.2.2.2.2.2.2 hr) gw_1454 gw_1455 cal_X9_w4 rfl rfl (Nat.le_of_ble_eq_true rfl) ⟨Nat.le_of_ble_eq_true rfl, Nat.le_of_ble_eq_true rfl⟩ dX9_nameOf_131 (fun H locs hp => ?_)
              refine r_lcmp C dX9_nameOf_134 ?_
              refine r_if_ne (tgt := 140) C h dX9_nameOf_135 (by decide) (fun h => ?_) (fun h => ?_)
              · refine lv_aload_n C.1 C.2.1 dX9_nameOf_140 rfl (lv_at hl 0 rfl) ?_
                refine r_getl (t := 0) C hp mk_0 ms_0 mc_0 min_0 (j := 11) (by decide) rfl gw_1267 rfl dX9_nameOf_141 ?_
                refine r_bipush C dX9_nameOf_144 (by decide +kernel) ?_
                refine r_bipush C dX9_nameOf_146 (by decide +kernel) ?_
                refine r_bipush C dX9_nameOf_148 (by decide +kernel) ?_
                obtain ⟨x17, hr, h⟩ := bd_of h
                refine r_callSL (As := [.int (gI 99), .int (gI 117), .int (gI 101)]) (rest := [.long (gJ (M 0 11))]) C hl.1 hp (c_X9_w3 l C.2.2.2.2.2.2.2.2.2.2.2 hr) gw_1457 gw_1458 cal_X9_w3 rfl rfl (Nat.le_of_ble_eq_true rfl) ⟨Nat.le_of_ble_eq_true rfl, Nat.le_of_ble_eq_true rfl⟩ dX9_nameOf_150 (fun H locs hp => ?_)
                refine r_lcmp C dX9_nameOf_153 ?_
                refine r_if_ne (tgt := 160) C h dX9_nameOf_154 (by decide) (fun h => ?_) (fun h => ?_)
                · refine lv_aload_n C.1 C.2.1 dX9_nameOf_160 rfl (lv_at hl 0 rfl) ?_
                  refine r_getl (t := 0) C hp mk_0 ms_0 mc_0 min_0 (j := 11) (by decide) rfl gw_1267 rfl dX9_nameOf_161 ?_
                  refine r_bipush C dX9_nameOf_164 (by decide +kernel) ?_
                  refine r_bipush C dX9_nameOf_166 (by decide +kernel) ?_
                  refine r_bipush C dX9_nameOf_168 (by decide +kernel) ?_
                  refine r_bipush C dX9_nameOf_170 (by decide +kernel) ?_
                  obtain ⟨x18, hr, h⟩ := bd_of h
                  refine r_callSL (As := [.int (gI 110), .int (gI 101), .int (gI 120), .int (gI 116)]) (rest := [.long (gJ (M 0 11))]) C hl.1 hp (c_X9_w4 l C.2.2.2.2.2.2.2.2.2.2.2 hr) gw_1454 gw_1455 cal_X9_w4 rfl rfl (Nat.le_of_ble_eq_true rfl) ⟨Nat.le_of_ble_eq_true rfl, Nat.le_of_ble_eq_true rfl⟩ dX9_nameOf_172 (fun H locs hp => ?_)
                  refine r_lcmp C dX9_nameOf_175 ?_
                  refine r_if_ne (tgt := 182) C h dX9_nameOf_176 (by decide) (fun h => ?_) (fun h => ?_)
                  · refine lv_aload_n C.1 C.2.1 dX9_nameOf_182 rfl (lv_at hl 0 rfl) ?_
                    refine r_getl (t := 0) C hp mk_0 ms_0 mc_0 min_0 (j := 11) (by decide) rfl gw_1267 rfl dX9_nameOf_183 ?_
                    refine r_bipush C dX9_nameOf_186 (by decide +kernel) ?_
                    refine r_bipush C dX9_nameOf_188 (by decide +kernel) ?_
                    refine r_bipush C dX9_nameOf_190 (by decide +kernel) ?_
                    obtain ⟨x19, hr, h⟩ := bd_of h
                    refine r_callSL (As := [.int (gI 119), .int (gI 104), .int (gI 111)]) (rest := [.long (gJ (M 0 11))]) C hl.1 hp (c_X9_w3 l C.2.2.2.2.2.2.2.2.2.2.2 hr) gw_1457 gw_1458 cal_X9_w3 rfl rfl (Nat.le_of_ble_eq_true rfl) ⟨Nat.le_of_ble_eq_true rfl, Nat.le_of_ble_eq_true rfl⟩ dX9_nameOf_192 (fun H locs hp => ?_)
                    refine r_lcmp C dX9_nameOf_195 ?_
                    refine r_if_ne (tgt := 202) C h dX9_nameOf_196 (by decide) (fun h => ?_) (fun h => ?_)
                    · refine lv_aload_n C.1 C.2.1 dX9_nameOf_202 rfl (lv_at hl 0 rfl) ?_
                      refine r_getl (t := 0) C hp mk_0 ms_0 mc_0 min_0 (j := 11) (by decide) rfl gw_1267 rfl dX9_nameOf_203 ?_
                      refine r_bipush C dX9_nameOf_206 (by decide +kernel) ?_
                      refine r_bipush C dX9_nameOf_208 (by decide +kernel) ?_
                      refine r_bipush C dX9_nameOf_210 (by decide +kernel) ?_
                      refine r_bipush C dX9_nameOf_212 (by decide +kernel) ?_
                      obtain ⟨x20, hr, h⟩ := bd_of h
                      refine r_callSL (As := [.int (gI 103), .int (gI 108), .int (gI 97), .int (gI 100)]) (rest := [.long (gJ (M 0 11))]) C hl.1 hp (c_X9_w4 l C.2.2.2.2.2.2.2.2.2.2.2 hr) gw_1454 gw_1455 cal_X9_w4 rfl rfl (Nat.le_of_ble_eq_true rfl) ⟨Nat.le_of_ble_eq_true rfl, Nat.le_of_ble_eq_true rfl⟩ dX9_nameOf_214 (fun H locs hp => ?_)
                      refine r_lcmp C dX9_nameOf_217 ?_
                      refine r_if_ne (tgt := 224) C h dX9_nameOf_218 (by decide) (fun h => ?_) (fun h => ?_)
                      · refine lv_aload_n C.1 C.2.1 dX9_nameOf_224 rfl (lv_at hl 0 rfl) ?_
                        refine r_getl (t := 0) C hp mk_0 ms_0 mc_0 min_0 (j := 11) (by decide) rfl gw_1267 rfl dX9_nameOf_225 ?_
                        refine r_bipush C dX9_nameOf_228 (by decide +kernel) ?_
                        refine r_bipush C dX9_nameOf_230 (by decide +kernel) ?_
                        refine r_bipush C dX9_nameOf_232 (by decide +kernel) ?_
                        obtain ⟨x21, hr, h⟩ := bd_of h
                        refine r_callSL (As := [.int (gI 114), .int (gI 111), .int (gI 119)]) (rest := [.long (gJ (M 0 11))]) C hl.1 hp (c_X9_w3 l C.2.2.2.2.2.2.2.2.2.2.2 hr) gw_1457 gw_1458 cal_X9_w3 rfl rfl (Nat.le_of_ble_eq_true rfl) ⟨Nat.le_of_ble_eq_true rfl, Nat.le_of_ble_eq_true rfl⟩ dX9_nameOf_234 (fun H locs hp => ?_)
                        refine r_lcmp C dX9_nameOf_237 ?_
                        refine r_if_ne (tgt := 246) C h dX9_nameOf_238 (by decide) (fun h => ?_) (fun h => ?_)
                        · refine lv_aload_n C.1 C.2.1 dX9_nameOf_246 rfl (lv_at hl 0 rfl) ?_
                          refine r_getl (t := 0) C hp mk_0 ms_0 mc_0 min_0 (j := 11) (by decide) rfl gw_1267 rfl dX9_nameOf_247 ?_
                          refine r_bipush C dX9_nameOf_250 (by decide +kernel) ?_
                          refine r_bipush C dX9_nameOf_252 (by decide +kernel) ?_
                          refine r_bipush C dX9_nameOf_254 (by decide +kernel) ?_
                          refine r_bipush C dX9_nameOf_256 (by decide +kernel) ?_
                          obtain ⟨x22, hr, h⟩ := bd_of h
                          refine r_callSL (As := [.int (gI 108), .int (gI 111), .int (gI 110), .int (gI 103)]) (rest := [.long (gJ (M 0 11))]) C hl.1 hp (c_X9_w4 l C.2.2.2.2.2.2.2.2.2.2.2 hr) gw_1454 gw_1455 cal_X9_w4 rfl rfl (Nat.le_of_ble_eq_true rfl) ⟨Nat.le_of_ble_eq_true rfl, Nat.le_of_ble_eq_true rfl⟩ dX9_nameOf_258 (fun H locs hp => ?_)
                          refine r_lcmp C dX9_nameOf_261 ?_
                          refine r_if_ne (tgt := 270) C h dX9_nameOf_262 (by decide) (fun h => ?_) (fun h => ?_)
                          · refine r_iconst C dX9_nameOf_270 ?_
                            cases h
                            exact hR _ _ _ _ dX9_nameOf_271 rfl hp
                          · refine r_bipush C dX9_nameOf_265 (by decide +kernel) ?_
                            refine r_goto (tgt := 271) C dX9_nameOf_267 (by decide) ?_
                            cases h
                            exact hR _ _ _ _ dX9_nameOf_271 rfl hp
                        · refine r_bipush C dX9_nameOf_241 (by decide +kernel) ?_
                          refine r_goto (tgt := 271) C dX9_nameOf_243 (by decide) ?_
                          cases h
                          exact hR _ _ _ _ dX9_nameOf_271 rfl hp
                      · refine r_bipush C dX9_nameOf_221 (by decide +kernel) ?_
                        cases h
                        exact hR _ _ _ _ dX9_nameOf_223 rfl hp
                    · refine r_bipush C dX9_nameOf_199 (by decide +kernel) ?_
                      cases h
                      exact hR _ _ _ _ dX9_nameOf_201 rfl hp
                  · refine r_bipush C dX9_nameOf_179 (by decide +kernel) ?_
                    cases h
                    exact hR _ _ _ _ dX9_nameOf_181 rfl hp
                · refine r_bipush C dX9_nameOf_157 (by decide +kernel) ?_
                  cases h
                  exact hR _ _ _ _ dX9_nameOf_159 rfl hp
              · refine r_iconst C dX9_nameOf_138 ?_
                cases h
                exact hR _ _ _ _ dX9_nameOf_139 rfl hp
            · refine r_iconst C dX9_nameOf_117 ?_
              cases h
              exact hR _ _ _ _ dX9_nameOf_118 rfl hp
          · refine r_iconst C dX9_nameOf_94 ?_
            cases h
            exact hR _ _ _ _ dX9_nameOf_95 rfl hp
        · refine r_iconst C dX9_nameOf_71 ?_
          cases h
          exact hR _ _ _ _ dX9_nameOf_72 rfl hp
      · refine r_iconst C dX9_nameOf_48 ?_
        cases h
        exact hR _ _ _ _ dX9_nameOf_49 rfl hp
    · refine r_iconst C dX9_nameOf_27 ?_
      cases h
      exact hR _ _ _ _ dX9_nameOf_28 rfl hp
  · refine r_iconst C dX9_nameOf_8 ?_
    cases h
    exact hR _ _ _ _ dX9_nameOf_9 rfl hp
theorem c_X9_nameOf (l : Launch) {V : g_V} (hok : g_ok mG V)  {M : g_M} {x : Int} (h : m_X9_nameOf M = some x) : MetI mG V l yX9_nameOf cX9_nameOf 1 (some .int) 4 90 [.ref (V.2.2 0)] M x M :=
  g_metI hok cal_X9_nameOf.2.2.2 rfl (Nat.le_of_ble_eq_true rfl) (@fun p e R s m args below meth c Q ls C hR hp hl => b_X9_nameOf C hR h hp hl)
set_option maxRecDepth 100000 in
set_option maxHeartbeats 4000000 in
theorem b_X9_isOf (C : g_CX mG V p R s m args meth c cX9_isOf 2 (some .boolean) RX9 0 0) {res : Int} {M : g_M} (hR : g_RetI mG V p l e R s m args below meth c Q cX9_isOf .boolean res M) {a1 : Int} {H : Heap} {locs : List Loc} {ls : Array Slot} (h : m_X9_isOf a1 M = some res) (hp : g_PT mG V M s H locs) (hl : lv_has ls 2 [(0, .ref (V.2.2 0)), (1, .int (gI a1))]) : W p l e R s m args below meth c H locs 0 0 Q (F0 m 0 ls []) := by
  unfold m_X9_isOf at h
  refine lv_iload_n C.1 C.2.1 dX9_isOf_0 rfl (lv_at hl 1 rfl) ?_
  refine r_iconst C dX9_isOf_1 ?_
  refine r_icmp_ge (tgt := 7) C h dX9_isOf_2 (by decide) (fun h => ?_) (fun h => ?_)
  · refine lv_iload_n C.1 C.2.1 dX9_isOf_7 rfl (lv_at hl 1 rfl) ?_
    refine r_iconst C dX9_isOf_8 ?_
    refine r_icmp_ne (tgt := 26) C h dX9_isOf_9 (by decide) (fun h => ?_) (fun h => ?_)
    · refine lv_iload_n C.1 C.2.1 dX9_isOf_26 rfl (lv_at hl 1 rfl) ?_
      refine r_bipush C dX9_isOf_27 (by decide +kernel) ?_
      refine r_icmp_ge (tgt := 47) C h dX9_isOf_29 (by decide) (fun h => ?_) (fun h => ?_)
      · refine lv_iload_n C.1 C.2.1 dX9_isOf_47 rfl (lv_at hl 1 rfl) ?_
        refine r_bipush C dX9_isOf_48 (by decide +kernel) ?_
        refine r_icmp_ge (tgt := 69) C h dX9_isOf_50 (by decide) (fun h => ?_) (fun h => ?_)
        · refine lv_aload_n C.1 C.2.1 dX9_isOf_69 rfl (lv_at hl 0 rfl) ?_
          refine r_geti (t := 0) C hp mk_0 ms_0 mc_0 min_0 (j := 14) (by decide) rfl gw_1270 rfl dX9_isOf_70 ?_
          refine r_iconst C dX9_isOf_73 ?_
          refine r_icmp_ne (tgt := 81) C h dX9_isOf_74 (by decide) (fun h => ?_) (fun h => ?_)
          · refine r_iconst C dX9_isOf_81 ?_
            cases h
            exact hR _ _ _ _ dX9_isOf_82 g_nz0 hp
          · refine r_iconst C dX9_isOf_77 ?_
            refine r_goto (tgt := 82) C dX9_isOf_78 (by decide) ?_
            cases h
            exact hR _ _ _ _ dX9_isOf_82 g_nz1 hp
        · refine lv_aload_n C.1 C.2.1 dX9_isOf_53 rfl (lv_at hl 0 rfl) ?_
          refine r_geti (t := 0) C hp mk_0 ms_0 mc_0 min_0 (j := 14) (by decide) rfl gw_1270 rfl dX9_isOf_54 ?_
          refine r_iconst C dX9_isOf_57 ?_
          refine r_icmp_ne (tgt := 65) C h dX9_isOf_58 (by decide) (fun h => ?_) (fun h => ?_)
          · refine r_iconst C dX9_isOf_65 ?_
            refine r_goto (tgt := 82) C dX9_isOf_66 (by decide) ?_
            cases h
            exact hR _ _ _ _ dX9_isOf_82 g_nz0 hp
          · refine r_iconst C dX9_isOf_61 ?_
            refine r_goto (tgt := 82) C dX9_isOf_62 (by decide) ?_
            cases h
            exact hR _ _ _ _ dX9_isOf_82 g_nz1 hp
      · refine lv_aload_n C.1 C.2.1 dX9_isOf_32 rfl (lv_at hl 0 rfl) ?_
        refine r_geti (t := 0) C hp mk_0 ms_0 mc_0 min_0 (j := 14) (by decide) rfl gw_1270 rfl dX9_isOf_33 ?_
        refine r_if_ne (tgt := 43) C h dX9_isOf_36 (by decide) (fun h => ?_) (fun h => ?_)
        · refine r_iconst C dX9_isOf_43 ?_
          refine r_goto (tgt := 82) C dX9_isOf_44 (by decide) ?_
          cases h
          exact hR _ _ _ _ dX9_isOf_82 g_nz0 hp
        · refine r_iconst C dX9_isOf_39 ?_
          refine r_goto (tgt := 82) C dX9_isOf_40 (by decide) ?_
          cases h
          exact hR _ _ _ _ dX9_isOf_82 g_nz1 hp
    · refine lv_aload_n C.1 C.2.1 dX9_isOf_12 rfl (lv_at hl 0 rfl) ?_
      refine r_geti (t := 0) C hp mk_0 ms_0 mc_0 min_0 (j := 14) (by decide) rfl gw_1270 rfl dX9_isOf_13 ?_
      refine r_iconst C dX9_isOf_16 ?_
      refine r_icmp_eq (tgt := 24) C h dX9_isOf_17 (by decide) (fun h => ?_) (fun h => ?_)
      · refine r_iconst C dX9_isOf_24 ?_
        cases h
        exact hR _ _ _ _ dX9_isOf_25 g_nz0 hp
      · refine r_iconst C dX9_isOf_20 ?_
        refine r_goto (tgt := 25) C dX9_isOf_21 (by decide) ?_
        cases h
        exact hR _ _ _ _ dX9_isOf_25 g_nz1 hp
  · refine r_iconst C dX9_isOf_5 ?_
    cases h
    exact hR _ _ _ _ dX9_isOf_6 g_nz1 hp
theorem c_X9_isOf (l : Launch) {V : g_V} (hok : g_ok mG V) {a1 : Int} {M : g_M} {x : Int} (h : m_X9_isOf a1 M = some x) : MetI mG V l yX9_isOf cX9_isOf 2 (some .boolean) 0 0 [.ref (V.2.2 0), .int (gI a1)] M x M :=
  g_metI hok cal_X9_isOf.2.2.2 rfl (Nat.le_of_ble_eq_true rfl) (@fun p e R s m args below meth c Q ls C hR hp hl => b_X9_isOf C hR h hp hl)
set_option maxRecDepth 100000 in
set_option maxHeartbeats 4000000 in
theorem b_X9_rank (C : g_CX mG V p R s m args meth c cX9_rank 1 (some .int) RX9 0 0) {res : Int} {M : g_M} (hR : g_RetI mG V p l e R s m args below meth c Q cX9_rank .int res M) {a1 : Int} {H : Heap} {locs : List Loc} {ls : Array Slot} (h : m_X9_rank a1 = some res) (hp : g_PT mG V M s H locs) (hl : lv_has ls 1 [(0, .int (gI a1))]) : W p l e R s m args below meth c H locs 0 0 Q (F0 m 0 ls []) := by
  unfold m_X9_rank at h
  refine lv_iload_n C.1 C.2.1 dX9_rank_0 rfl (lv_at hl 0 rfl) ?_
  refine r_bipush C dX9_rank_1 (by decide +kernel) ?_
  refine r_icmp_lt (tgt := 10) C h dX9_rank_3 (by decide) (fun h => ?_) (fun h => ?_)
  · refine lv_iload_n C.1 C.2.1 dX9_rank_10 rfl (lv_at hl 0 rfl) ?_
    refine r_bipush C dX9_rank_11 (by decide +kernel) ?_
    refine r_icmp_ne (tgt := 20) C h dX9_rank_13 (by decide) (fun h => ?_) (fun h => ?_)
    · refine lv_iload_n C.1 C.2.1 dX9_rank_20 rfl (lv_at hl 0 rfl) ?_
      refine r_bipush C dX9_rank_21 (by decide +kernel) ?_
      refine r_icmp_ne (tgt := 30) C h dX9_rank_23 (by decide) (fun h => ?_) (fun h => ?_)
      · refine lv_iload_n C.1 C.2.1 dX9_rank_30 rfl (lv_at hl 0 rfl) ?_
        refine r_bipush C dX9_rank_31 (by decide +kernel) ?_
        refine r_icmp_ne (tgt := 40) C h dX9_rank_33 (by decide) (fun h => ?_) (fun h => ?_)
        · refine lv_iload_n C.1 C.2.1 dX9_rank_40 rfl (lv_at hl 0 rfl) ?_
          refine r_bipush C dX9_rank_41 (by decide +kernel) ?_
          refine r_icmp_lt (tgt := 50) C h dX9_rank_43 (by decide) (fun h => ?_) (fun h => ?_)
          · refine r_jn (P := fun J => ∀  (H : Heap) (locs : List Loc) (ls : Array Slot), J  = some res → g_PT mG V M s H locs → lv_has ls 1 [] → W p l e R s m args below meth c H locs 0 0 Q (F0 m 60 ls [])) h ?_ (fun J11 hJ11 h => ?_)
            · intro  H locs ls h hp hl
              refine r_bipush C dX9_rank_60 (by decide +kernel) ?_
              refine r_goto (tgt := 77) C dX9_rank_62 (by decide) ?_
              cases h
              exact hR _ _ _ _ dX9_rank_77 rfl hp
            refine lv_iload_n C.1 C.2.1 dX9_rank_50 rfl (lv_at hl 0 rfl) ?_
            refine r_iconst C dX9_rank_51 ?_
            refine r_icmp_eq (tgt := 60) C h dX9_rank_52 (by decide) (fun h => ?_) (fun h => ?_)
            · exact hJ11  _ _ _ h hp (lv_sub hl [] rfl)
            · refine lv_iload_n C.1 C.2.1 dX9_rank_55 rfl (lv_at hl 0 rfl) ?_
              refine r_iconst C dX9_rank_56 ?_
              refine r_icmp_ne (tgt := 65) C h dX9_rank_57 (by decide) (fun h => ?_) (fun h => ?_)
              · refine lv_iload_n C.1 C.2.1 dX9_rank_65 rfl (lv_at hl 0 rfl) ?_
                refine r_bipush C dX9_rank_66 (by decide +kernel) ?_
                refine r_icmp_lt (tgt := 76) C h dX9_rank_68 (by decide) (fun h => ?_) (fun h => ?_)
                · refine r_iconst C dX9_rank_76 ?_
                  cases h
                  exact hR _ _ _ _ dX9_rank_77 rfl hp
                · refine r_bipush C dX9_rank_71 (by decide +kernel) ?_
                  refine r_goto (tgt := 77) C dX9_rank_73 (by decide) ?_
                  cases h
                  exact hR _ _ _ _ dX9_rank_77 rfl hp
              · exact hJ11  _ _ _ h hp (lv_sub hl [] rfl)
          · refine r_iconst C dX9_rank_46 ?_
            refine r_goto (tgt := 77) C dX9_rank_47 (by decide) ?_
            cases h
            exact hR _ _ _ _ dX9_rank_77 rfl hp
        · refine r_iconst C dX9_rank_36 ?_
          refine r_goto (tgt := 77) C dX9_rank_37 (by decide) ?_
          cases h
          exact hR _ _ _ _ dX9_rank_77 rfl hp
      · refine r_iconst C dX9_rank_26 ?_
        refine r_goto (tgt := 77) C dX9_rank_27 (by decide) ?_
        cases h
        exact hR _ _ _ _ dX9_rank_77 rfl hp
    · refine r_iconst C dX9_rank_16 ?_
      refine r_goto (tgt := 77) C dX9_rank_17 (by decide) ?_
      cases h
      exact hR _ _ _ _ dX9_rank_77 rfl hp
  · refine r_iconst C dX9_rank_6 ?_
    refine r_goto (tgt := 77) C dX9_rank_7 (by decide) ?_
    cases h
    exact hR _ _ _ _ dX9_rank_77 rfl hp
theorem c_X9_rank (l : Launch) {V : g_V} (hok : g_ok mG V) {a1 : Int} {M : g_M} {x : Int} (h : m_X9_rank a1 = some x) : MetI mG V l yX9_rank cX9_rank 1 (some .int) 0 0 [.int (gI a1)] M x M :=
  g_metI hok cal_X9_rank.2.2.2 rfl (Nat.le_of_ble_eq_true rfl) (@fun p e R s m args below meth c Q ls C hR hp hl => b_X9_rank C hR h hp hl)
set_option maxRecDepth 100000 in
set_option maxHeartbeats 4000000 in
theorem w_X9_settle_L0 (C : g_CX mG V p R s m args meth c cX9_settle 2 none RX9 1 22) {res : g_M} (hR : g_RetV mG V p l e R s m args below meth c Q cX9_settle res) (x11 : Int)   : ∀ (f : Nat)  (M12 : g_M) (H : Heap) (locs : List Loc) (ls : Array Slot), m_X9_settle_L0 x11  f M12 = some res → g_PT mG V M12 s H locs → lv_has ls 2 [(0, .ref (V.2.2 0)), (1, .int (gI x11))] → W p l e R s m args below meth c H locs 0 0 Q (F0 m 0 ls []) := by
  intro f
  induction f with
  | zero => intro M12 H locs ls h hp hl; cases h
  | succ f ih =>
    intro M12 H locs ls h hp hl
    rw [m_X9_settle_L0] at h
    refine lv_aload_n C.1 C.2.1 dX9_settle_0 rfl (lv_at hl 0 rfl) ?_
    refine r_geti (t := 0) C hp mk_0 ms_0 mc_0 min_0 (j := 16) (by decide) rfl gw_1272 rfl dX9_settle_1 ?_
    refine r_if_le (tgt := 93) C h dX9_settle_4 (by decide) (fun h => ?_) (fun h => ?_)
    · cases h
      exact hR _ _ _ _ dX9_settle_93 hp
    · refine lv_aload_n C.1 C.2.1 dX9_settle_7 rfl (lv_at hl 0 rfl) ?_
      refine r_getr (t := 5) C hp mk_0 ms_0 mc_0 min_0 (j := 15) (by decide) rfl gw_1271 rfl dX9_settle_8 ?_
      refine lv_aload_n C.1 C.2.1 dX9_settle_11 rfl (lv_at hl 0 rfl) ?_
      refine r_geti (t := 0) C hp mk_0 ms_0 mc_0 min_0 (j := 16) (by decide) rfl gw_1272 rfl dX9_settle_12 ?_
      refine r_iconst C dX9_settle_15 ?_
      refine r_isub C dX9_settle_16 ?_
      refine r_iald C hp h mk_5 ms_5 dX9_settle_17 (fun h => ?_)
      obtain ⟨x13, hr, h⟩ := bd_of h
      refine r_callSI (As := [.int (gI (M12 5 (gs ((M12 0 16) - 1)).toNat))]) (rest := []) C hl.1 hp (c_X9_rank l C.2.2.2.2.2.2.2.2.2.2.2 hr) gw_1528 gw_1529 cal_X9_rank rfl rfl (Nat.le_of_ble_eq_true rfl) ⟨Nat.le_of_ble_eq_true rfl, Nat.le_of_ble_eq_true rfl⟩ dX9_settle_18 (fun H locs hp => ?_)
      refine lv_iload_n C.1 C.2.1 dX9_settle_21 rfl (lv_at hl 1 rfl) ?_
      refine r_icmp_lt (tgt := 93) C h dX9_settle_22 (by decide) (fun h => ?_) (fun h => ?_)
      · cases h
        exact hR _ _ _ _ dX9_settle_93 hp
      · refine r_jn (P := fun J => ∀ (M18 : g_M) (H : Heap) (locs : List Loc) (ls : Array Slot), J M18 = some res → g_PT mG V M18 s H locs → lv_has ls 2 [(0, .ref (V.2.2 0)), (1, .int (gI x11))] → W p l e R s m args below meth c H locs 0 0 Q (F0 m 80 ls [])) h ?_ (fun J14 hJ14 h => ?_)
        · intro M18 H locs ls h hp hl
          refine lv_aload_n C.1 C.2.1 dX9_settle_80 rfl (lv_at hl 0 rfl) ?_
          refine lv_dup C.1 C.2.1 dX9_settle_81 rfl ?_
          refine r_geti (t := 0) C hp mk_0 ms_0 mc_0 min_0 (j := 17) (by decide) rfl gw_1273 rfl dX9_settle_82 ?_
          refine r_iconst C dX9_settle_85 ?_
          refine r_isub C dX9_settle_86 ?_
          refine r_puti C hp h mk_0 ms_0 mc_0 min_0 tyX9 tyX9_ok nmX9 (j := 17) (by decide) rfl gw_1273 rfl rfl rfl dX9_settle_87 (fun M19 H locs h hp => ?_)
          refine r_goto (tgt := 0) C dX9_settle_90 (by decide) ?_
          exact ih _ _ _ _ h hp hl
        refine lv_aload_n C.1 C.2.1 dX9_settle_25 rfl (lv_at hl 0 rfl) ?_
        refine lv_dup C.1 C.2.1 dX9_settle_26 rfl ?_
        refine r_geti (t := 0) C hp mk_0 ms_0 mc_0 min_0 (j := 16) (by decide) rfl gw_1272 rfl dX9_settle_27 ?_
        refine r_iconst C dX9_settle_30 ?_
        refine r_isub C dX9_settle_31 ?_
        refine r_puti C hp h mk_0 ms_0 mc_0 min_0 tyX9 tyX9_ok nmX9 (j := 16) (by decide) rfl gw_1272 rfl rfl rfl dX9_settle_32 (fun M15 H locs h hp => ?_)
        refine lv_aload_n C.1 C.2.1 dX9_settle_35 rfl (lv_at hl 0 rfl) ?_
        refine lv_aload_n C.1 C.2.1 dX9_settle_36 rfl (lv_at hl 0 rfl) ?_
        refine r_getr (t := 5) C hp mk_0 ms_0 mc_0 min_0 (j := 15) (by decide) rfl gw_1271 rfl dX9_settle_37 ?_
        refine lv_aload_n C.1 C.2.1 dX9_settle_40 rfl (lv_at hl 0 rfl) ?_
        refine r_geti (t := 0) C hp mk_0 ms_0 mc_0 min_0 (j := 16) (by decide) rfl gw_1272 rfl dX9_settle_41 ?_
        refine r_iald C hp h mk_5 ms_5 dX9_settle_44 (fun h => ?_)
        refine r_iconst C dX9_settle_45 ?_
        obtain ⟨M16, hr, h⟩ := bd_of h
        refine r_callVV (As := [.int (gI (M15 5 (gs (M15 0 16)).toNat)), .int (gI 0)]) (rest := []) C hl.1 hp (c_X9_emit l C.2.2.2.2.2.2.2.2.2.2.2 hr) gw_1539 gw_1541 gw_70 mk_0 ms_0 mc_0 cal_X9_emit rfl rfl (Nat.le_of_ble_eq_true rfl) ⟨Nat.le_of_ble_eq_true rfl, Nat.le_of_ble_eq_true rfl⟩ dX9_settle_46 (fun H locs hp => ?_)
        refine lv_aload_n C.1 C.2.1 dX9_settle_49 rfl (lv_at hl 0 rfl) ?_
        refine r_getr (t := 5) C hp mk_0 ms_0 mc_0 min_0 (j := 15) (by decide) rfl gw_1271 rfl dX9_settle_50 ?_
        refine lv_aload_n C.1 C.2.1 dX9_settle_53 rfl (lv_at hl 0 rfl) ?_
        refine r_geti (t := 0) C hp mk_0 ms_0 mc_0 min_0 (j := 16) (by decide) rfl gw_1272 rfl dX9_settle_54 ?_
        refine r_iald C hp h mk_5 ms_5 dX9_settle_57 (fun h => ?_)
        obtain ⟨x17, hr, h⟩ := bd_of h
        refine r_callSI (As := [.int (gI (M16 5 (gs (M16 0 16)).toNat))]) (rest := []) C hl.1 hp (c_X9_rank l C.2.2.2.2.2.2.2.2.2.2.2 hr) gw_1528 gw_1529 cal_X9_rank rfl rfl (Nat.le_of_ble_eq_true rfl) ⟨Nat.le_of_ble_eq_true rfl, Nat.le_of_ble_eq_true rfl⟩ dX9_settle_58 (fun H locs hp => ?_)
        refine r_bipush C dX9_settle_61 (by decide +kernel) ?_
        refine r_icmp_eq (tgt := 80) C h dX9_settle_63 (by decide) (fun h => ?_) (fun h => ?_)
        · exact hJ14 _ _ _ _ h hp hl
        · refine lv_aload_n C.1 C.2.1 dX9_settle_66 rfl (lv_at hl 0 rfl) ?_
          refine r_getr (t := 5) C hp mk_0 ms_0 mc_0 min_0 (j := 15) (by decide) rfl gw_1271 rfl dX9_settle_67 ?_
          refine lv_aload_n C.1 C.2.1 dX9_settle_70 rfl (lv_at hl 0 rfl) ?_
          refine r_geti (t := 0) C hp mk_0 ms_0 mc_0 min_0 (j := 16) (by decide) rfl gw_1272 rfl dX9_settle_71 ?_
          refine r_iald C hp h mk_5 ms_5 dX9_settle_74 (fun h => ?_)
          refine r_bipush C dX9_settle_75 (by decide +kernel) ?_
          refine r_icmp_ne (tgt := 0) C h dX9_settle_77 (by decide) (fun h => ?_) (fun h => ?_)
          · exact ih _ _ _ _ h hp hl
          · exact hJ14 _ _ _ _ h hp hl
set_option maxRecDepth 100000 in
set_option maxHeartbeats 4000000 in
theorem b_X9_settle (C : g_CX mG V p R s m args meth c cX9_settle 2 none RX9 1 22) {res : g_M} (hR : g_RetV mG V p l e R s m args below meth c Q cX9_settle res) {a1 : Int} {M : g_M} {H : Heap} {locs : List Loc} {ls : Array Slot} (h : m_X9_settle a1 M = some res) (hp : g_PT mG V M s H locs) (hl : lv_has ls 2 [(0, .ref (V.2.2 0)), (1, .int (gI a1))]) : W p l e R s m args below meth c H locs 0 0 Q (F0 m 0 ls []) := by
  unfold m_X9_settle at h
  refine w_X9_settle_L0 C hR _ _ _ H locs ls h hp hl
theorem c_X9_settle (l : Launch) {V : g_V} (hok : g_ok mG V) {a1 : Int} {M : g_M} {res : g_M} (h : m_X9_settle a1 M = some res) : MetV mG V l yX9_settle cX9_settle 2 none 1 22 [.ref (V.2.2 0), .int (gI a1)] M res :=
  g_metV hok cal_X9_settle.2.2.2 rfl (Nat.le_of_ble_eq_true rfl) (@fun p e R s m args below meth c Q ls C hR hp hl => b_X9_settle C hR h hp hl)
set_option maxRecDepth 100000 in
set_option maxHeartbeats 4000000 in
theorem w_X9_openAt_L7 (C : g_CX mG V p R s m args meth c cX9_openAt 2 (some .int) RX9 0 0) {res : Int} {M13 : g_M} (hR : g_RetI mG V p l e R s m args below meth c Q cX9_openAt .int res M13)    : ∀ (f : Nat) (x12 : Int) (H : Heap) (locs : List Loc) (ls : Array Slot), m_X9_openAt_L7 M13  f x12 = some res → g_PT mG V M13 s H locs → lv_has ls 2 [(0, .ref (V.2.2 0)), (1, .int (gI x12))] → W p l e R s m args below meth c H locs 0 0 Q (F0 m 7 ls []) := by
  intro f
  induction f with
  | zero => intro x12 H locs ls h hp hl; cases h
  | succ f ih =>
    intro x12 H locs ls h hp hl
    rw [m_X9_openAt_L7] at h
    refine lv_iload_n C.1 C.2.1 dX9_openAt_7 rfl (lv_at hl 1 rfl) ?_
    refine r_if_lt (tgt := 28) C h dX9_openAt_8 (by decide) (fun h => ?_) (fun h => ?_)
    · refine lv_iload_n C.1 C.2.1 dX9_openAt_28 rfl (lv_at hl 1 rfl) ?_
      cases h
      exact hR _ _ _ _ dX9_openAt_29 rfl hp
    · refine lv_aload_n C.1 C.2.1 dX9_openAt_11 rfl (lv_at hl 0 rfl) ?_
      refine r_getr (t := 5) C hp mk_0 ms_0 mc_0 min_0 (j := 15) (by decide) rfl gw_1271 rfl dX9_openAt_12 ?_
      refine lv_iload_n C.1 C.2.1 dX9_openAt_15 rfl (lv_at hl 1 rfl) ?_
      refine r_iald C hp h mk_5 ms_5 dX9_openAt_16 (fun h => ?_)
      refine r_bipush C dX9_openAt_17 (by decide +kernel) ?_
      refine r_icmp_ge (tgt := 28) C h dX9_openAt_19 (by decide) (fun h => ?_) (fun h => ?_)
      · refine lv_iload_n C.1 C.2.1 dX9_openAt_28 rfl (lv_at hl 1 rfl) ?_
        cases h
        exact hR _ _ _ _ dX9_openAt_29 rfl hp
      · refine r_iinc (lv' := fun x14 => [(1, .int (gI x14)), (0, .ref (V.2.2 0))]) C h dX9_openAt_22 hl (j := 1) rfl (by decide) (fun _ => rfl) (fun x14 ls h hl => ?_)
        refine r_goto (tgt := 7) C dX9_openAt_25 (by decide) ?_
        exact ih _ _ _ _ h hp (lv_sub hl [1, 0] rfl)
set_option maxRecDepth 100000 in
set_option maxHeartbeats 4000000 in
theorem b_X9_openAt (C : g_CX mG V p R s m args meth c cX9_openAt 2 (some .int) RX9 0 0) {res : Int} {M : g_M} (hR : g_RetI mG V p l e R s m args below meth c Q cX9_openAt .int res M)  {H : Heap} {locs : List Loc} {ls : Array Slot} (h : m_X9_openAt M = some res) (hp : g_PT mG V M s H locs) (hl : lv_has ls 2 [(0, .ref (V.2.2 0))]) : W p l e R s m args below meth c H locs 0 0 Q (F0 m 0 ls []) := by
  unfold m_X9_openAt at h
  refine lv_aload_n C.1 C.2.1 dX9_openAt_0 rfl (lv_at hl 0 rfl) ?_
  refine r_geti (t := 0) C hp mk_0 ms_0 mc_0 min_0 (j := 16) (by decide) rfl gw_1272 rfl dX9_openAt_1 ?_
  refine r_iconst C dX9_openAt_4 ?_
  refine r_isub C dX9_openAt_5 ?_
  refine r_istore_n (lv' := fun x11 => [(1, .int (gI x11)), (0, .ref (V.2.2 0))]) C h dX9_openAt_6 rfl hl (by decide) (fun _ => rfl) (fun x11 ls h hl => ?_)
  refine w_X9_openAt_L7 C hR _ _ H locs ls h hp (lv_sub hl [1, 0] rfl)
theorem c_X9_openAt (l : Launch) {V : g_V} (hok : g_ok mG V)  {M : g_M} {x : Int} (h : m_X9_openAt M = some x) : MetI mG V l yX9_openAt cX9_openAt 2 (some .int) 0 0 [.ref (V.2.2 0)] M x M :=
  g_metI hok cal_X9_openAt.2.2.2 rfl (Nat.le_of_ble_eq_true rfl) (@fun p e R s m args below meth c Q ls C hR hp hl => b_X9_openAt C hR h hp hl)
set_option maxRecDepth 100000 in
set_option maxHeartbeats 4000000 in
theorem b_X9_openNow (C : g_CX mG V p R s m args meth c cX9_openNow 1 (some .int) RX9 1 21) {res : Int} {M : g_M} (hR : g_RetI mG V p l e R s m args below meth c Q cX9_openNow .int res M)  {H : Heap} {locs : List Loc} {ls : Array Slot} (h : m_X9_openNow M = some res) (hp : g_PT mG V M s H locs) (hl : lv_has ls 1 [(0, .ref (V.2.2 0))]) : W p l e R s m args below meth c H locs 0 0 Q (F0 m 0 ls []) := by
  unfold m_X9_openNow at h
  refine lv_aload_n C.1 C.2.1 dX9_openNow_0 rfl (lv_at hl 0 rfl) ?_
  obtain ⟨x11, hr, h⟩ := bd_of h
  refine r_callVI (As := []) (rest := []) C hl.1 hp (c_X9_openAt l C.2.2.2.2.2.2.2.2.2.2.2 hr) gw_1520 gw_1522 gw_66 mk_0 ms_0 mc_0 cal_X9_openAt rfl rfl (Nat.le_of_ble_eq_true rfl) ⟨Nat.le_of_ble_eq_true rfl, Nat.le_of_ble_eq_true rfl⟩ dX9_openNow_1 (fun H locs hp => ?_)
  refine r_if_ge (tgt := 11) C h dX9_openNow_4 (by decide) (fun h => ?_) (fun h => ?_)
  · refine lv_aload_n C.1 C.2.1 dX9_openNow_11 rfl (lv_at hl 0 rfl) ?_
    refine r_getr (t := 5) C hp mk_0 ms_0 mc_0 min_0 (j := 15) (by decide) rfl gw_1271 rfl dX9_openNow_12 ?_
    refine lv_aload_n C.1 C.2.1 dX9_openNow_15 rfl (lv_at hl 0 rfl) ?_
    obtain ⟨x12, hr, h⟩ := bd_of h
    refine r_callVI (As := []) (rest := [.ref (V.2.2 5)]) C hl.1 hp (c_X9_openAt l C.2.2.2.2.2.2.2.2.2.2.2 hr) gw_1520 gw_1522 gw_66 mk_0 ms_0 mc_0 cal_X9_openAt rfl rfl (Nat.le_of_ble_eq_true rfl) ⟨Nat.le_of_ble_eq_true rfl, Nat.le_of_ble_eq_true rfl⟩ dX9_openNow_16 (fun H locs hp => ?_)
    refine r_iald C hp h mk_5 ms_5 dX9_openNow_19 (fun h => ?_)
    cases h
    exact hR _ _ _ _ dX9_openNow_20 rfl hp
  · refine r_iconst C dX9_openNow_7 ?_
    refine r_goto (tgt := 20) C dX9_openNow_8 (by decide) ?_
    cases h
    exact hR _ _ _ _ dX9_openNow_20 rfl hp
theorem c_X9_openNow (l : Launch) {V : g_V} (hok : g_ok mG V)  {M : g_M} {x : Int} (h : m_X9_openNow M = some x) : MetI mG V l yX9_openNow cX9_openNow 1 (some .int) 1 21 [.ref (V.2.2 0)] M x M :=
  g_metI hok cal_X9_openNow.2.2.2 rfl (Nat.le_of_ble_eq_true rfl) (@fun p e R s m args below meth c Q ls C hR hp hl => b_X9_openNow C hR h hp hl)
set_option maxRecDepth 100000 in
set_option maxHeartbeats 4000000 in
theorem w_X9_isCompared_L7 (C : g_CX mG V p R s m args meth c cX9_isCompared 2 (some .boolean) RX9 1 20) {res : Int} {M13 : g_M} (hR : g_RetI mG V p l e R s m args below meth c Q cX9_isCompared .boolean res M13)  (k14 : Int → Option (Int)) (hk14 : ∀ (x17 : Int) (H : Heap) (locs : List Loc) (ls : Array Slot), k14 x17 = some res → g_PT mG V M13 s H locs → lv_has ls 2 [(0, .ref (V.2.2 0)), (1, .int (gI x17))] → W p l e R s m args below meth c H locs 0 0 Q (F0 m 30 ls [])) : ∀ (f : Nat) (x12 : Int) (H : Heap) (locs : List Loc) (ls : Array Slot), m_X9_isCompared_L7 M13 k14 f x12 = some res → g_PT mG V M13 s H locs → lv_has ls 2 [(0, .ref (V.2.2 0)), (1, .int (gI x12))] → W p l e R s m args below meth c H locs 0 0 Q (F0 m 7 ls []) := by
  intro f
  induction f with
  | zero => intro x12 H locs ls h hp hl; cases h
  | succ f ih =>
    intro x12 H locs ls h hp hl
    rw [m_X9_isCompared_L7] at h
    refine lv_iload_n C.1 C.2.1 dX9_isCompared_7 rfl (lv_at hl 1 rfl) ?_
    refine r_if_lt (tgt := 30) C h dX9_isCompared_8 (by decide) (fun h => ?_) (fun h => ?_)
    · exact hk14 _ _ _ _ h hp hl
    · refine lv_aload_n C.1 C.2.1 dX9_isCompared_11 rfl (lv_at hl 0 rfl) ?_
      refine r_getr (t := 5) C hp mk_0 ms_0 mc_0 min_0 (j := 15) (by decide) rfl gw_1271 rfl dX9_isCompared_12 ?_
      refine lv_iload_n C.1 C.2.1 dX9_isCompared_15 rfl (lv_at hl 1 rfl) ?_
      refine r_iald C hp h mk_5 ms_5 dX9_isCompared_16 (fun h => ?_)
      obtain ⟨x15, hr, h⟩ := bd_of h
      refine r_callSI (As := [.int (gI (M13 5 (gs x12).toNat))]) (rest := []) C hl.1 hp (c_X9_rank l C.2.2.2.2.2.2.2.2.2.2.2 hr) gw_1528 gw_1529 cal_X9_rank rfl rfl (Nat.le_of_ble_eq_true rfl) ⟨Nat.le_of_ble_eq_true rfl, Nat.le_of_ble_eq_true rfl⟩ dX9_isCompared_17 (fun H locs hp => ?_)
      refine r_iconst C dX9_isCompared_20 ?_
      refine r_icmp_le (tgt := 30) C h dX9_isCompared_21 (by decide) (fun h => ?_) (fun h => ?_)
      · exact hk14 _ _ _ _ h hp hl
      · refine r_iinc (lv' := fun x16 => [(1, .int (gI x16)), (0, .ref (V.2.2 0))]) C h dX9_isCompared_24 hl (j := 1) rfl (by decide) (fun _ => rfl) (fun x16 ls h hl => ?_)
        refine r_goto (tgt := 7) C dX9_isCompared_27 (by decide) ?_
        exact ih _ _ _ _ h hp (lv_sub hl [1, 0] rfl)
set_option maxRecDepth 100000 in
set_option maxHeartbeats 4000000 in
theorem b_X9_isCompared (C : g_CX mG V p R s m args meth c cX9_isCompared 2 (some .boolean) RX9 1 20) {res : Int} {M : g_M} (hR : g_RetI mG V p l e R s m args below meth c Q cX9_isCompared .boolean res M)  {H : Heap} {locs : List Loc} {ls : Array Slot} (h : m_X9_isCompared M = some res) (hp : g_PT mG V M s H locs) (hl : lv_has ls 2 [(0, .ref (V.2.2 0))]) : W p l e R s m args below meth c H locs 0 0 Q (F0 m 0 ls []) := by
  unfold m_X9_isCompared at h
  refine lv_aload_n C.1 C.2.1 dX9_isCompared_0 rfl (lv_at hl 0 rfl) ?_
  refine r_geti (t := 0) C hp mk_0 ms_0 mc_0 min_0 (j := 16) (by decide) rfl gw_1272 rfl dX9_isCompared_1 ?_
  refine r_iconst C dX9_isCompared_4 ?_
  refine r_isub C dX9_isCompared_5 ?_
  refine r_istore_n (lv' := fun x11 => [(1, .int (gI x11)), (0, .ref (V.2.2 0))]) C h dX9_isCompared_6 rfl hl (by decide) (fun _ => rfl) (fun x11 ls h hl => ?_)
  refine w_X9_isCompared_L7 C hR _ ?_ _ _ H locs ls h hp (lv_sub hl [1, 0] rfl)
  · intro x18 H locs ls h hp hl
    refine r_jn (P := fun J => ∀  (H : Heap) (locs : List Loc) (ls : Array Slot), J  = some res → g_PT mG V M s H locs → lv_has ls 2 [] → W p l e R s m args below meth c H locs 0 0 Q (F0 m 51 ls [])) h ?_ (fun J19 hJ19 h => ?_)
    · intro  H locs ls h hp hl
      refine r_iconst C dX9_isCompared_51 ?_
      cases h
      exact hR _ _ _ _ dX9_isCompared_52 g_nz0 hp
    refine lv_iload_n C.1 C.2.1 dX9_isCompared_30 rfl (lv_at hl 1 rfl) ?_
    refine r_if_lt (tgt := 51) C h dX9_isCompared_31 (by decide) (fun h => ?_) (fun h => ?_)
    · exact hJ19  _ _ _ h hp (lv_sub hl [] rfl)
    · refine lv_aload_n C.1 C.2.1 dX9_isCompared_34 rfl (lv_at hl 0 rfl) ?_
      refine r_getr (t := 5) C hp mk_0 ms_0 mc_0 min_0 (j := 15) (by decide) rfl gw_1271 rfl dX9_isCompared_35 ?_
      refine lv_iload_n C.1 C.2.1 dX9_isCompared_38 rfl (lv_at hl 1 rfl) ?_
      refine r_iald C hp h mk_5 ms_5 dX9_isCompared_39 (fun h => ?_)
      obtain ⟨x20, hr, h⟩ := bd_of h
      refine r_callSI (As := [.int (gI (M 5 (gs x18).toNat))]) (rest := []) C hl.1 hp (c_X9_rank l C.2.2.2.2.2.2.2.2.2.2.2 hr) gw_1528 gw_1529 cal_X9_rank rfl rfl (Nat.le_of_ble_eq_true rfl) ⟨Nat.le_of_ble_eq_true rfl, Nat.le_of_ble_eq_true rfl⟩ dX9_isCompared_40 (fun H locs hp => ?_)
      refine r_iconst C dX9_isCompared_43 ?_
      refine r_icmp_ne (tgt := 51) C h dX9_isCompared_44 (by decide) (fun h => ?_) (fun h => ?_)
      · exact hJ19  _ _ _ h hp (lv_sub hl [] rfl)
      · refine r_iconst C dX9_isCompared_47 ?_
        refine r_goto (tgt := 52) C dX9_isCompared_48 (by decide) ?_
        cases h
        exact hR _ _ _ _ dX9_isCompared_52 g_nz1 hp
theorem c_X9_isCompared (l : Launch) {V : g_V} (hok : g_ok mG V)  {M : g_M} {x : Int} (h : m_X9_isCompared M = some x) : MetI mG V l yX9_isCompared cX9_isCompared 2 (some .boolean) 1 20 [.ref (V.2.2 0)] M x M :=
  g_metI hok cal_X9_isCompared.2.2.2 rfl (Nat.le_of_ble_eq_true rfl) (@fun p e R s m args below meth c Q ls C hR hp hl => b_X9_isCompared C hR h hp hl)
set_option maxRecDepth 100000 in
set_option maxHeartbeats 4000000 in
theorem b_X9_isAskAhead (C : g_CX mG V p R s m args meth c cX9_isAskAhead 1 (some .boolean) RX9 2 41) {res : Int} {M : g_M} (hR : g_RetI mG V p l e R s m args below meth c Q cX9_isAskAhead .boolean res M)  {H : Heap} {locs : List Loc} {ls : Array Slot} (h : m_X9_isAskAhead M = some res) (hp : g_PT mG V M s H locs) (hl : lv_has ls 1 [(0, .ref (V.2.2 0))]) : W p l e R s m args below meth c H locs 0 0 Q (F0 m 0 ls []) := by
  unfold m_X9_isAskAhead at h
  refine r_jn (P := fun J => ∀  (H : Heap) (locs : List Loc) (ls : Array Slot), J  = some res → g_PT mG V M s H locs → lv_has ls 1 [] → W p l e R s m args below meth c H locs 0 0 Q (F0 m 51 ls [])) h ?_ (fun J11 hJ11 h => ?_)
  · intro  H locs ls h hp hl
    refine r_iconst C dX9_isAskAhead_51 ?_
    cases h
    exact hR _ _ _ _ dX9_isAskAhead_52 g_nz0 hp
  refine lv_aload_n C.1 C.2.1 dX9_isAskAhead_0 rfl (lv_at hl 0 rfl) ?_
  obtain ⟨x12, hr, h⟩ := bd_of h
  refine r_callVI (As := []) (rest := []) C hl.1 hp (c_X9_openNow l C.2.2.2.2.2.2.2.2.2.2.2 hr) gw_1516 gw_1518 gw_65 mk_0 ms_0 mc_0 cal_X9_openNow rfl rfl (Nat.le_of_ble_eq_true rfl) ⟨Nat.le_of_ble_eq_true rfl, Nat.le_of_ble_eq_true rfl⟩ dX9_isAskAhead_1 (fun H locs hp => ?_)
  refine r_bipush C dX9_isAskAhead_4 (by decide +kernel) ?_
  refine r_icmp_ne (tgt := 51) C h dX9_isAskAhead_6 (by decide) (fun h => ?_) (fun h => ?_)
  · exact hJ11  _ _ _ h hp (lv_sub hl [] rfl)
  · refine r_jn (P := fun J => ∀  (H : Heap) (locs : List Loc) (ls : Array Slot), J  = some res → g_PT mG V M s H locs → lv_has ls 1 [] → W p l e R s m args below meth c H locs 0 0 Q (F0 m 47 ls [])) h ?_ (fun J13 hJ13 h => ?_)
    · intro  H locs ls h hp hl
      refine r_iconst C dX9_isAskAhead_47 ?_
      refine r_goto (tgt := 52) C dX9_isAskAhead_48 (by decide) ?_
      cases h
      exact hR _ _ _ _ dX9_isAskAhead_52 g_nz1 hp
    refine lv_aload_n C.1 C.2.1 dX9_isAskAhead_9 rfl (lv_at hl 0 rfl) ?_
    refine r_getr (t := 5) C hp mk_0 ms_0 mc_0 min_0 (j := 15) (by decide) rfl gw_1271 rfl dX9_isAskAhead_10 ?_
    refine lv_aload_n C.1 C.2.1 dX9_isAskAhead_13 rfl (lv_at hl 0 rfl) ?_
    refine r_geti (t := 0) C hp mk_0 ms_0 mc_0 min_0 (j := 16) (by decide) rfl gw_1272 rfl dX9_isAskAhead_14 ?_
    refine r_iconst C dX9_isAskAhead_17 ?_
    refine r_isub C dX9_isAskAhead_18 ?_
    refine r_iald C hp h mk_5 ms_5 dX9_isAskAhead_19 (fun h => ?_)
    refine r_bipush C dX9_isAskAhead_20 (by decide +kernel) ?_
    refine r_icmp_ge (tgt := 47) C h dX9_isAskAhead_22 (by decide) (fun h => ?_) (fun h => ?_)
    · exact hJ13  _ _ _ h hp (lv_sub hl [] rfl)
    · refine lv_aload_n C.1 C.2.1 dX9_isAskAhead_25 rfl (lv_at hl 0 rfl) ?_
      refine r_getr (t := 5) C hp mk_0 ms_0 mc_0 min_0 (j := 15) (by decide) rfl gw_1271 rfl dX9_isAskAhead_26 ?_
      refine lv_aload_n C.1 C.2.1 dX9_isAskAhead_29 rfl (lv_at hl 0 rfl) ?_
      refine r_geti (t := 0) C hp mk_0 ms_0 mc_0 min_0 (j := 16) (by decide) rfl gw_1272 rfl dX9_isAskAhead_30 ?_
      refine r_iconst C dX9_isAskAhead_33 ?_
      refine r_isub C dX9_isAskAhead_34 ?_
      refine r_iald C hp h mk_5 ms_5 dX9_isAskAhead_35 (fun h => ?_)
      obtain ⟨x14, hr, h⟩ := bd_of h
      refine r_callSI (As := [.int (gI (M 5 (gs ((M 0 16) - 1)).toNat))]) (rest := []) C hl.1 hp (c_X9_rank l C.2.2.2.2.2.2.2.2.2.2.2 hr) gw_1528 gw_1529 cal_X9_rank rfl rfl (Nat.le_of_ble_eq_true rfl) ⟨Nat.le_of_ble_eq_true rfl, Nat.le_of_ble_eq_true rfl⟩ dX9_isAskAhead_36 (fun H locs hp => ?_)
      refine r_iconst C dX9_isAskAhead_39 ?_
      refine r_iconst C dX9_isAskAhead_40 ?_
      obtain ⟨x15, hr, h⟩ := bd_of h
      refine r_callSI (As := [.int (gI x14), .int (gI 1), .int (gI 3)]) (rest := []) C hl.1 hp (c_X9_isIn l C.2.2.2.2.2.2.2.2.2.2.2 hr) gw_1378 gw_1379 cal_X9_isIn rfl rfl (Nat.le_of_ble_eq_true rfl) ⟨Nat.le_of_ble_eq_true rfl, Nat.le_of_ble_eq_true rfl⟩ dX9_isAskAhead_41 (fun H locs hp => ?_)
      refine r_if_eq (tgt := 51) C h dX9_isAskAhead_44 (by decide) (fun h => ?_) (fun h => ?_)
      · exact hJ11  _ _ _ h hp (lv_sub hl [] rfl)
      · exact hJ13  _ _ _ h hp (lv_sub hl [] rfl)
theorem c_X9_isAskAhead (l : Launch) {V : g_V} (hok : g_ok mG V)  {M : g_M} {x : Int} (h : m_X9_isAskAhead M = some x) : MetI mG V l yX9_isAskAhead cX9_isAskAhead 1 (some .boolean) 2 41 [.ref (V.2.2 0)] M x M :=
  g_metI hok cal_X9_isAskAhead.2.2.2 rfl (Nat.le_of_ble_eq_true rfl) (@fun p e R s m args below meth c Q ls C hR hp hl => b_X9_isAskAhead C hR h hp hl)
set_option maxRecDepth 100000 in
set_option maxHeartbeats 4000000 in
theorem b_X9_opened (C : g_CX mG V p R s m args meth c cX9_opened 2 (some .int) RX9 2 42) {res : Int × g_M} (hR : g_RetI mG V p l e R s m args below meth c Q cX9_opened .int res.1 res.2) {a1 : Int} {M : g_M} {H : Heap} {locs : List Loc} {ls : Array Slot} (h : m_X9_opened a1 M = some res) (hp : g_PT mG V M s H locs) (hl : lv_has ls 2 [(0, .ref (V.2.2 0)), (1, .int (gI a1))]) : W p l e R s m args below meth c H locs 0 0 Q (F0 m 0 ls []) := by
  unfold m_X9_opened at h
  refine lv_aload_n C.1 C.2.1 dX9_opened_0 rfl (lv_at hl 0 rfl) ?_
  refine r_geti (t := 0) C hp mk_0 ms_0 mc_0 min_0 (j := 17) (by decide) rfl gw_1273 rfl dX9_opened_1 ?_
  refine r_bipush C dX9_opened_4 (by decide +kernel) ?_
  refine r_icmp_ne (tgt := 11) C h dX9_opened_6 (by decide) (fun h => ?_) (fun h => ?_)
  · refine lv_aload_n C.1 C.2.1 dX9_opened_11 rfl (lv_at hl 0 rfl) ?_
    refine lv_dup C.1 C.2.1 dX9_opened_12 rfl ?_
    refine r_geti (t := 0) C hp mk_0 ms_0 mc_0 min_0 (j := 17) (by decide) rfl gw_1273 rfl dX9_opened_13 ?_
    refine r_iconst C dX9_opened_16 ?_
    refine r_iadd C dX9_opened_17 ?_
    refine r_puti C hp h mk_0 ms_0 mc_0 min_0 tyX9 tyX9_ok nmX9 (j := 17) (by decide) rfl gw_1273 rfl rfl rfl dX9_opened_18 (fun M11 H locs h hp => ?_)
    refine lv_aload_n C.1 C.2.1 dX9_opened_21 rfl (lv_at hl 0 rfl) ?_
    refine r_getr (t := 5) C hp mk_0 ms_0 mc_0 min_0 (j := 15) (by decide) rfl gw_1271 rfl dX9_opened_22 ?_
    refine lv_aload_n C.1 C.2.1 dX9_opened_25 rfl (lv_at hl 0 rfl) ?_
    refine r_geti (t := 0) C hp mk_0 ms_0 mc_0 min_0 (j := 16) (by decide) rfl gw_1272 rfl dX9_opened_26 ?_
    refine lv_iload_n C.1 C.2.1 dX9_opened_29 rfl (lv_at hl 1 rfl) ?_
    refine r_iast C hp h mk_5 ms_5 dX9_opened_30 (fun M12 H locs h hp => ?_)
    refine lv_aload_n C.1 C.2.1 dX9_opened_31 rfl (lv_at hl 0 rfl) ?_
    refine lv_dup C.1 C.2.1 dX9_opened_32 rfl ?_
    refine r_geti (t := 0) C hp mk_0 ms_0 mc_0 min_0 (j := 16) (by decide) rfl gw_1272 rfl dX9_opened_33 ?_
    refine r_iconst C dX9_opened_36 ?_
    refine r_iadd C dX9_opened_37 ?_
    refine r_puti C hp h mk_0 ms_0 mc_0 min_0 tyX9 tyX9_ok nmX9 (j := 16) (by decide) rfl gw_1272 rfl rfl rfl dX9_opened_38 (fun M13 H locs h hp => ?_)
    refine lv_aload_n C.1 C.2.1 dX9_opened_41 rfl (lv_at hl 0 rfl) ?_
    obtain ⟨M14, hr, h⟩ := bd_of h
    refine r_callVV (As := []) (rest := []) C hl.1 hp (c_X9_nextToken l C.2.2.2.2.2.2.2.2.2.2.2 hr) gw_1427 gw_1429 gw_50 mk_0 ms_0 mc_0 cal_X9_nextToken rfl rfl (Nat.le_of_ble_eq_true rfl) ⟨Nat.le_of_ble_eq_true rfl, Nat.le_of_ble_eq_true rfl⟩ dX9_opened_42 (fun H locs hp => ?_)
    refine r_iconst C dX9_opened_45 ?_
    cases h
    exact hR _ _ _ _ dX9_opened_46 rfl hp
  · refine r_iconst C dX9_opened_9 ?_
    cases h
    exact hR _ _ _ _ dX9_opened_10 rfl hp
theorem c_X9_opened (l : Launch) {V : g_V} (hok : g_ok mG V) {a1 : Int} {M : g_M} {x : Int} {M2 : g_M} (h : m_X9_opened a1 M = some (x, M2)) : MetI mG V l yX9_opened cX9_opened 2 (some .int) 2 42 [.ref (V.2.2 0), .int (gI a1)] M x M2 :=
  g_metI hok cal_X9_opened.2.2.2 rfl (Nat.le_of_ble_eq_true rfl) (@fun p e R s m args below meth c Q ls C hR hp hl => b_X9_opened C hR h hp hl)
set_option maxRecDepth 100000 in
set_option maxHeartbeats 4000000 in
theorem b_X9_beginOne (C : g_CX mG V p R s m args meth c cX9_beginOne 2 (some .int) RX9 5 110) {res : Int × g_M} (hR : g_RetI mG V p l e R s m args below meth c Q cX9_beginOne .int res.1 res.2)  {M : g_M} {H : Heap} {locs : List Loc} {ls : Array Slot} (h : m_X9_beginOne M = some res) (hp : g_PT mG V M s H locs) (hl : lv_has ls 2 [(0, .ref (V.2.2 0))]) : W p l e R s m args below meth c H locs 0 0 Q (F0 m 0 ls []) := by
  unfold m_X9_beginOne at h
  refine r_jn (P := fun J => ∀  (H : Heap) (locs : List Loc) (ls : Array Slot), J  = some res → g_PT mG V M s H locs → lv_has ls 2 [(0, .ref (V.2.2 0))] → W p l e R s m args below meth c H locs 0 0 Q (F0 m 20 ls [])) h ?_ (fun J11 hJ11 h => ?_)
  · intro  H locs ls h hp hl
    refine r_jn (P := fun J => ∀ (x16 : Int) (H : Heap) (locs : List Loc) (ls : Array Slot), J x16 = some res → g_PT mG V M s H locs → lv_has ls 2 [(0, .ref (V.2.2 0)), (1, .int (gI x16))] → W p l e R s m args below meth c H locs 0 0 Q (F0 m 39 ls [])) h ?_ (fun J12 hJ12 h => ?_)
    · intro x16 H locs ls h hp hl
      refine r_jn (P := fun J => ∀  (H : Heap) (locs : List Loc) (ls : Array Slot), J  = some res → g_PT mG V M s H locs → lv_has ls 2 [(0, .ref (V.2.2 0)), (1, .int (gI x16))] → W p l e R s m args below meth c H locs 0 0 Q (F0 m 51 ls [])) h ?_ (fun J17 hJ17 h => ?_)
      · intro  H locs ls h hp hl
        refine r_jn (P := fun J => ∀ (x37 : Int) (H : Heap) (locs : List Loc) (ls : Array Slot), J x37 = some res → g_PT mG V M s H locs → lv_has ls 2 [(0, .ref (V.2.2 0)), (1, .int (gI x16))] → W p l e R s m args below meth c H locs 0 0 Q (F0 m 65 ls [.int (gI x37), .ref (V.2.2 0)])) h ?_ (fun J36 hJ36 h => ?_)
        · intro x37 H locs ls h hp hl
          refine r_jn (P := fun J => ∀ (x39 : Int) (x40 : Int) (H : Heap) (locs : List Loc) (ls : Array Slot), J x39 x40 = some res → g_PT mG V M s H locs → lv_has ls 2 [(0, .ref (V.2.2 0))] → W p l e R s m args below meth c H locs 0 0 Q (F0 m 81 ls [.int (gI x39), .int (gI x40), .ref (V.2.2 0)])) h ?_ (fun J38 hJ38 h => ?_)
          · intro x39 x40 H locs ls h hp hl
            obtain ⟨M41, hr, h⟩ := bd_of h
            refine r_callVV (As := [.int (gI x40), .int (gI x39)]) (rest := []) C hl.1 hp (c_X9_emit l C.2.2.2.2.2.2.2.2.2.2.2 hr) gw_1539 gw_1541 gw_70 mk_0 ms_0 mc_0 cal_X9_emit rfl rfl (Nat.le_of_ble_eq_true rfl) ⟨Nat.le_of_ble_eq_true rfl, Nat.le_of_ble_eq_true rfl⟩ dX9_beginOne_81 (fun H locs hp => ?_)
            refine lv_aload_n C.1 C.2.1 dX9_beginOne_84 rfl (lv_at hl 0 rfl) ?_
            obtain ⟨M42, hr, h⟩ := bd_of h
            refine r_callVV (As := []) (rest := []) C hl.1 hp (c_X9_nextToken l C.2.2.2.2.2.2.2.2.2.2.2 hr) gw_1427 gw_1429 gw_50 mk_0 ms_0 mc_0 cal_X9_nextToken rfl rfl (Nat.le_of_ble_eq_true rfl) ⟨Nat.le_of_ble_eq_true rfl, Nat.le_of_ble_eq_true rfl⟩ dX9_beginOne_85 (fun H locs hp => ?_)
            refine lv_aload_n C.1 C.2.1 dX9_beginOne_88 rfl (lv_at hl 0 rfl) ?_
            refine r_iconst C dX9_beginOne_89 ?_
            refine r_putz C hp h mk_0 ms_0 mc_0 min_0 tyX9 tyX9_ok nmX9 (j := 18) (by decide) rfl gw_1274 rfl rfl rfl dX9_beginOne_90 (fun M43 H locs h hp => ?_)
            refine lv_aload_n C.1 C.2.1 dX9_beginOne_93 rfl (lv_at hl 0 rfl) ?_
            refine r_bipush C dX9_beginOne_94 (by decide +kernel) ?_
            obtain ⟨M44, hr, h⟩ := bd_of h
            refine r_callVV (As := [.int (gI 7)]) (rest := []) C hl.1 hp (c_X9_settle l C.2.2.2.2.2.2.2.2.2.2.2 hr) gw_1535 gw_1537 gw_69 mk_0 ms_0 mc_0 cal_X9_settle rfl rfl (Nat.le_of_ble_eq_true rfl) ⟨Nat.le_of_ble_eq_true rfl, Nat.le_of_ble_eq_true rfl⟩ dX9_beginOne_96 (fun H locs hp => ?_)
            refine r_iconst C dX9_beginOne_99 ?_
            cases h
            exact hR _ _ _ _ dX9_beginOne_100 rfl hp
          refine lv_aload_n C.1 C.2.1 dX9_beginOne_65 rfl (lv_at hl 0 rfl) ?_
          refine r_geti (t := 0) C hp mk_0 ms_0 mc_0 min_0 (j := 9) (by decide) rfl gw_1265 rfl dX9_beginOne_66 ?_
          refine r_iconst C dX9_beginOne_69 ?_
          refine r_icmp_ne (tgt := 80) C h dX9_beginOne_70 (by decide) (fun h => ?_) (fun h => ?_)
          · refine lv_iload_n C.1 C.2.1 dX9_beginOne_80 rfl (lv_at hl 1 rfl) ?_
            exact hJ38 _ _ _ _ _ h hp (lv_sub hl [0] rfl)
          · refine lv_aload_n C.1 C.2.1 dX9_beginOne_73 rfl (lv_at hl 0 rfl) ?_
            refine r_geti (t := 0) C hp mk_0 ms_0 mc_0 min_0 (j := 10) (by decide) rfl gw_1266 rfl dX9_beginOne_74 ?_
            refine r_goto (tgt := 81) C dX9_beginOne_77 (by decide) ?_
            exact hJ38 _ _ _ _ _ h hp (lv_sub hl [0] rfl)
        refine lv_aload_n C.1 C.2.1 dX9_beginOne_51 rfl (lv_at hl 0 rfl) ?_
        refine lv_aload_n C.1 C.2.1 dX9_beginOne_52 rfl (lv_at hl 0 rfl) ?_
        refine r_geti (t := 0) C hp mk_0 ms_0 mc_0 min_0 (j := 9) (by decide) rfl gw_1265 rfl dX9_beginOne_53 ?_
        refine r_iconst C dX9_beginOne_56 ?_
        refine r_icmp_ne (tgt := 64) C h dX9_beginOne_57 (by decide) (fun h => ?_) (fun h => ?_)
        · refine r_iconst C dX9_beginOne_64 ?_
          exact hJ36 _ _ _ _ h hp hl
        · refine r_iconst C dX9_beginOne_60 ?_
          refine r_goto (tgt := 65) C dX9_beginOne_61 (by decide) ?_
          exact hJ36 _ _ _ _ h hp hl
      refine lv_aload_n C.1 C.2.1 dX9_beginOne_39 rfl (lv_at hl 0 rfl) ?_
      refine r_geti (t := 0) C hp mk_0 ms_0 mc_0 min_0 (j := 9) (by decide) rfl gw_1265 rfl dX9_beginOne_40 ?_
      refine r_iconst C dX9_beginOne_43 ?_
      refine r_icmp_eq (tgt := 51) C h dX9_beginOne_44 (by decide) (fun h => ?_) (fun h => ?_)
      · exact hJ17  _ _ _ h hp hl
      · refine lv_iload_n C.1 C.2.1 dX9_beginOne_47 rfl (lv_at hl 1 rfl) ?_
        refine r_if_lt (tgt := 101) C h dX9_beginOne_48 (by decide) (fun h => ?_) (fun h => ?_)
        · refine lv_aload_n C.1 C.2.1 dX9_beginOne_101 rfl (lv_at hl 0 rfl) ?_
          refine r_geti (t := 0) C hp mk_0 ms_0 mc_0 min_0 (j := 9) (by decide) rfl gw_1265 rfl dX9_beginOne_102 ?_
          refine r_bipush C dX9_beginOne_105 (by decide +kernel) ?_
          refine r_icmp_ne (tgt := 117) C h dX9_beginOne_107 (by decide) (fun h => ?_) (fun h => ?_)
          · refine lv_aload_n C.1 C.2.1 dX9_beginOne_117 rfl (lv_at hl 0 rfl) ?_
            refine r_geti (t := 0) C hp mk_0 ms_0 mc_0 min_0 (j := 9) (by decide) rfl gw_1265 rfl dX9_beginOne_118 ?_
            refine r_bipush C dX9_beginOne_121 (by decide +kernel) ?_
            refine r_icmp_ne (tgt := 132) C h dX9_beginOne_123 (by decide) (fun h => ?_) (fun h => ?_)
            · refine lv_aload_n C.1 C.2.1 dX9_beginOne_132 rfl (lv_at hl 0 rfl) ?_
              refine r_bipush C dX9_beginOne_133 (by decide +kernel) ?_
              refine r_bipush C dX9_beginOne_135 (by decide +kernel) ?_
              refine r_bipush C dX9_beginOne_137 (by decide +kernel) ?_
              refine r_bipush C dX9_beginOne_139 (by decide +kernel) ?_
              refine r_bipush C dX9_beginOne_141 (by decide +kernel) ?_
              obtain ⟨x18, hr, h⟩ := bd_of h
              refine r_callSL (As := [.int (gI 107), .int (gI 105), .int (gI 110), .int (gI 100), .int (gI 115)]) (rest := [.ref (V.2.2 0)]) C hl.1 hp (c_X9_w5 l C.2.2.2.2.2.2.2.2.2.2.2 hr) gw_1467 gw_1468 cal_X9_w5 rfl rfl (Nat.le_of_ble_eq_true rfl) ⟨Nat.le_of_ble_eq_true rfl, Nat.le_of_ble_eq_true rfl⟩ dX9_beginOne_143 (fun H locs hp => ?_)
              obtain ⟨x19, hr, h⟩ := bd_of h
              refine r_callVI (As := [.long (gJ x18)]) (rest := []) C hl.1 hp (c_X9_isWord l C.2.2.2.2.2.2.2.2.2.2.2 hr) gw_1463 gw_1465 gw_54 mk_0 ms_0 mc_0 cal_X9_isWord rfl rfl (Nat.le_of_ble_eq_true rfl) ⟨Nat.le_of_ble_eq_true rfl, Nat.le_of_ble_eq_true rfl⟩ dX9_beginOne_146 (fun H locs hp => ?_)
              refine r_if_eq (tgt := 158) C h dX9_beginOne_149 (by decide) (fun h => ?_) (fun h => ?_)
              · refine lv_aload_n C.1 C.2.1 dX9_beginOne_158 rfl (lv_at hl 0 rfl) ?_
                refine r_bipush C dX9_beginOne_159 (by decide +kernel) ?_
                refine r_bipush C dX9_beginOne_161 (by decide +kernel) ?_
                obtain ⟨x20, hr, h⟩ := bd_of h
                refine r_callSL (As := [.int (gI 105), .int (gI 102)]) (rest := [.ref (V.2.2 0)]) C hl.1 hp (c_X9_w2 l C.2.2.2.2.2.2.2.2.2.2.2 hr) gw_1460 gw_1461 cal_X9_w2 rfl rfl (Nat.le_of_ble_eq_true rfl) ⟨Nat.le_of_ble_eq_true rfl, Nat.le_of_ble_eq_true rfl⟩ dX9_beginOne_163 (fun H locs hp => ?_)
                obtain ⟨x21, hr, h⟩ := bd_of h
                refine r_callVI (As := [.long (gJ x20)]) (rest := []) C hl.1 hp (c_X9_isWord l C.2.2.2.2.2.2.2.2.2.2.2 hr) gw_1463 gw_1465 gw_54 mk_0 ms_0 mc_0 cal_X9_isWord rfl rfl (Nat.le_of_ble_eq_true rfl) ⟨Nat.le_of_ble_eq_true rfl, Nat.le_of_ble_eq_true rfl⟩ dX9_beginOne_166 (fun H locs hp => ?_)
                refine r_if_eq (tgt := 179) C h dX9_beginOne_169 (by decide) (fun h => ?_) (fun h => ?_)
                · refine r_jn (P := fun J => ∀  (H : Heap) (locs : List Loc) (ls : Array Slot), J  = some res → g_PT mG V M s H locs → lv_has ls 2 [] → W p l e R s m args below meth c H locs 0 0 Q (F0 m 211 ls [])) h ?_ (fun J22 hJ22 h => ?_)
                  · intro  H locs ls h hp hl
                    refine r_iconst C dX9_beginOne_211 ?_
                    cases h
                    exact hR _ _ _ _ dX9_beginOne_212 rfl hp
                  refine lv_aload_n C.1 C.2.1 dX9_beginOne_179 rfl (lv_at hl 0 rfl) ?_
                  refine r_bipush C dX9_beginOne_180 (by decide +kernel) ?_
                  refine r_bipush C dX9_beginOne_182 (by decide +kernel) ?_
                  refine r_bipush C dX9_beginOne_184 (by decide +kernel) ?_
                  obtain ⟨x23, hr, h⟩ := bd_of h
                  refine r_callSL (As := [.int (gI 110), .int (gI 111), .int (gI 116)]) (rest := [.ref (V.2.2 0)]) C hl.1 hp (c_X9_w3 l C.2.2.2.2.2.2.2.2.2.2.2 hr) gw_1457 gw_1458 cal_X9_w3 rfl rfl (Nat.le_of_ble_eq_true rfl) ⟨Nat.le_of_ble_eq_true rfl, Nat.le_of_ble_eq_true rfl⟩ dX9_beginOne_186 (fun H locs hp => ?_)
                  obtain ⟨x24, hr, h⟩ := bd_of h
                  refine r_callVI (As := [.long (gJ x23)]) (rest := []) C hl.1 hp (c_X9_isWord l C.2.2.2.2.2.2.2.2.2.2.2 hr) gw_1463 gw_1465 gw_54 mk_0 ms_0 mc_0 cal_X9_isWord rfl rfl (Nat.le_of_ble_eq_true rfl) ⟨Nat.le_of_ble_eq_true rfl, Nat.le_of_ble_eq_true rfl⟩ dX9_beginOne_189 (fun H locs hp => ?_)
                  refine r_if_eq (tgt := 211) C h dX9_beginOne_192 (by decide) (fun h => ?_) (fun h => ?_)
                  · exact hJ22  _ _ _ h hp (lv_sub hl [] rfl)
                  · refine lv_aload_n C.1 C.2.1 dX9_beginOne_195 rfl (lv_at hl 0 rfl) ?_
                    obtain ⟨x25, hr, h⟩ := bd_of h
                    refine r_callVI (As := []) (rest := []) C hl.1 hp (c_X9_isAskAhead l C.2.2.2.2.2.2.2.2.2.2.2 hr) gw_1563 gw_1565 gw_76 mk_0 ms_0 mc_0 cal_X9_isAskAhead rfl rfl (Nat.le_of_ble_eq_true rfl) ⟨Nat.le_of_ble_eq_true rfl, Nat.le_of_ble_eq_true rfl⟩ dX9_beginOne_196 (fun H locs hp => ?_)
                    refine r_if_eq (tgt := 211) C h dX9_beginOne_199 (by decide) (fun h => ?_) (fun h => ?_)
                    · exact hJ22  _ _ _ h hp (lv_sub hl [] rfl)
                    · refine lv_aload_n C.1 C.2.1 dX9_beginOne_202 rfl (lv_at hl 0 rfl) ?_
                      refine r_bipush C dX9_beginOne_203 (by decide +kernel) ?_
                      obtain ⟨x26, M27, hr, h⟩ := bW_of h
                      refine r_callVI (As := [.int (gI 20)]) (rest := []) C hl.1 hp (c_X9_opened l C.2.2.2.2.2.2.2.2.2.2.2 hr) gw_1559 gw_1561 gw_75 mk_0 ms_0 mc_0 cal_X9_opened rfl rfl (Nat.le_of_ble_eq_true rfl) ⟨Nat.le_of_ble_eq_true rfl, Nat.le_of_ble_eq_true rfl⟩ dX9_beginOne_205 (fun H locs hp => ?_)
                      refine r_goto (tgt := 212) C dX9_beginOne_208 (by decide) ?_
                      cases h
                      exact hR _ _ _ _ dX9_beginOne_212 rfl hp
                · refine lv_aload_n C.1 C.2.1 dX9_beginOne_172 rfl (lv_at hl 0 rfl) ?_
                  refine r_bipush C dX9_beginOne_173 (by decide +kernel) ?_
                  obtain ⟨x28, M29, hr, h⟩ := bW_of h
                  refine r_callVI (As := [.int (gI 41)]) (rest := []) C hl.1 hp (c_X9_opened l C.2.2.2.2.2.2.2.2.2.2.2 hr) gw_1559 gw_1561 gw_75 mk_0 ms_0 mc_0 cal_X9_opened rfl rfl (Nat.le_of_ble_eq_true rfl) ⟨Nat.le_of_ble_eq_true rfl, Nat.le_of_ble_eq_true rfl⟩ dX9_beginOne_175 (fun H locs hp => ?_)
                  cases h
                  exact hR _ _ _ _ dX9_beginOne_178 rfl hp
              · refine lv_aload_n C.1 C.2.1 dX9_beginOne_152 rfl (lv_at hl 0 rfl) ?_
                refine r_iconst C dX9_beginOne_153 ?_
                obtain ⟨x30, M31, hr, h⟩ := bW_of h
                refine r_callVI (As := [.int (gI 2)]) (rest := []) C hl.1 hp (c_X9_opened l C.2.2.2.2.2.2.2.2.2.2.2 hr) gw_1559 gw_1561 gw_75 mk_0 ms_0 mc_0 cal_X9_opened rfl rfl (Nat.le_of_ble_eq_true rfl) ⟨Nat.le_of_ble_eq_true rfl, Nat.le_of_ble_eq_true rfl⟩ dX9_beginOne_154 (fun H locs hp => ?_)
                cases h
                exact hR _ _ _ _ dX9_beginOne_157 rfl hp
            · refine lv_aload_n C.1 C.2.1 dX9_beginOne_126 rfl (lv_at hl 0 rfl) ?_
              refine r_iconst C dX9_beginOne_127 ?_
              obtain ⟨x32, M33, hr, h⟩ := bW_of h
              refine r_callVI (As := [.int (gI 4)]) (rest := []) C hl.1 hp (c_X9_opened l C.2.2.2.2.2.2.2.2.2.2.2 hr) gw_1559 gw_1561 gw_75 mk_0 ms_0 mc_0 cal_X9_opened rfl rfl (Nat.le_of_ble_eq_true rfl) ⟨Nat.le_of_ble_eq_true rfl, Nat.le_of_ble_eq_true rfl⟩ dX9_beginOne_128 (fun H locs hp => ?_)
              cases h
              exact hR _ _ _ _ dX9_beginOne_131 rfl hp
          · refine lv_aload_n C.1 C.2.1 dX9_beginOne_110 rfl (lv_at hl 0 rfl) ?_
            refine r_bipush C dX9_beginOne_111 (by decide +kernel) ?_
            obtain ⟨x34, M35, hr, h⟩ := bW_of h
            refine r_callVI (As := [.int (gI 40)]) (rest := []) C hl.1 hp (c_X9_opened l C.2.2.2.2.2.2.2.2.2.2.2 hr) gw_1559 gw_1561 gw_75 mk_0 ms_0 mc_0 cal_X9_opened rfl rfl (Nat.le_of_ble_eq_true rfl) ⟨Nat.le_of_ble_eq_true rfl, Nat.le_of_ble_eq_true rfl⟩ dX9_beginOne_113 (fun H locs hp => ?_)
            cases h
            exact hR _ _ _ _ dX9_beginOne_116 rfl hp
        · exact hJ17  _ _ _ h hp hl
    refine lv_aload_n C.1 C.2.1 dX9_beginOne_20 rfl (lv_at hl 0 rfl) ?_
    obtain ⟨x13, hr, h⟩ := bd_of h
    refine r_callVI (As := []) (rest := []) C hl.1 hp (c_X9_nameOf l C.2.2.2.2.2.2.2.2.2.2.2 hr) gw_1551 gw_1553 gw_73 mk_0 ms_0 mc_0 cal_X9_nameOf rfl rfl (Nat.le_of_ble_eq_true rfl) ⟨Nat.le_of_ble_eq_true rfl, Nat.le_of_ble_eq_true rfl⟩ dX9_beginOne_21 (fun H locs hp => ?_)
    refine r_istore_n (lv' := fun x14 => [(1, .int (gI x14)), (0, .ref (V.2.2 0))]) C h dX9_beginOne_24 rfl hl (by decide) (fun _ => rfl) (fun x14 ls h hl => ?_)
    refine lv_iload_n C.1 C.2.1 dX9_beginOne_25 rfl (lv_at hl 0 rfl) ?_
    refine r_if_lt (tgt := 39) C h dX9_beginOne_26 (by decide) (fun h => ?_) (fun h => ?_)
    · exact hJ12 _ _ _ _ h hp (lv_sub hl [1, 0] rfl)
    · refine lv_aload_n C.1 C.2.1 dX9_beginOne_29 rfl (lv_at hl 1 rfl) ?_
      refine lv_iload_n C.1 C.2.1 dX9_beginOne_30 rfl (lv_at hl 0 rfl) ?_
      obtain ⟨x15, hr, h⟩ := bd_of h
      refine r_callVI (As := [.int (gI x14)]) (rest := []) C hl.1 hp (c_X9_isOf l C.2.2.2.2.2.2.2.2.2.2.2 hr) gw_1555 gw_1557 gw_74 mk_0 ms_0 mc_0 cal_X9_isOf rfl rfl (Nat.le_of_ble_eq_true rfl) ⟨Nat.le_of_ble_eq_true rfl, Nat.le_of_ble_eq_true rfl⟩ dX9_beginOne_31 (fun H locs hp => ?_)
      refine r_if_ne (tgt := 39) C h dX9_beginOne_34 (by decide) (fun h => ?_) (fun h => ?_)
      · exact hJ12 _ _ _ _ h hp (lv_sub hl [1, 0] rfl)
      · refine r_iconst C dX9_beginOne_37 ?_
        cases h
        exact hR _ _ _ _ dX9_beginOne_38 rfl hp
  refine lv_aload_n C.1 C.2.1 dX9_beginOne_0 rfl (lv_at hl 0 rfl) ?_
  refine r_geti (t := 0) C hp mk_0 ms_0 mc_0 min_0 (j := 9) (by decide) rfl gw_1265 rfl dX9_beginOne_1 ?_
  refine r_iconst C dX9_beginOne_4 ?_
  refine r_icmp_ne (tgt := 20) C h dX9_beginOne_5 (by decide) (fun h => ?_) (fun h => ?_)
  · exact hJ11  _ _ _ h hp hl
  · refine lv_aload_n C.1 C.2.1 dX9_beginOne_8 rfl (lv_at hl 0 rfl) ?_
    refine r_geti (t := 0) C hp mk_0 ms_0 mc_0 min_0 (j := 10) (by decide) rfl gw_1266 rfl dX9_beginOne_9 ?_
    refine r_sipush C dX9_beginOne_12 (by decide +kernel) ?_
    refine r_icmp_le (tgt := 20) C h dX9_beginOne_15 (by decide) (fun h => ?_) (fun h => ?_)
    · exact hJ11  _ _ _ h hp hl
    · refine r_iconst C dX9_beginOne_18 ?_
      cases h
      exact hR _ _ _ _ dX9_beginOne_19 rfl hp
theorem c_X9_beginOne (l : Launch) {V : g_V} (hok : g_ok mG V)  {M : g_M} {x : Int} {M2 : g_M} (h : m_X9_beginOne M = some (x, M2)) : MetI mG V l yX9_beginOne cX9_beginOne 2 (some .int) 5 110 [.ref (V.2.2 0)] M x M2 :=
  g_metI hok cal_X9_beginOne.2.2.2 rfl (Nat.le_of_ble_eq_true rfl) (@fun p e R s m args below meth c Q ls C hR hp hl => b_X9_beginOne C hR h hp hl)
set_option maxRecDepth 100000 in
set_option maxHeartbeats 4000000 in
theorem b_X9_compareOf (C : g_CX mG V p R s m args meth c cX9_compareOf 1 (some .int) RX9 0 0) {res : Int} {M : g_M} (hR : g_RetI mG V p l e R s m args below meth c Q cX9_compareOf .int res M)  {H : Heap} {locs : List Loc} {ls : Array Slot} (h : m_X9_compareOf M = some res) (hp : g_PT mG V M s H locs) (hl : lv_has ls 1 [(0, .ref (V.2.2 0))]) : W p l e R s m args below meth c H locs 0 0 Q (F0 m 0 ls []) := by
  unfold m_X9_compareOf at h
  refine lv_aload_n C.1 C.2.1 dX9_compareOf_0 rfl (lv_at hl 0 rfl) ?_
  refine r_geti (t := 0) C hp mk_0 ms_0 mc_0 min_0 (j := 9) (by decide) rfl gw_1265 rfl dX9_compareOf_1 ?_
  refine r_bipush C dX9_compareOf_4 (by decide +kernel) ?_
  refine r_icmp_ne (tgt := 14) C h dX9_compareOf_6 (by decide) (fun h => ?_) (fun h => ?_)
  · refine lv_aload_n C.1 C.2.1 dX9_compareOf_14 rfl (lv_at hl 0 rfl) ?_
    refine r_geti (t := 0) C hp mk_0 ms_0 mc_0 min_0 (j := 9) (by decide) rfl gw_1265 rfl dX9_compareOf_15 ?_
    refine r_iconst C dX9_compareOf_18 ?_
    refine r_icmp_ne (tgt := 27) C h dX9_compareOf_19 (by decide) (fun h => ?_) (fun h => ?_)
    · refine lv_aload_n C.1 C.2.1 dX9_compareOf_27 rfl (lv_at hl 0 rfl) ?_
      refine r_geti (t := 0) C hp mk_0 ms_0 mc_0 min_0 (j := 9) (by decide) rfl gw_1265 rfl dX9_compareOf_28 ?_
      refine r_bipush C dX9_compareOf_31 (by decide +kernel) ?_
      refine r_icmp_ne (tgt := 41) C h dX9_compareOf_33 (by decide) (fun h => ?_) (fun h => ?_)
      · refine lv_aload_n C.1 C.2.1 dX9_compareOf_41 rfl (lv_at hl 0 rfl) ?_
        refine r_geti (t := 0) C hp mk_0 ms_0 mc_0 min_0 (j := 9) (by decide) rfl gw_1265 rfl dX9_compareOf_42 ?_
        refine r_iconst C dX9_compareOf_45 ?_
        refine r_icmp_ne (tgt := 54) C h dX9_compareOf_46 (by decide) (fun h => ?_) (fun h => ?_)
        · refine lv_aload_n C.1 C.2.1 dX9_compareOf_54 rfl (lv_at hl 0 rfl) ?_
          refine r_geti (t := 0) C hp mk_0 ms_0 mc_0 min_0 (j := 9) (by decide) rfl gw_1265 rfl dX9_compareOf_55 ?_
          refine r_bipush C dX9_compareOf_58 (by decide +kernel) ?_
          refine r_icmp_ne (tgt := 68) C h dX9_compareOf_60 (by decide) (fun h => ?_) (fun h => ?_)
          · refine lv_aload_n C.1 C.2.1 dX9_compareOf_68 rfl (lv_at hl 0 rfl) ?_
            refine r_geti (t := 0) C hp mk_0 ms_0 mc_0 min_0 (j := 9) (by decide) rfl gw_1265 rfl dX9_compareOf_69 ?_
            refine r_bipush C dX9_compareOf_72 (by decide +kernel) ?_
            refine r_icmp_ne (tgt := 82) C h dX9_compareOf_74 (by decide) (fun h => ?_) (fun h => ?_)
            · refine r_iconst C dX9_compareOf_82 ?_
              cases h
              exact hR _ _ _ _ dX9_compareOf_83 rfl hp
            · refine r_bipush C dX9_compareOf_77 (by decide +kernel) ?_
              refine r_goto (tgt := 83) C dX9_compareOf_79 (by decide) ?_
              cases h
              exact hR _ _ _ _ dX9_compareOf_83 rfl hp
          · refine r_bipush C dX9_compareOf_63 (by decide +kernel) ?_
            refine r_goto (tgt := 83) C dX9_compareOf_65 (by decide) ?_
            cases h
            exact hR _ _ _ _ dX9_compareOf_83 rfl hp
        · refine r_bipush C dX9_compareOf_49 (by decide +kernel) ?_
          refine r_goto (tgt := 83) C dX9_compareOf_51 (by decide) ?_
          cases h
          exact hR _ _ _ _ dX9_compareOf_83 rfl hp
      · refine r_bipush C dX9_compareOf_36 (by decide +kernel) ?_
        refine r_goto (tgt := 83) C dX9_compareOf_38 (by decide) ?_
        cases h
        exact hR _ _ _ _ dX9_compareOf_83 rfl hp
    · refine r_bipush C dX9_compareOf_22 (by decide +kernel) ?_
      refine r_goto (tgt := 83) C dX9_compareOf_24 (by decide) ?_
      cases h
      exact hR _ _ _ _ dX9_compareOf_83 rfl hp
  · refine r_bipush C dX9_compareOf_9 (by decide +kernel) ?_
    refine r_goto (tgt := 83) C dX9_compareOf_11 (by decide) ?_
    cases h
    exact hR _ _ _ _ dX9_compareOf_83 rfl hp
theorem c_X9_compareOf (l : Launch) {V : g_V} (hok : g_ok mG V)  {M : g_M} {x : Int} (h : m_X9_compareOf M = some x) : MetI mG V l yX9_compareOf cX9_compareOf 1 (some .int) 0 0 [.ref (V.2.2 0)] M x M :=
  g_metI hok cal_X9_compareOf.2.2.2 rfl (Nat.le_of_ble_eq_true rfl) (@fun p e R s m args below meth c Q ls C hR hp hl => b_X9_compareOf C hR h hp hl)
set_option maxRecDepth 100000 in
set_option maxHeartbeats 4000000 in
theorem b_X9_betweenOf (C : g_CX mG V p R s m args meth c cX9_betweenOf 1 (some .int) RX9 2 43) {res : Int} {M : g_M} (hR : g_RetI mG V p l e R s m args below meth c Q cX9_betweenOf .int res M)  {H : Heap} {locs : List Loc} {ls : Array Slot} (h : m_X9_betweenOf M = some res) (hp : g_PT mG V M s H locs) (hl : lv_has ls 1 [(0, .ref (V.2.2 0))]) : W p l e R s m args below meth c H locs 0 0 Q (F0 m 0 ls []) := by
  unfold m_X9_betweenOf at h
  refine lv_aload_n C.1 C.2.1 dX9_betweenOf_0 rfl (lv_at hl 0 rfl) ?_
  refine r_geti (t := 0) C hp mk_0 ms_0 mc_0 min_0 (j := 9) (by decide) rfl gw_1265 rfl dX9_betweenOf_1 ?_
  refine r_bipush C dX9_betweenOf_4 (by decide +kernel) ?_
  refine r_icmp_ne (tgt := 11) C h dX9_betweenOf_6 (by decide) (fun h => ?_) (fun h => ?_)
  · refine lv_aload_n C.1 C.2.1 dX9_betweenOf_11 rfl (lv_at hl 0 rfl) ?_
    refine r_geti (t := 0) C hp mk_0 ms_0 mc_0 min_0 (j := 9) (by decide) rfl gw_1265 rfl dX9_betweenOf_12 ?_
    refine r_bipush C dX9_betweenOf_15 (by decide +kernel) ?_
    refine r_icmp_ne (tgt := 23) C h dX9_betweenOf_17 (by decide) (fun h => ?_) (fun h => ?_)
    · refine lv_aload_n C.1 C.2.1 dX9_betweenOf_23 rfl (lv_at hl 0 rfl) ?_
      refine r_geti (t := 0) C hp mk_0 ms_0 mc_0 min_0 (j := 9) (by decide) rfl gw_1265 rfl dX9_betweenOf_24 ?_
      refine r_bipush C dX9_betweenOf_27 (by decide +kernel) ?_
      refine r_icmp_ne (tgt := 35) C h dX9_betweenOf_29 (by decide) (fun h => ?_) (fun h => ?_)
      · refine lv_aload_n C.1 C.2.1 dX9_betweenOf_35 rfl (lv_at hl 0 rfl) ?_
        refine r_geti (t := 0) C hp mk_0 ms_0 mc_0 min_0 (j := 9) (by decide) rfl gw_1265 rfl dX9_betweenOf_36 ?_
        refine r_bipush C dX9_betweenOf_39 (by decide +kernel) ?_
        refine r_icmp_ne (tgt := 47) C h dX9_betweenOf_41 (by decide) (fun h => ?_) (fun h => ?_)
        · refine lv_aload_n C.1 C.2.1 dX9_betweenOf_47 rfl (lv_at hl 0 rfl) ?_
          refine r_geti (t := 0) C hp mk_0 ms_0 mc_0 min_0 (j := 9) (by decide) rfl gw_1265 rfl dX9_betweenOf_48 ?_
          refine r_bipush C dX9_betweenOf_51 (by decide +kernel) ?_
          refine r_icmp_ne (tgt := 59) C h dX9_betweenOf_53 (by decide) (fun h => ?_) (fun h => ?_)
          · refine lv_aload_n C.1 C.2.1 dX9_betweenOf_59 rfl (lv_at hl 0 rfl) ?_
            obtain ⟨x11, hr, h⟩ := bd_of h
            refine r_callVI (As := []) (rest := []) C hl.1 hp (c_X9_openNow l C.2.2.2.2.2.2.2.2.2.2.2 hr) gw_1516 gw_1518 gw_65 mk_0 ms_0 mc_0 cal_X9_openNow rfl rfl (Nat.le_of_ble_eq_true rfl) ⟨Nat.le_of_ble_eq_true rfl, Nat.le_of_ble_eq_true rfl⟩ dX9_betweenOf_60 (fun H locs hp => ?_)
            refine r_bipush C dX9_betweenOf_63 (by decide +kernel) ?_
            refine r_icmp_eq (tgt := 70) C h dX9_betweenOf_65 (by decide) (fun h => ?_) (fun h => ?_)
            · refine lv_aload_n C.1 C.2.1 dX9_betweenOf_70 rfl (lv_at hl 0 rfl) ?_
              obtain ⟨x12, hr, h⟩ := bd_of h
              refine r_callVI (As := []) (rest := []) C hl.1 hp (c_X9_isCompared l C.2.2.2.2.2.2.2.2.2.2.2 hr) gw_1524 gw_1526 gw_67 mk_0 ms_0 mc_0 cal_X9_isCompared rfl rfl (Nat.le_of_ble_eq_true rfl) ⟨Nat.le_of_ble_eq_true rfl, Nat.le_of_ble_eq_true rfl⟩ dX9_betweenOf_71 (fun H locs hp => ?_)
              refine r_if_ne (tgt := 82) C h dX9_betweenOf_74 (by decide) (fun h => ?_) (fun h => ?_)
              · refine lv_aload_n C.1 C.2.1 dX9_betweenOf_82 rfl (lv_at hl 0 rfl) ?_
                refine r_bipush C dX9_betweenOf_83 (by decide +kernel) ?_
                refine r_bipush C dX9_betweenOf_85 (by decide +kernel) ?_
                refine r_bipush C dX9_betweenOf_87 (by decide +kernel) ?_
                obtain ⟨x13, hr, h⟩ := bd_of h
                refine r_callSL (As := [.int (gI 97), .int (gI 110), .int (gI 100)]) (rest := [.ref (V.2.2 0)]) C hl.1 hp (c_X9_w3 l C.2.2.2.2.2.2.2.2.2.2.2 hr) gw_1457 gw_1458 cal_X9_w3 rfl rfl (Nat.le_of_ble_eq_true rfl) ⟨Nat.le_of_ble_eq_true rfl, Nat.le_of_ble_eq_true rfl⟩ dX9_betweenOf_89 (fun H locs hp => ?_)
                obtain ⟨x14, hr, h⟩ := bd_of h
                refine r_callVI (As := [.long (gJ x13)]) (rest := []) C hl.1 hp (c_X9_isWord l C.2.2.2.2.2.2.2.2.2.2.2 hr) gw_1463 gw_1465 gw_54 mk_0 ms_0 mc_0 cal_X9_isWord rfl rfl (Nat.le_of_ble_eq_true rfl) ⟨Nat.le_of_ble_eq_true rfl, Nat.le_of_ble_eq_true rfl⟩ dX9_betweenOf_92 (fun H locs hp => ?_)
                refine r_if_eq (tgt := 103) C h dX9_betweenOf_95 (by decide) (fun h => ?_) (fun h => ?_)
                · refine lv_aload_n C.1 C.2.1 dX9_betweenOf_103 rfl (lv_at hl 0 rfl) ?_
                  refine r_bipush C dX9_betweenOf_104 (by decide +kernel) ?_
                  refine r_bipush C dX9_betweenOf_106 (by decide +kernel) ?_
                  obtain ⟨x15, hr, h⟩ := bd_of h
                  refine r_callSL (As := [.int (gI 111), .int (gI 114)]) (rest := [.ref (V.2.2 0)]) C hl.1 hp (c_X9_w2 l C.2.2.2.2.2.2.2.2.2.2.2 hr) gw_1460 gw_1461 cal_X9_w2 rfl rfl (Nat.le_of_ble_eq_true rfl) ⟨Nat.le_of_ble_eq_true rfl, Nat.le_of_ble_eq_true rfl⟩ dX9_betweenOf_108 (fun H locs hp => ?_)
                  obtain ⟨x16, hr, h⟩ := bd_of h
                  refine r_callVI (As := [.long (gJ x15)]) (rest := []) C hl.1 hp (c_X9_isWord l C.2.2.2.2.2.2.2.2.2.2.2 hr) gw_1463 gw_1465 gw_54 mk_0 ms_0 mc_0 cal_X9_isWord rfl rfl (Nat.le_of_ble_eq_true rfl) ⟨Nat.le_of_ble_eq_true rfl, Nat.le_of_ble_eq_true rfl⟩ dX9_betweenOf_111 (fun H locs hp => ?_)
                  refine r_if_eq (tgt := 122) C h dX9_betweenOf_114 (by decide) (fun h => ?_) (fun h => ?_)
                  · refine r_iconst C dX9_betweenOf_122 ?_
                    cases h
                    exact hR _ _ _ _ dX9_betweenOf_123 rfl hp
                  · refine r_bipush C dX9_betweenOf_117 (by decide +kernel) ?_
                    refine r_goto (tgt := 123) C dX9_betweenOf_119 (by decide) ?_
                    cases h
                    exact hR _ _ _ _ dX9_betweenOf_123 rfl hp
                · refine r_bipush C dX9_betweenOf_98 (by decide +kernel) ?_
                  refine r_goto (tgt := 123) C dX9_betweenOf_100 (by decide) ?_
                  cases h
                  exact hR _ _ _ _ dX9_betweenOf_123 rfl hp
              · refine lv_aload_n C.1 C.2.1 dX9_betweenOf_77 rfl (lv_at hl 0 rfl) ?_
                obtain ⟨x17, hr, h⟩ := bd_of h
                refine r_callVI (As := []) (rest := []) C hl.1 hp (c_X9_compareOf l C.2.2.2.2.2.2.2.2.2.2.2 hr) gw_1531 gw_1533 gw_68 mk_0 ms_0 mc_0 cal_X9_compareOf rfl rfl (Nat.le_of_ble_eq_true rfl) ⟨Nat.le_of_ble_eq_true rfl, Nat.le_of_ble_eq_true rfl⟩ dX9_betweenOf_78 (fun H locs hp => ?_)
                cases h
                exact hR _ _ _ _ dX9_betweenOf_81 rfl hp
            · refine r_iconst C dX9_betweenOf_68 ?_
              cases h
              exact hR _ _ _ _ dX9_betweenOf_69 rfl hp
          · refine r_bipush C dX9_betweenOf_56 (by decide +kernel) ?_
            cases h
            exact hR _ _ _ _ dX9_betweenOf_58 rfl hp
        · refine r_bipush C dX9_betweenOf_44 (by decide +kernel) ?_
          cases h
          exact hR _ _ _ _ dX9_betweenOf_46 rfl hp
      · refine r_bipush C dX9_betweenOf_32 (by decide +kernel) ?_
        cases h
        exact hR _ _ _ _ dX9_betweenOf_34 rfl hp
    · refine r_bipush C dX9_betweenOf_20 (by decide +kernel) ?_
      cases h
      exact hR _ _ _ _ dX9_betweenOf_22 rfl hp
  · refine r_iconst C dX9_betweenOf_9 ?_
    cases h
    exact hR _ _ _ _ dX9_betweenOf_10 rfl hp
theorem c_X9_betweenOf (l : Launch) {V : g_V} (hok : g_ok mG V)  {M : g_M} {x : Int} (h : m_X9_betweenOf M = some x) : MetI mG V l yX9_betweenOf cX9_betweenOf 1 (some .int) 2 43 [.ref (V.2.2 0)] M x M :=
  g_metI hok cal_X9_betweenOf.2.2.2 rfl (Nat.le_of_ble_eq_true rfl) (@fun p e R s m args below meth c Q ls C hR hp hl => b_X9_betweenOf C hR h hp hl)
end
