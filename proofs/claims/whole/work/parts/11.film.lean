theorem dX1_copy_0 : decode cX1_copy 0 = .ok (.aload_n 1, 1) := by decide +kernel
theorem dX1_copy_1 : decode cX1_copy 1 = .ok (.getfield 9, 3) := by decide +kernel
theorem dX1_copy_4 : decode cX1_copy 4 = .ok (.iconst 0, 1) := by decide +kernel
theorem dX1_copy_5 : decode cX1_copy 5 = .ok (.aload_n 0, 1) := by decide +kernel
theorem dX1_copy_6 : decode cX1_copy 6 = .ok (.getfield 9, 3) := by decide +kernel
theorem dX1_copy_9 : decode cX1_copy 9 = .ok (.iconst 0, 1) := by decide +kernel
theorem dX1_copy_10 : decode cX1_copy 10 = .ok (.sipush 133, 3) := by decide +kernel
theorem dX1_copy_13 : decode cX1_copy 13 = .ok (.invokestatic 49, 3) := by decide +kernel
theorem dX1_copy_16 : decode cX1_copy 16 = .ok (.aload_n 1, 1) := by decide +kernel
theorem dX1_copy_17 : decode cX1_copy 17 = .ok (.getfield 15, 3) := by decide +kernel
theorem dX1_copy_20 : decode cX1_copy 20 = .ok (.iconst 0, 1) := by decide +kernel
theorem dX1_copy_21 : decode cX1_copy 21 = .ok (.aload_n 0, 1) := by decide +kernel
theorem dX1_copy_22 : decode cX1_copy 22 = .ok (.getfield 15, 3) := by decide +kernel
theorem dX1_copy_25 : decode cX1_copy 25 = .ok (.iconst 0, 1) := by decide +kernel
theorem dX1_copy_26 : decode cX1_copy 26 = .ok (.sipush 3990, 3) := by decide +kernel
theorem dX1_copy_29 : decode cX1_copy 29 = .ok (.invokestatic 49, 3) := by decide +kernel
theorem dX1_copy_32 : decode cX1_copy 32 = .ok (.aload_n 0, 1) := by decide +kernel
theorem dX1_copy_33 : decode cX1_copy 33 = .ok (.aload_n 1, 1) := by decide +kernel
theorem dX1_copy_34 : decode cX1_copy 34 = .ok (.getfield 55, 3) := by decide +kernel
theorem dX1_copy_37 : decode cX1_copy 37 = .ok (.putfield 55, 3) := by decide +kernel
theorem dX1_copy_40 : decode cX1_copy 40 = .ok (.aload_n 0, 1) := by decide +kernel
theorem dX1_copy_41 : decode cX1_copy 41 = .ok (.aload_n 1, 1) := by decide +kernel
theorem dX1_copy_42 : decode cX1_copy 42 = .ok (.getfield 58, 3) := by decide +kernel
theorem dX1_copy_45 : decode cX1_copy 45 = .ok (.putfield 58, 3) := by decide +kernel
theorem dX1_copy_48 : decode cX1_copy 48 = .ok (.aload_n 1, 1) := by decide +kernel
theorem dX1_copy_49 : decode cX1_copy 49 = .ok (.getfield 18, 3) := by decide +kernel
theorem dX1_copy_52 : decode cX1_copy 52 = .ok (.iconst 0, 1) := by decide +kernel
theorem dX1_copy_53 : decode cX1_copy 53 = .ok (.aload_n 0, 1) := by decide +kernel
theorem dX1_copy_54 : decode cX1_copy 54 = .ok (.getfield 18, 3) := by decide +kernel
theorem dX1_copy_57 : decode cX1_copy 57 = .ok (.iconst 0, 1) := by decide +kernel
theorem dX1_copy_58 : decode cX1_copy 58 = .ok (.bipush 48, 2) := by decide +kernel
theorem dX1_copy_60 : decode cX1_copy 60 = .ok (.invokestatic 49, 3) := by decide +kernel
theorem dX1_copy_63 : decode cX1_copy 63 = .ok (.aload_n 1, 1) := by decide +kernel
theorem dX1_copy_64 : decode cX1_copy 64 = .ok (.getfield 21, 3) := by decide +kernel
theorem dX1_copy_67 : decode cX1_copy 67 = .ok (.iconst 0, 1) := by decide +kernel
theorem dX1_copy_68 : decode cX1_copy 68 = .ok (.aload_n 0, 1) := by decide +kernel
theorem dX1_copy_69 : decode cX1_copy 69 = .ok (.getfield 21, 3) := by decide +kernel
theorem dX1_copy_72 : decode cX1_copy 72 = .ok (.iconst 0, 1) := by decide +kernel
theorem dX1_copy_73 : decode cX1_copy 73 = .ok (.bipush 12, 2) := by decide +kernel
theorem dX1_copy_75 : decode cX1_copy 75 = .ok (.invokestatic 49, 3) := by decide +kernel
theorem dX1_copy_78 : decode cX1_copy 78 = .ok (.aload_n 1, 1) := by decide +kernel
theorem dX1_copy_79 : decode cX1_copy 79 = .ok (.getfield 24, 3) := by decide +kernel
theorem dX1_copy_82 : decode cX1_copy 82 = .ok (.iconst 0, 1) := by decide +kernel
theorem dX1_copy_83 : decode cX1_copy 83 = .ok (.aload_n 0, 1) := by decide +kernel
theorem dX1_copy_84 : decode cX1_copy 84 = .ok (.getfield 24, 3) := by decide +kernel
theorem dX1_copy_87 : decode cX1_copy 87 = .ok (.iconst 0, 1) := by decide +kernel
theorem dX1_copy_88 : decode cX1_copy 88 = .ok (.bipush 8, 2) := by decide +kernel
theorem dX1_copy_90 : decode cX1_copy 90 = .ok (.invokestatic 49, 3) := by decide +kernel
theorem dX1_copy_93 : decode cX1_copy 93 = .ok (.aload_n 0, 1) := by decide +kernel
theorem dX1_copy_94 : decode cX1_copy 94 = .ok (.aload_n 1, 1) := by decide +kernel
theorem dX1_copy_95 : decode cX1_copy 95 = .ok (.getfield 61, 3) := by decide +kernel
theorem dX1_copy_98 : decode cX1_copy 98 = .ok (.putfield 61, 3) := by decide +kernel
theorem dX1_copy_101 : decode cX1_copy 101 = .ok (.aload_n 0, 1) := by decide +kernel
theorem dX1_copy_102 : decode cX1_copy 102 = .ok (.aload_n 1, 1) := by decide +kernel
theorem dX1_copy_103 : decode cX1_copy 103 = .ok (.getfield 64, 3) := by decide +kernel
theorem dX1_copy_106 : decode cX1_copy 106 = .ok (.putfield 64, 3) := by decide +kernel
theorem dX1_copy_109 : decode cX1_copy 109 = .ok (.aload_n 0, 1) := by decide +kernel
theorem dX1_copy_110 : decode cX1_copy 110 = .ok (.aload_n 1, 1) := by decide +kernel
theorem dX1_copy_111 : decode cX1_copy 111 = .ok (.getfield 27, 3) := by decide +kernel
theorem dX1_copy_114 : decode cX1_copy 114 = .ok (.putfield 27, 3) := by decide +kernel
theorem dX1_copy_117 : decode cX1_copy 117 = .ok (.aload_n 1, 1) := by decide +kernel
theorem dX1_copy_118 : decode cX1_copy 118 = .ok (.getfield 31, 3) := by decide +kernel
theorem dX1_copy_121 : decode cX1_copy 121 = .ok (.iconst 0, 1) := by decide +kernel
theorem dX1_copy_122 : decode cX1_copy 122 = .ok (.aload_n 0, 1) := by decide +kernel
theorem dX1_copy_123 : decode cX1_copy 123 = .ok (.getfield 31, 3) := by decide +kernel
theorem dX1_copy_126 : decode cX1_copy 126 = .ok (.iconst 0, 1) := by decide +kernel
theorem dX1_copy_127 : decode cX1_copy 127 = .ok (.bipush 12, 2) := by decide +kernel
theorem dX1_copy_129 : decode cX1_copy 129 = .ok (.invokestatic 49, 3) := by decide +kernel
theorem dX1_copy_132 : decode cX1_copy 132 = .ok (.aload_n 0, 1) := by decide +kernel
theorem dX1_copy_133 : decode cX1_copy 133 = .ok (.aload_n 1, 1) := by decide +kernel
theorem dX1_copy_134 : decode cX1_copy 134 = .ok (.getfield 67, 3) := by decide +kernel
theorem dX1_copy_137 : decode cX1_copy 137 = .ok (.putfield 67, 3) := by decide +kernel
theorem dX1_copy_140 : decode cX1_copy 140 = .ok (.aload_n 1, 1) := by decide +kernel
theorem dX1_copy_141 : decode cX1_copy 141 = .ok (.getfield 34, 3) := by decide +kernel
theorem dX1_copy_144 : decode cX1_copy 144 = .ok (.iconst 0, 1) := by decide +kernel
theorem dX1_copy_145 : decode cX1_copy 145 = .ok (.aload_n 0, 1) := by decide +kernel
theorem dX1_copy_146 : decode cX1_copy 146 = .ok (.getfield 34, 3) := by decide +kernel
theorem dX1_copy_149 : decode cX1_copy 149 = .ok (.iconst 0, 1) := by decide +kernel
theorem dX1_copy_150 : decode cX1_copy 150 = .ok (.iconst 4, 1) := by decide +kernel
theorem dX1_copy_151 : decode cX1_copy 151 = .ok (.invokestatic 49, 3) := by decide +kernel
theorem dX1_copy_154 : decode cX1_copy 154 = .ok (.aload_n 0, 1) := by decide +kernel
theorem dX1_copy_155 : decode cX1_copy 155 = .ok (.aload_n 1, 1) := by decide +kernel
theorem dX1_copy_156 : decode cX1_copy 156 = .ok (.getfield 37, 3) := by decide +kernel
theorem dX1_copy_159 : decode cX1_copy 159 = .ok (.putfield 37, 3) := by decide +kernel
theorem dX1_copy_162 : decode cX1_copy 162 = .ok (.aload_n 1, 1) := by decide +kernel
theorem dX1_copy_163 : decode cX1_copy 163 = .ok (.getfield 40, 3) := by decide +kernel
theorem dX1_copy_166 : decode cX1_copy 166 = .ok (.iconst 0, 1) := by decide +kernel
theorem dX1_copy_167 : decode cX1_copy 167 = .ok (.aload_n 0, 1) := by decide +kernel
theorem dX1_copy_168 : decode cX1_copy 168 = .ok (.getfield 40, 3) := by decide +kernel
theorem dX1_copy_171 : decode cX1_copy 171 = .ok (.iconst 0, 1) := by decide +kernel
theorem dX1_copy_172 : decode cX1_copy 172 = .ok (.bipush 40, 2) := by decide +kernel
theorem dX1_copy_174 : decode cX1_copy 174 = .ok (.invokestatic 49, 3) := by decide +kernel
theorem dX1_copy_177 : decode cX1_copy 177 = .ok (.aload_n 1, 1) := by decide +kernel
theorem dX1_copy_178 : decode cX1_copy 178 = .ok (.getfield 43, 3) := by decide +kernel
theorem dX1_copy_181 : decode cX1_copy 181 = .ok (.iconst 0, 1) := by decide +kernel
theorem dX1_copy_182 : decode cX1_copy 182 = .ok (.aload_n 0, 1) := by decide +kernel
theorem dX1_copy_183 : decode cX1_copy 183 = .ok (.getfield 43, 3) := by decide +kernel
theorem dX1_copy_186 : decode cX1_copy 186 = .ok (.iconst 0, 1) := by decide +kernel
theorem dX1_copy_187 : decode cX1_copy 187 = .ok (.bipush 8, 2) := by decide +kernel
theorem dX1_copy_189 : decode cX1_copy 189 = .ok (.invokestatic 49, 3) := by decide +kernel
theorem dX1_copy_192 : decode cX1_copy 192 = .ok (.aload_n 1, 1) := by decide +kernel
theorem dX1_copy_193 : decode cX1_copy 193 = .ok (.getfield 46, 3) := by decide +kernel
theorem dX1_copy_196 : decode cX1_copy 196 = .ok (.iconst 0, 1) := by decide +kernel
theorem dX1_copy_197 : decode cX1_copy 197 = .ok (.aload_n 0, 1) := by decide +kernel
theorem dX1_copy_198 : decode cX1_copy 198 = .ok (.getfield 46, 3) := by decide +kernel
theorem dX1_copy_201 : decode cX1_copy 201 = .ok (.iconst 0, 1) := by decide +kernel
theorem dX1_copy_202 : decode cX1_copy 202 = .ok (.bipush 8, 2) := by decide +kernel
theorem dX1_copy_204 : decode cX1_copy 204 = .ok (.invokestatic 49, 3) := by decide +kernel
theorem dX1_copy_207 : decode cX1_copy 207 = .ok (.aload_n 0, 1) := by decide +kernel
theorem dX1_copy_208 : decode cX1_copy 208 = .ok (.aload_n 1, 1) := by decide +kernel
theorem dX1_copy_209 : decode cX1_copy 209 = .ok (.getfield 70, 3) := by decide +kernel
theorem dX1_copy_212 : decode cX1_copy 212 = .ok (.putfield 70, 3) := by decide +kernel
theorem dX1_copy_215 : decode cX1_copy 215 = .ok (.return_, 1) := by decide +kernel
theorem dX1_isPerson_0 : decode cX1_isPerson 0 = .ok (.iload_n 1, 1) := by decide +kernel
theorem dX1_isPerson_1 : decode cX1_isPerson 1 = .ok (.ifCond .lt 21, 3) := by decide +kernel
theorem dX1_isPerson_4 : decode cX1_isPerson 4 = .ok (.iload_n 1, 1) := by decide +kernel
theorem dX1_isPerson_5 : decode cX1_isPerson 5 = .ok (.aload_n 0, 1) := by decide +kernel
theorem dX1_isPerson_6 : decode cX1_isPerson 6 = .ok (.getfield 61, 3) := by decide +kernel
theorem dX1_isPerson_9 : decode cX1_isPerson 9 = .ok (.if_icmp .ge 13, 3) := by decide +kernel
theorem dX1_isPerson_12 : decode cX1_isPerson 12 = .ok (.iload_n 1, 1) := by decide +kernel
theorem dX1_isPerson_13 : decode cX1_isPerson 13 = .ok (.bipush 8, 2) := by decide +kernel
theorem dX1_isPerson_15 : decode cX1_isPerson 15 = .ok (.if_icmp .ge 7, 3) := by decide +kernel
theorem dX1_isPerson_18 : decode cX1_isPerson 18 = .ok (.iconst 1, 1) := by decide +kernel
theorem dX1_isPerson_19 : decode cX1_isPerson 19 = .ok (.goto 4, 3) := by decide +kernel
theorem dX1_isPerson_22 : decode cX1_isPerson 22 = .ok (.iconst 0, 1) := by decide +kernel
theorem dX1_isPerson_23 : decode cX1_isPerson 23 = .ok (.ireturn, 1) := by decide +kernel
theorem dX1_isText_0 : decode cX1_isText 0 = .ok (.iload_n 1, 1) := by decide +kernel
theorem dX1_isText_1 : decode cX1_isText 1 = .ok (.ifCond .lt 15, 3) := by decide +kernel
theorem dX1_isText_4 : decode cX1_isText 4 = .ok (.iload_n 1, 1) := by decide +kernel
theorem dX1_isText_5 : decode cX1_isText 5 = .ok (.aload_n 0, 1) := by decide +kernel
theorem dX1_isText_6 : decode cX1_isText 6 = .ok (.getfield 64, 3) := by decide +kernel
theorem dX1_isText_9 : decode cX1_isText 9 = .ok (.if_icmp .ge 7, 3) := by decide +kernel
theorem dX1_isText_12 : decode cX1_isText 12 = .ok (.iconst 1, 1) := by decide +kernel
theorem dX1_isText_13 : decode cX1_isText 13 = .ok (.goto 4, 3) := by decide +kernel
theorem dX1_isText_16 : decode cX1_isText 16 = .ok (.iconst 0, 1) := by decide +kernel
theorem dX1_isText_17 : decode cX1_isText 17 = .ok (.ireturn, 1) := by decide +kernel
theorem dX1_after_0 : decode cX1_after 0 = .ok (.iload_n 1, 1) := by decide +kernel
theorem dX1_after_1 : decode cX1_after 1 = .ok (.invokestatic 73, 3) := by decide +kernel
theorem dX1_after_4 : decode cX1_after 4 = .ok (.ifCond .eq 10, 3) := by decide +kernel
theorem dX1_after_7 : decode cX1_after 7 = .ok (.iload_n 2, 1) := by decide +kernel
theorem dX1_after_8 : decode cX1_after 8 = .ok (.invokestatic 77, 3) := by decide +kernel
theorem dX1_after_11 : decode cX1_after 11 = .ok (.ifCond .ne 6, 3) := by decide +kernel
theorem dX1_after_14 : decode cX1_after 14 = .ok (.bipush 12, 2) := by decide +kernel
theorem dX1_after_16 : decode cX1_after 16 = .ok (.ireturn, 1) := by decide +kernel
theorem dX1_after_17 : decode cX1_after 17 = .ok (.iload_n 2, 1) := by decide +kernel
theorem dX1_after_18 : decode cX1_after 18 = .ok (.ifCond .ne 15, 3) := by decide +kernel
theorem dX1_after_21 : decode cX1_after 21 = .ok (.aload_n 0, 1) := by decide +kernel
theorem dX1_after_22 : decode cX1_after 22 = .ok (.getfield 9, 3) := by decide +kernel
theorem dX1_after_25 : decode cX1_after 25 = .ok (.bipush 16, 2) := by decide +kernel
theorem dX1_after_27 : decode cX1_after 27 = .ok (.iload_n 1, 1) := by decide +kernel
theorem dX1_after_28 : decode cX1_after 28 = .ok (.iadd, 1) := by decide +kernel
theorem dX1_after_29 : decode cX1_after 29 = .ok (.iaload, 1) := by decide +kernel
theorem dX1_after_30 : decode cX1_after 30 = .ok (.goto 13, 3) := by decide +kernel
theorem dX1_after_33 : decode cX1_after 33 = .ok (.aload_n 0, 1) := by decide +kernel
theorem dX1_after_34 : decode cX1_after 34 = .ok (.getfield 18, 3) := by decide +kernel
theorem dX1_after_37 : decode cX1_after 37 = .ok (.iload_n 1, 1) := by decide +kernel
theorem dX1_after_38 : decode cX1_after 38 = .ok (.iconst 4, 1) := by decide +kernel
theorem dX1_after_39 : decode cX1_after 39 = .ok (.imul, 1) := by decide +kernel
theorem dX1_after_40 : decode cX1_after 40 = .ok (.iload_n 2, 1) := by decide +kernel
theorem dX1_after_41 : decode cX1_after 41 = .ok (.iadd, 1) := by decide +kernel
theorem dX1_after_42 : decode cX1_after 42 = .ok (.iaload, 1) := by decide +kernel
theorem dX1_after_43 : decode cX1_after 43 = .ok (.ireturn, 1) := by decide +kernel
theorem dX1_tellNext_0 : decode cX1_tellNext 0 = .ok (.aload_n 0, 1) := by decide +kernel
theorem dX1_tellNext_1 : decode cX1_tellNext 1 = .ok (.getfield 18, 3) := by decide +kernel
theorem dX1_tellNext_4 : decode cX1_tellNext 4 = .ok (.iload_n 1, 1) := by decide +kernel
theorem dX1_tellNext_5 : decode cX1_tellNext 5 = .ok (.iconst 4, 1) := by decide +kernel
theorem dX1_tellNext_6 : decode cX1_tellNext 6 = .ok (.imul, 1) := by decide +kernel
theorem dX1_tellNext_7 : decode cX1_tellNext 7 = .ok (.iload_n 2, 1) := by decide +kernel
theorem dX1_tellNext_8 : decode cX1_tellNext 8 = .ok (.iadd, 1) := by decide +kernel
theorem dX1_tellNext_9 : decode cX1_tellNext 9 = .ok (.iload_n 3, 1) := by decide +kernel
theorem dX1_tellNext_10 : decode cX1_tellNext 10 = .ok (.iastore, 1) := by decide +kernel
theorem dX1_tellNext_11 : decode cX1_tellNext 11 = .ok (.iload_n 2, 1) := by decide +kernel
theorem dX1_tellNext_12 : decode cX1_tellNext 12 = .ok (.ifCond .ne 12, 3) := by decide +kernel
theorem dX1_tellNext_15 : decode cX1_tellNext 15 = .ok (.aload_n 0, 1) := by decide +kernel
theorem dX1_tellNext_16 : decode cX1_tellNext 16 = .ok (.bipush 16, 2) := by decide +kernel
theorem dX1_tellNext_18 : decode cX1_tellNext 18 = .ok (.iload_n 1, 1) := by decide +kernel
theorem dX1_tellNext_19 : decode cX1_tellNext 19 = .ok (.iadd, 1) := by decide +kernel
theorem dX1_tellNext_20 : decode cX1_tellNext 20 = .ok (.iload_n 3, 1) := by decide +kernel
theorem dX1_tellNext_21 : decode cX1_tellNext 21 = .ok (.invokevirtual 80, 3) := by decide +kernel
theorem dX1_tellNext_24 : decode cX1_tellNext 24 = .ok (.return_, 1) := by decide +kernel
theorem dX1_tellPerson_0 : decode cX1_tellPerson 0 = .ok (.aload_n 0, 1) := by decide +kernel
theorem dX1_tellPerson_1 : decode cX1_tellPerson 1 = .ok (.getfield 61, 3) := by decide +kernel
theorem dX1_tellPerson_4 : decode cX1_tellPerson 4 = .ok (.bipush 8, 2) := by decide +kernel
theorem dX1_tellPerson_6 : decode cX1_tellPerson 6 = .ok (.if_icmp .lt 5, 3) := by decide +kernel
theorem dX1_tellPerson_9 : decode cX1_tellPerson 9 = .ok (.iconst (-1), 1) := by decide +kernel
theorem dX1_tellPerson_10 : decode cX1_tellPerson 10 = .ok (.ireturn, 1) := by decide +kernel
theorem dX1_tellPerson_11 : decode cX1_tellPerson 11 = .ok (.aload_n 0, 1) := by decide +kernel
theorem dX1_tellPerson_12 : decode cX1_tellPerson 12 = .ok (.getfield 61, 3) := by decide +kernel
theorem dX1_tellPerson_15 : decode cX1_tellPerson 15 = .ok (.istore_n 3, 1) := by decide +kernel
theorem dX1_tellPerson_16 : decode cX1_tellPerson 16 = .ok (.aload_n 0, 1) := by decide +kernel
theorem dX1_tellPerson_17 : decode cX1_tellPerson 17 = .ok (.dup, 1) := by decide +kernel
theorem dX1_tellPerson_18 : decode cX1_tellPerson 18 = .ok (.getfield 61, 3) := by decide +kernel
theorem dX1_tellPerson_21 : decode cX1_tellPerson 21 = .ok (.iconst 1, 1) := by decide +kernel
theorem dX1_tellPerson_22 : decode cX1_tellPerson 22 = .ok (.iadd, 1) := by decide +kernel
theorem dX1_tellPerson_23 : decode cX1_tellPerson 23 = .ok (.putfield 61, 3) := by decide +kernel
theorem dX1_tellPerson_26 : decode cX1_tellPerson 26 = .ok (.aload_n 0, 1) := by decide +kernel
theorem dX1_tellPerson_27 : decode cX1_tellPerson 27 = .ok (.getfield 24, 3) := by decide +kernel
theorem dX1_tellPerson_30 : decode cX1_tellPerson 30 = .ok (.iload_n 3, 1) := by decide +kernel
theorem dX1_tellPerson_31 : decode cX1_tellPerson 31 = .ok (.iload_n 1, 1) := by decide +kernel
theorem dX1_tellPerson_32 : decode cX1_tellPerson 32 = .ok (.iastore, 1) := by decide +kernel
theorem dX1_tellPerson_33 : decode cX1_tellPerson 33 = .ok (.aload_n 0, 1) := by decide +kernel
theorem dX1_tellPerson_34 : decode cX1_tellPerson 34 = .ok (.iconst 0, 1) := by decide +kernel
theorem dX1_tellPerson_35 : decode cX1_tellPerson 35 = .ok (.iload_n 3, 1) := by decide +kernel
theorem dX1_tellPerson_36 : decode cX1_tellPerson 36 = .ok (.iadd, 1) := by decide +kernel
theorem dX1_tellPerson_37 : decode cX1_tellPerson 37 = .ok (.iload_n 2, 1) := by decide +kernel
theorem dX1_tellPerson_38 : decode cX1_tellPerson 38 = .ok (.invokevirtual 80, 3) := by decide +kernel
theorem dX1_tellPerson_41 : decode cX1_tellPerson 41 = .ok (.aload_n 0, 1) := by decide +kernel
theorem dX1_tellPerson_42 : decode cX1_tellPerson 42 = .ok (.bipush 8, 2) := by decide +kernel
theorem dX1_tellPerson_44 : decode cX1_tellPerson 44 = .ok (.iload_n 3, 1) := by decide +kernel
theorem dX1_tellPerson_45 : decode cX1_tellPerson 45 = .ok (.iadd, 1) := by decide +kernel
theorem dX1_tellPerson_46 : decode cX1_tellPerson 46 = .ok (.iconst 0, 1) := by decide +kernel
theorem dX1_tellPerson_47 : decode cX1_tellPerson 47 = .ok (.invokevirtual 80, 3) := by decide +kernel
theorem dX1_tellPerson_50 : decode cX1_tellPerson 50 = .ok (.iload_n 3, 1) := by decide +kernel
theorem dX1_tellPerson_51 : decode cX1_tellPerson 51 = .ok (.ireturn, 1) := by decide +kernel
theorem dX1_tellNow_0 : decode cX1_tellNow 0 = .ok (.aload_n 0, 1) := by decide +kernel
theorem dX1_tellNow_1 : decode cX1_tellNow 1 = .ok (.getfield 9, 3) := by decide +kernel
theorem dX1_tellNow_4 : decode cX1_tellNow 4 = .ok (.iload_n 1, 1) := by decide +kernel
theorem dX1_tellNow_5 : decode cX1_tellNow 5 = .ok (.iload_n 2, 1) := by decide +kernel
theorem dX1_tellNow_6 : decode cX1_tellNow 6 = .ok (.iastore, 1) := by decide +kernel
theorem dX1_tellNow_7 : decode cX1_tellNow 7 = .ok (.iconst 0, 1) := by decide +kernel
theorem dX1_tellNow_8 : decode cX1_tellNow 8 = .ok (.istore_n 3, 1) := by decide +kernel
theorem dX1_tellNow_9 : decode cX1_tellNow 9 = .ok (.iload_n 3, 1) := by decide +kernel
theorem dX1_tellNow_10 : decode cX1_tellNow 10 = .ok (.bipush 30, 2) := by decide +kernel
theorem dX1_tellNow_12 : decode cX1_tellNow 12 = .ok (.if_icmp .ge 22, 3) := by decide +kernel
theorem dX1_tellNow_15 : decode cX1_tellNow 15 = .ok (.aload_n 0, 1) := by decide +kernel
theorem dX1_tellNow_16 : decode cX1_tellNow 16 = .ok (.getfield 15, 3) := by decide +kernel
theorem dX1_tellNow_19 : decode cX1_tellNow 19 = .ok (.iload_n 3, 1) := by decide +kernel
theorem dX1_tellNow_20 : decode cX1_tellNow 20 = .ok (.sipush 133, 3) := by decide +kernel
theorem dX1_tellNow_23 : decode cX1_tellNow 23 = .ok (.imul, 1) := by decide +kernel
theorem dX1_tellNow_24 : decode cX1_tellNow 24 = .ok (.iload_n 1, 1) := by decide +kernel
theorem dX1_tellNow_25 : decode cX1_tellNow 25 = .ok (.iadd, 1) := by decide +kernel
theorem dX1_tellNow_26 : decode cX1_tellNow 26 = .ok (.iload_n 2, 1) := by decide +kernel
theorem dX1_tellNow_27 : decode cX1_tellNow 27 = .ok (.iastore, 1) := by decide +kernel
theorem dX1_tellNow_28 : decode cX1_tellNow 28 = .ok (.iinc 3 1, 3) := by decide +kernel
theorem dX1_tellNow_31 : decode cX1_tellNow 31 = .ok (.goto (-22), 3) := by decide +kernel
theorem dX1_tellNow_34 : decode cX1_tellNow 34 = .ok (.return_, 1) := by decide +kernel
theorem dX1_keepStep_0 : decode cX1_keepStep 0 = .ok (.aload_n 0, 1) := by decide +kernel
theorem dX1_keepStep_1 : decode cX1_keepStep 1 = .ok (.getfield 55, 3) := by decide +kernel
theorem dX1_keepStep_4 : decode cX1_keepStep 4 = .ok (.aload_n 0, 1) := by decide +kernel
theorem dX1_keepStep_5 : decode cX1_keepStep 5 = .ok (.getfield 58, 3) := by decide +kernel
theorem dX1_keepStep_8 : decode cX1_keepStep 8 = .ok (.iadd, 1) := by decide +kernel
theorem dX1_keepStep_9 : decode cX1_keepStep 9 = .ok (.bipush 30, 2) := by decide +kernel
theorem dX1_keepStep_11 : decode cX1_keepStep 11 = .ok (.irem, 1) := by decide +kernel
theorem dX1_keepStep_12 : decode cX1_keepStep 12 = .ok (.istore_n 1, 1) := by decide +kernel
theorem dX1_keepStep_13 : decode cX1_keepStep 13 = .ok (.aload_n 0, 1) := by decide +kernel
theorem dX1_keepStep_14 : decode cX1_keepStep 14 = .ok (.getfield 9, 3) := by decide +kernel
theorem dX1_keepStep_17 : decode cX1_keepStep 17 = .ok (.iconst 0, 1) := by decide +kernel
theorem dX1_keepStep_18 : decode cX1_keepStep 18 = .ok (.aload_n 0, 1) := by decide +kernel
theorem dX1_keepStep_19 : decode cX1_keepStep 19 = .ok (.getfield 15, 3) := by decide +kernel
theorem dX1_keepStep_22 : decode cX1_keepStep 22 = .ok (.iload_n 1, 1) := by decide +kernel
theorem dX1_keepStep_23 : decode cX1_keepStep 23 = .ok (.sipush 133, 3) := by decide +kernel
theorem dX1_keepStep_26 : decode cX1_keepStep 26 = .ok (.imul, 1) := by decide +kernel
theorem dX1_keepStep_27 : decode cX1_keepStep 27 = .ok (.sipush 133, 3) := by decide +kernel
theorem dX1_keepStep_30 : decode cX1_keepStep 30 = .ok (.invokestatic 49, 3) := by decide +kernel
theorem dX1_keepStep_33 : decode cX1_keepStep 33 = .ok (.aload_n 0, 1) := by decide +kernel
theorem dX1_keepStep_34 : decode cX1_keepStep 34 = .ok (.getfield 58, 3) := by decide +kernel
theorem dX1_keepStep_37 : decode cX1_keepStep 37 = .ok (.bipush 30, 2) := by decide +kernel
theorem dX1_keepStep_39 : decode cX1_keepStep 39 = .ok (.if_icmp .ge 16, 3) := by decide +kernel
theorem dX1_keepStep_42 : decode cX1_keepStep 42 = .ok (.aload_n 0, 1) := by decide +kernel
theorem dX1_keepStep_43 : decode cX1_keepStep 43 = .ok (.dup, 1) := by decide +kernel
theorem dX1_keepStep_44 : decode cX1_keepStep 44 = .ok (.getfield 58, 3) := by decide +kernel
theorem dX1_keepStep_47 : decode cX1_keepStep 47 = .ok (.iconst 1, 1) := by decide +kernel
theorem dX1_keepStep_48 : decode cX1_keepStep 48 = .ok (.iadd, 1) := by decide +kernel
theorem dX1_keepStep_49 : decode cX1_keepStep 49 = .ok (.putfield 58, 3) := by decide +kernel
theorem dX1_keepStep_52 : decode cX1_keepStep 52 = .ok (.goto 16, 3) := by decide +kernel
theorem dX1_keepStep_55 : decode cX1_keepStep 55 = .ok (.aload_n 0, 1) := by decide +kernel
theorem dX1_keepStep_56 : decode cX1_keepStep 56 = .ok (.aload_n 0, 1) := by decide +kernel
theorem dX1_keepStep_57 : decode cX1_keepStep 57 = .ok (.getfield 55, 3) := by decide +kernel
theorem dX1_keepStep_60 : decode cX1_keepStep 60 = .ok (.iconst 1, 1) := by decide +kernel
theorem dX1_keepStep_61 : decode cX1_keepStep 61 = .ok (.iadd, 1) := by decide +kernel
theorem dX1_keepStep_62 : decode cX1_keepStep 62 = .ok (.bipush 30, 2) := by decide +kernel
theorem dX1_keepStep_64 : decode cX1_keepStep 64 = .ok (.irem, 1) := by decide +kernel
theorem dX1_keepStep_65 : decode cX1_keepStep 65 = .ok (.putfield 55, 3) := by decide +kernel
theorem dX1_keepStep_68 : decode cX1_keepStep 68 = .ok (.return_, 1) := by decide +kernel
theorem dX1_takeBack_0 : decode cX1_takeBack 0 = .ok (.aload_n 0, 1) := by decide +kernel
theorem dX1_takeBack_1 : decode cX1_takeBack 1 = .ok (.dup, 1) := by decide +kernel
theorem dX1_takeBack_2 : decode cX1_takeBack 2 = .ok (.getfield 58, 3) := by decide +kernel
theorem dX1_takeBack_5 : decode cX1_takeBack 5 = .ok (.iconst 1, 1) := by decide +kernel
theorem dX1_takeBack_6 : decode cX1_takeBack 6 = .ok (.isub, 1) := by decide +kernel
theorem dX1_takeBack_7 : decode cX1_takeBack 7 = .ok (.putfield 58, 3) := by decide +kernel
theorem dX1_takeBack_10 : decode cX1_takeBack 10 = .ok (.aload_n 0, 1) := by decide +kernel
theorem dX1_takeBack_11 : decode cX1_takeBack 11 = .ok (.getfield 55, 3) := by decide +kernel
theorem dX1_takeBack_14 : decode cX1_takeBack 14 = .ok (.aload_n 0, 1) := by decide +kernel
theorem dX1_takeBack_15 : decode cX1_takeBack 15 = .ok (.getfield 58, 3) := by decide +kernel
theorem dX1_takeBack_18 : decode cX1_takeBack 18 = .ok (.iadd, 1) := by decide +kernel
theorem dX1_takeBack_19 : decode cX1_takeBack 19 = .ok (.bipush 30, 2) := by decide +kernel
theorem dX1_takeBack_21 : decode cX1_takeBack 21 = .ok (.irem, 1) := by decide +kernel
theorem dX1_takeBack_22 : decode cX1_takeBack 22 = .ok (.istore_n 1, 1) := by decide +kernel
theorem dX1_takeBack_23 : decode cX1_takeBack 23 = .ok (.aload_n 0, 1) := by decide +kernel
theorem dX1_takeBack_24 : decode cX1_takeBack 24 = .ok (.getfield 15, 3) := by decide +kernel
theorem dX1_takeBack_27 : decode cX1_takeBack 27 = .ok (.iload_n 1, 1) := by decide +kernel
theorem dX1_takeBack_28 : decode cX1_takeBack 28 = .ok (.sipush 133, 3) := by decide +kernel
theorem dX1_takeBack_31 : decode cX1_takeBack 31 = .ok (.imul, 1) := by decide +kernel
theorem dX1_takeBack_32 : decode cX1_takeBack 32 = .ok (.aload_n 0, 1) := by decide +kernel
theorem dX1_takeBack_33 : decode cX1_takeBack 33 = .ok (.getfield 9, 3) := by decide +kernel
theorem dX1_takeBack_36 : decode cX1_takeBack 36 = .ok (.iconst 0, 1) := by decide +kernel
theorem dX1_takeBack_37 : decode cX1_takeBack 37 = .ok (.sipush 133, 3) := by decide +kernel
theorem dX1_takeBack_40 : decode cX1_takeBack 40 = .ok (.invokestatic 49, 3) := by decide +kernel
theorem dX1_takeBack_43 : decode cX1_takeBack 43 = .ok (.aload_n 0, 1) := by decide +kernel
theorem dX1_takeBack_44 : decode cX1_takeBack 44 = .ok (.getfield 58, 3) := by decide +kernel
theorem dX1_takeBack_47 : decode cX1_takeBack 47 = .ok (.ireturn, 1) := by decide +kernel
theorem dX1_isSeen_0 : decode cX1_isSeen 0 = .ok (.aload_n 0, 1) := by decide +kernel
theorem dX1_isSeen_1 : decode cX1_isSeen 1 = .ok (.getfield 9, 3) := by decide +kernel
theorem dX1_isSeen_4 : decode cX1_isSeen 4 = .ok (.iconst 0, 1) := by decide +kernel
theorem dX1_isSeen_5 : decode cX1_isSeen 5 = .ok (.iload_n 1, 1) := by decide +kernel
theorem dX1_isSeen_6 : decode cX1_isSeen 6 = .ok (.iadd, 1) := by decide +kernel
theorem dX1_isSeen_7 : decode cX1_isSeen 7 = .ok (.iaload, 1) := by decide +kernel
theorem dX1_isSeen_8 : decode cX1_isSeen 8 = .ok (.iconst 1, 1) := by decide +kernel
theorem dX1_isSeen_9 : decode cX1_isSeen 9 = .ok (.bipush 6, 2) := by decide +kernel
theorem dX1_isSeen_11 : decode cX1_isSeen 11 = .ok (.invokestatic 84, 3) := by decide +kernel
theorem dX1_isSeen_14 : decode cX1_isSeen 14 = .ok (.ireturn, 1) := by decide +kernel
theorem dX1_seenBits_0 : decode cX1_seenBits 0 = .ok (.iconst 0, 1) := by decide +kernel
theorem dX1_seenBits_1 : decode cX1_seenBits 1 = .ok (.istore_n 1, 1) := by decide +kernel
theorem dX1_seenBits_2 : decode cX1_seenBits 2 = .ok (.iconst 0, 1) := by decide +kernel
theorem dX1_seenBits_3 : decode cX1_seenBits 3 = .ok (.istore_n 2, 1) := by decide +kernel
theorem dX1_seenBits_4 : decode cX1_seenBits 4 = .ok (.iload_n 2, 1) := by decide +kernel
theorem dX1_seenBits_5 : decode cX1_seenBits 5 = .ok (.aload_n 0, 1) := by decide +kernel
theorem dX1_seenBits_6 : decode cX1_seenBits 6 = .ok (.getfield 61, 3) := by decide +kernel
theorem dX1_seenBits_9 : decode cX1_seenBits 9 = .ok (.if_icmp .ge 23, 3) := by decide +kernel
theorem dX1_seenBits_12 : decode cX1_seenBits 12 = .ok (.aload_n 0, 1) := by decide +kernel
theorem dX1_seenBits_13 : decode cX1_seenBits 13 = .ok (.iload_n 2, 1) := by decide +kernel
theorem dX1_seenBits_14 : decode cX1_seenBits 14 = .ok (.invokevirtual 88, 3) := by decide +kernel
theorem dX1_seenBits_17 : decode cX1_seenBits 17 = .ok (.ifCond .eq 9, 3) := by decide +kernel
theorem dX1_seenBits_20 : decode cX1_seenBits 20 = .ok (.iload_n 1, 1) := by decide +kernel
theorem dX1_seenBits_21 : decode cX1_seenBits 21 = .ok (.iconst 1, 1) := by decide +kernel
theorem dX1_seenBits_22 : decode cX1_seenBits 22 = .ok (.iload_n 2, 1) := by decide +kernel
theorem dX1_seenBits_23 : decode cX1_seenBits 23 = .ok (.ishl, 1) := by decide +kernel
theorem dX1_seenBits_24 : decode cX1_seenBits 24 = .ok (.ior, 1) := by decide +kernel
theorem dX1_seenBits_25 : decode cX1_seenBits 25 = .ok (.istore_n 1, 1) := by decide +kernel
theorem dX1_seenBits_26 : decode cX1_seenBits 26 = .ok (.iinc 2 1, 3) := by decide +kernel
theorem dX1_seenBits_29 : decode cX1_seenBits 29 = .ok (.goto (-25), 3) := by decide +kernel
theorem dX1_seenBits_32 : decode cX1_seenBits 32 = .ok (.iload_n 1, 1) := by decide +kernel
theorem dX1_seenBits_33 : decode cX1_seenBits 33 = .ok (.ireturn, 1) := by decide +kernel
theorem dX1_plainTogether_0 : decode cX1_plainTogether 0 = .ok (.iconst 0, 1) := by decide +kernel
theorem dX1_plainTogether_1 : decode cX1_plainTogether 1 = .ok (.istore_n 1, 1) := by decide +kernel
theorem dX1_plainTogether_2 : decode cX1_plainTogether 2 = .ok (.iconst 0, 1) := by decide +kernel
theorem dX1_plainTogether_3 : decode cX1_plainTogether 3 = .ok (.istore_n 2, 1) := by decide +kernel
theorem dX1_plainTogether_4 : decode cX1_plainTogether 4 = .ok (.iload_n 2, 1) := by decide +kernel
theorem dX1_plainTogether_5 : decode cX1_plainTogether 5 = .ok (.aload_n 0, 1) := by decide +kernel
theorem dX1_plainTogether_6 : decode cX1_plainTogether 6 = .ok (.getfield 61, 3) := by decide +kernel
theorem dX1_plainTogether_9 : decode cX1_plainTogether 9 = .ok (.if_icmp .ge 26, 3) := by decide +kernel
theorem dX1_plainTogether_12 : decode cX1_plainTogether 12 = .ok (.aload_n 0, 1) := by decide +kernel
theorem dX1_plainTogether_13 : decode cX1_plainTogether 13 = .ok (.iload_n 2, 1) := by decide +kernel
theorem dX1_plainTogether_14 : decode cX1_plainTogether 14 = .ok (.invokevirtual 88, 3) := by decide +kernel
theorem dX1_plainTogether_17 : decode cX1_plainTogether 17 = .ok (.ifCond .eq 12, 3) := by decide +kernel
theorem dX1_plainTogether_20 : decode cX1_plainTogether 20 = .ok (.iload_n 1, 1) := by decide +kernel
theorem dX1_plainTogether_21 : decode cX1_plainTogether 21 = .ok (.aload_n 0, 1) := by decide +kernel
theorem dX1_plainTogether_22 : decode cX1_plainTogether 22 = .ok (.getfield 24, 3) := by decide +kernel
theorem dX1_plainTogether_25 : decode cX1_plainTogether 25 = .ok (.iload_n 2, 1) := by decide +kernel
theorem dX1_plainTogether_26 : decode cX1_plainTogether 26 = .ok (.iaload, 1) := by decide +kernel
theorem dX1_plainTogether_27 : decode cX1_plainTogether 27 = .ok (.iadd, 1) := by decide +kernel
theorem dX1_plainTogether_28 : decode cX1_plainTogether 28 = .ok (.istore_n 1, 1) := by decide +kernel
theorem dX1_plainTogether_29 : decode cX1_plainTogether 29 = .ok (.iinc 2 1, 3) := by decide +kernel
theorem dX1_plainTogether_32 : decode cX1_plainTogether 32 = .ok (.goto (-28), 3) := by decide +kernel
theorem dX1_plainTogether_35 : decode cX1_plainTogether 35 = .ok (.iload_n 1, 1) := by decide +kernel
theorem dX1_plainTogether_36 : decode cX1_plainTogether 36 = .ok (.ireturn, 1) := by decide +kernel
theorem dX1_written_0 : decode cX1_written 0 = .ok (.bipush 30, 2) := by decide +kernel
theorem dX1_written_2 : decode cX1_written 2 = .ok (.aload_n 0, 1) := by decide +kernel
theorem dX1_written_3 : decode cX1_written 3 = .ok (.getfield 9, 3) := by decide +kernel
theorem dX1_written_6 : decode cX1_written 6 = .ok (.bipush 41, 2) := by decide +kernel
theorem dX1_written_8 : decode cX1_written 8 = .ok (.iaload, 1) := by decide +kernel
theorem dX1_written_9 : decode cX1_written 9 = .ok (.invokestatic 91, 3) := by decide +kernel
theorem dX1_written_12 : decode cX1_written 12 = .ok (.ireturn, 1) := by decide +kernel
section
variable {p : Program} {l : Launch} {e : Env} {R : Room} {s : State} {m : MethodId} {args : Array Value} {below : List Frame} {meth : Method} {c : Code} {Q : State → Prop} {V : g_V} {nf nl : Nat}
set_option maxRecDepth 100000 in
set_option maxHeartbeats 4000000 in
theorem b_X1_after (C : g_CX xG V p R s m args meth c cX1_after 3 (some .int) RX1 2 42) {res : Int} {M : g_M} (hR : g_RetI xG V p l e R s m args below meth c Q cX1_after .int res M) {a1 : Int} {a2 : Int} {H : Heap} {locs : List Loc} {ls : Array Slot} (h : m_X1_after a1 a2 M = some res) (hp : g_PT xG V M s H locs) (hl : lv_has ls 3 [(0, .ref (V.2.2 1)), (1, .int (gI a1)), (2, .int (gI a2))]) : W p l e R s m args below meth c H locs 0 0 Q (F0 m 0 ls []) := by
  unfold m_X1_after at h
  refine lv_iload_n C.1 C.2.1 dX1_after_0 rfl (lv_at hl 1 rfl) ?_
  obtain ⟨x11, hr, h⟩ := bd_of h
  refine r_callNI (As := [.int (gI a1)]) (rest := []) C hl.1 hp (c_X8_isScene l C.2.2.2.2.2.2.2.2.2.2.2 hr) (x_nest C (i := 2) rfl) gw_461 cal_X8_isScene rfl rfl (Nat.le_of_ble_eq_true rfl) ⟨Nat.le_of_ble_eq_true rfl, Nat.le_of_ble_eq_true rfl⟩ dX1_after_1 (fun H locs hp => ?_)
  refine r_if_eq (tgt := 14) C h dX1_after_4 (by decide) (fun h => ?_) (fun h => ?_)
  · refine r_bipush C dX1_after_14 (by decide +kernel) ?_
    cases h
    exact hR _ _ _ _ dX1_after_16 rfl hp
  · refine lv_iload_n C.1 C.2.1 dX1_after_7 rfl (lv_at hl 2 rfl) ?_
    obtain ⟨x12, hr, h⟩ := bd_of h
    refine r_callNI (As := [.int (gI a2)]) (rest := []) C hl.1 hp (c_X8_isCue l C.2.2.2.2.2.2.2.2.2.2.2 hr) (x_nest C (i := 3) rfl) gw_467 cal_X8_isCue rfl rfl (Nat.le_of_ble_eq_true rfl) ⟨Nat.le_of_ble_eq_true rfl, Nat.le_of_ble_eq_true rfl⟩ dX1_after_8 (fun H locs hp => ?_)
    refine r_if_ne (tgt := 17) C h dX1_after_11 (by decide) (fun h => ?_) (fun h => ?_)
    · refine lv_iload_n C.1 C.2.1 dX1_after_17 rfl (lv_at hl 2 rfl) ?_
      refine r_if_ne (tgt := 33) C h dX1_after_18 (by decide) (fun h => ?_) (fun h => ?_)
      · refine lv_aload_n C.1 C.2.1 dX1_after_33 rfl (lv_at hl 0 rfl) ?_
        refine r_getr (t := 4) C hp xk_1 xs_1 xc_1 xin_1 (j := 4) (by decide) rfl gw_152 rfl dX1_after_34 ?_
        refine lv_iload_n C.1 C.2.1 dX1_after_37 rfl (lv_at hl 1 rfl) ?_
        refine r_iconst C dX1_after_38 ?_
        refine r_imul C dX1_after_39 ?_
        refine lv_iload_n C.1 C.2.1 dX1_after_40 rfl (lv_at hl 2 rfl) ?_
        refine r_iadd C dX1_after_41 ?_
        refine r_iald C hp h xk_4 xs_4 dX1_after_42 (fun h => ?_)
        cases h
        exact hR _ _ _ _ dX1_after_43 rfl hp
      · refine lv_aload_n C.1 C.2.1 dX1_after_21 rfl (lv_at hl 0 rfl) ?_
        refine r_getr (t := 2) C hp xk_1 xs_1 xc_1 xin_1 (j := 0) (by decide) rfl gw_144 rfl dX1_after_22 ?_
        refine r_bipush C dX1_after_25 (by decide +kernel) ?_
        refine lv_iload_n C.1 C.2.1 dX1_after_27 rfl (lv_at hl 1 rfl) ?_
        refine r_iadd C dX1_after_28 ?_
        refine r_iald C hp h xk_2 xs_2 dX1_after_29 (fun h => ?_)
        refine r_goto (tgt := 43) C dX1_after_30 (by decide) ?_
        cases h
        exact hR _ _ _ _ dX1_after_43 rfl hp
    · refine r_bipush C dX1_after_14 (by decide +kernel) ?_
      cases h
      exact hR _ _ _ _ dX1_after_16 rfl hp
theorem c_X1_after (l : Launch) {V : g_V} (hok : g_ok xG V) {a1 : Int} {a2 : Int} {M : g_M} {x : Int} (h : m_X1_after a1 a2 M = some x) : MetI xG V l yX1_after cX1_after 3 (some .int) 2 42 [.ref (V.2.2 1), .int (gI a1), .int (gI a2)] M x M :=
  g_metI hok cal_X1_after.2.2.2 rfl (Nat.le_of_ble_eq_true rfl) (@fun p e R s m args below meth c Q ls C hR hp hl => b_X1_after C hR h hp hl)
set_option maxRecDepth 100000 in
set_option maxHeartbeats 4000000 in
theorem b_X1_isPerson (C : g_CX xG V p R s m args meth c cX1_isPerson 2 (some .boolean) RX1 0 0) {res : Int} {M : g_M} (hR : g_RetI xG V p l e R s m args below meth c Q cX1_isPerson .boolean res M) {a1 : Int} {H : Heap} {locs : List Loc} {ls : Array Slot} (h : m_X1_isPerson a1 M = some res) (hp : g_PT xG V M s H locs) (hl : lv_has ls 2 [(0, .ref (V.2.2 1)), (1, .int (gI a1))]) : W p l e R s m args below meth c H locs 0 0 Q (F0 m 0 ls []) := by
  unfold m_X1_isPerson at h
  refine r_jn (P := fun J => ∀  (H : Heap) (locs : List Loc) (ls : Array Slot), J  = some res → g_PT xG V M s H locs → lv_has ls 2 [] → W p l e R s m args below meth c H locs 0 0 Q (F0 m 22 ls [])) h ?_ (fun J11 hJ11 h => ?_)
  · intro  H locs ls h hp hl
    refine r_iconst C dX1_isPerson_22 ?_
    cases h
    exact hR _ _ _ _ dX1_isPerson_23 g_nz0 hp
  refine lv_iload_n C.1 C.2.1 dX1_isPerson_0 rfl (lv_at hl 1 rfl) ?_
  refine r_if_lt (tgt := 22) C h dX1_isPerson_1 (by decide) (fun h => ?_) (fun h => ?_)
  · exact hJ11  _ _ _ h hp (lv_sub hl [] rfl)
  · refine lv_iload_n C.1 C.2.1 dX1_isPerson_4 rfl (lv_at hl 1 rfl) ?_
    refine lv_aload_n C.1 C.2.1 dX1_isPerson_5 rfl (lv_at hl 0 rfl) ?_
    refine r_geti (t := 0) C hp xk_1 xs_1 xc_1 xin_1 (j := 7) (by decide) rfl gw_164 rfl dX1_isPerson_6 ?_
    refine r_icmp_ge (tgt := 22) C h dX1_isPerson_9 (by decide) (fun h => ?_) (fun h => ?_)
    · exact hJ11  _ _ _ h hp (lv_sub hl [] rfl)
    · refine lv_iload_n C.1 C.2.1 dX1_isPerson_12 rfl (lv_at hl 1 rfl) ?_
      refine r_bipush C dX1_isPerson_13 (by decide +kernel) ?_
      refine r_icmp_ge (tgt := 22) C h dX1_isPerson_15 (by decide) (fun h => ?_) (fun h => ?_)
      · exact hJ11  _ _ _ h hp (lv_sub hl [] rfl)
      · refine r_iconst C dX1_isPerson_18 ?_
        refine r_goto (tgt := 23) C dX1_isPerson_19 (by decide) ?_
        cases h
        exact hR _ _ _ _ dX1_isPerson_23 g_nz1 hp
theorem c_X1_isPerson (l : Launch) {V : g_V} (hok : g_ok xG V) {a1 : Int} {M : g_M} {x : Int} (h : m_X1_isPerson a1 M = some x) : MetI xG V l yX1_isPerson cX1_isPerson 2 (some .boolean) 0 0 [.ref (V.2.2 1), .int (gI a1)] M x M :=
  g_metI hok cal_X1_isPerson.2.2.2 rfl (Nat.le_of_ble_eq_true rfl) (@fun p e R s m args below meth c Q ls C hR hp hl => b_X1_isPerson C hR h hp hl)
set_option maxRecDepth 100000 in
set_option maxHeartbeats 4000000 in
theorem b_X1_isText (C : g_CX xG V p R s m args meth c cX1_isText 2 (some .boolean) RX1 0 0) {res : Int} {M : g_M} (hR : g_RetI xG V p l e R s m args below meth c Q cX1_isText .boolean res M) {a1 : Int} {H : Heap} {locs : List Loc} {ls : Array Slot} (h : m_X1_isText a1 M = some res) (hp : g_PT xG V M s H locs) (hl : lv_has ls 2 [(0, .ref (V.2.2 1)), (1, .int (gI a1))]) : W p l e R s m args below meth c H locs 0 0 Q (F0 m 0 ls []) := by
  unfold m_X1_isText at h
  refine r_jn (P := fun J => ∀  (H : Heap) (locs : List Loc) (ls : Array Slot), J  = some res → g_PT xG V M s H locs → lv_has ls 2 [] → W p l e R s m args below meth c H locs 0 0 Q (F0 m 16 ls [])) h ?_ (fun J11 hJ11 h => ?_)
  · intro  H locs ls h hp hl
    refine r_iconst C dX1_isText_16 ?_
    cases h
    exact hR _ _ _ _ dX1_isText_17 g_nz0 hp
  refine lv_iload_n C.1 C.2.1 dX1_isText_0 rfl (lv_at hl 1 rfl) ?_
  refine r_if_lt (tgt := 16) C h dX1_isText_1 (by decide) (fun h => ?_) (fun h => ?_)
  · exact hJ11  _ _ _ h hp (lv_sub hl [] rfl)
  · refine lv_iload_n C.1 C.2.1 dX1_isText_4 rfl (lv_at hl 1 rfl) ?_
    refine lv_aload_n C.1 C.2.1 dX1_isText_5 rfl (lv_at hl 0 rfl) ?_
    refine r_geti (t := 0) C hp xk_1 xs_1 xc_1 xin_1 (j := 8) (by decide) rfl gw_168 rfl dX1_isText_6 ?_
    refine r_icmp_ge (tgt := 16) C h dX1_isText_9 (by decide) (fun h => ?_) (fun h => ?_)
    · exact hJ11  _ _ _ h hp (lv_sub hl [] rfl)
    · refine r_iconst C dX1_isText_12 ?_
      refine r_goto (tgt := 17) C dX1_isText_13 (by decide) ?_
      cases h
      exact hR _ _ _ _ dX1_isText_17 g_nz1 hp
theorem c_X1_isText (l : Launch) {V : g_V} (hok : g_ok xG V) {a1 : Int} {M : g_M} {x : Int} (h : m_X1_isText a1 M = some x) : MetI xG V l yX1_isText cX1_isText 2 (some .boolean) 0 0 [.ref (V.2.2 1), .int (gI a1)] M x M :=
  g_metI hok cal_X1_isText.2.2.2 rfl (Nat.le_of_ble_eq_true rfl) (@fun p e R s m args below meth c Q ls C hR hp hl => b_X1_isText C hR h hp hl)
set_option maxRecDepth 100000 in
set_option maxHeartbeats 4000000 in
theorem w_X1_tellNow_L9 (C : g_CX xG V p R s m args meth c cX1_tellNow 4 none RX1 0 0) {res : g_M} (hR : g_RetV xG V p l e R s m args below meth c Q cX1_tellNow res) (x13 : Int) (x14 : Int)   : ∀ (f : Nat) (x15 : Int) (M16 : g_M) (H : Heap) (locs : List Loc) (ls : Array Slot), m_X1_tellNow_L9 x13 x14  f x15 M16 = some res → g_PT xG V M16 s H locs → lv_has ls 4 [(0, .ref (V.2.2 1)), (1, .int (gI x13)), (2, .int (gI x14)), (3, .int (gI x15))] → W p l e R s m args below meth c H locs 0 0 Q (F0 m 9 ls []) := by
  intro f
  induction f with
  | zero => intro x15 M16 H locs ls h hp hl; cases h
  | succ f ih =>
    intro x15 M16 H locs ls h hp hl
    rw [m_X1_tellNow_L9] at h
    refine lv_iload_n C.1 C.2.1 dX1_tellNow_9 rfl (lv_at hl 3 rfl) ?_
    refine r_bipush C dX1_tellNow_10 (by decide +kernel) ?_
    refine r_icmp_ge (tgt := 34) C h dX1_tellNow_12 (by decide) (fun h => ?_) (fun h => ?_)
    · cases h
      exact hR _ _ _ _ dX1_tellNow_34 hp
    · refine lv_aload_n C.1 C.2.1 dX1_tellNow_15 rfl (lv_at hl 0 rfl) ?_
      refine r_getr (t := 3) C hp xk_1 xs_1 xc_1 xin_1 (j := 1) (by decide) rfl gw_148 rfl dX1_tellNow_16 ?_
      refine lv_iload_n C.1 C.2.1 dX1_tellNow_19 rfl (lv_at hl 3 rfl) ?_
      refine r_sipush C dX1_tellNow_20 (by decide +kernel) ?_
      refine r_imul C dX1_tellNow_23 ?_
      refine lv_iload_n C.1 C.2.1 dX1_tellNow_24 rfl (lv_at hl 1 rfl) ?_
      refine r_iadd C dX1_tellNow_25 ?_
      refine lv_iload_n C.1 C.2.1 dX1_tellNow_26 rfl (lv_at hl 2 rfl) ?_
      refine r_iast C hp h xk_3 xs_3 dX1_tellNow_27 (fun M17 H locs h hp => ?_)
      refine r_iinc (lv' := fun x18 => [(3, .int (gI x18)), (0, .ref (V.2.2 1)), (1, .int (gI x13)), (2, .int (gI x14))]) C h dX1_tellNow_28 hl (j := 3) rfl (by decide) (fun _ => rfl) (fun x18 ls h hl => ?_)
      refine r_goto (tgt := 9) C dX1_tellNow_31 (by decide) ?_
      exact ih _ _ _ _ _ h hp (lv_sub hl [1, 2, 3, 0] rfl)
set_option maxRecDepth 100000 in
set_option maxHeartbeats 4000000 in
theorem b_X1_tellNow (C : g_CX xG V p R s m args meth c cX1_tellNow 4 none RX1 0 0) {res : g_M} (hR : g_RetV xG V p l e R s m args below meth c Q cX1_tellNow res) {a1 : Int} {a2 : Int} {M : g_M} {H : Heap} {locs : List Loc} {ls : Array Slot} (h : m_X1_tellNow a1 a2 M = some res) (hp : g_PT xG V M s H locs) (hl : lv_has ls 4 [(0, .ref (V.2.2 1)), (1, .int (gI a1)), (2, .int (gI a2))]) : W p l e R s m args below meth c H locs 0 0 Q (F0 m 0 ls []) := by
  unfold m_X1_tellNow at h
  refine lv_aload_n C.1 C.2.1 dX1_tellNow_0 rfl (lv_at hl 0 rfl) ?_
  refine r_getr (t := 2) C hp xk_1 xs_1 xc_1 xin_1 (j := 0) (by decide) rfl gw_144 rfl dX1_tellNow_1 ?_
  refine lv_iload_n C.1 C.2.1 dX1_tellNow_4 rfl (lv_at hl 1 rfl) ?_
  refine lv_iload_n C.1 C.2.1 dX1_tellNow_5 rfl (lv_at hl 2 rfl) ?_
  refine r_iast C hp h xk_2 xs_2 dX1_tellNow_6 (fun M11 H locs h hp => ?_)
  refine r_iconst C dX1_tellNow_7 ?_
  refine r_istore_n (lv' := fun x12 => [(3, .int (gI x12)), (0, .ref (V.2.2 1)), (1, .int (gI a1)), (2, .int (gI a2))]) C h dX1_tellNow_8 rfl hl (by decide) (fun _ => rfl) (fun x12 ls h hl => ?_)
  refine w_X1_tellNow_L9 C hR _ _ _ _ _ H locs ls h hp (lv_sub hl [1, 2, 3, 0] rfl)
theorem c_X1_tellNow (l : Launch) {V : g_V} (hok : g_ok xG V) {a1 : Int} {a2 : Int} {M : g_M} {res : g_M} (h : m_X1_tellNow a1 a2 M = some res) : MetV xG V l yX1_tellNow cX1_tellNow 4 none 0 0 [.ref (V.2.2 1), .int (gI a1), .int (gI a2)] M res :=
  g_metV hok cal_X1_tellNow.2.2.2 rfl (Nat.le_of_ble_eq_true rfl) (@fun p e R s m args below meth c Q ls C hR hp hl => b_X1_tellNow C hR h hp hl)
set_option maxRecDepth 100000 in
set_option maxHeartbeats 4000000 in
theorem b_X1_tellNext (C : g_CX xG V p R s m args meth c cX1_tellNext 4 none RX1 1 23) {res : g_M} (hR : g_RetV xG V p l e R s m args below meth c Q cX1_tellNext res) {a1 : Int} {a2 : Int} {a3 : Int} {M : g_M} {H : Heap} {locs : List Loc} {ls : Array Slot} (h : m_X1_tellNext a1 a2 a3 M = some res) (hp : g_PT xG V M s H locs) (hl : lv_has ls 4 [(0, .ref (V.2.2 1)), (1, .int (gI a1)), (2, .int (gI a2)), (3, .int (gI a3))]) : W p l e R s m args below meth c H locs 0 0 Q (F0 m 0 ls []) := by
  unfold m_X1_tellNext at h
  refine lv_aload_n C.1 C.2.1 dX1_tellNext_0 rfl (lv_at hl 0 rfl) ?_
  refine r_getr (t := 4) C hp xk_1 xs_1 xc_1 xin_1 (j := 4) (by decide) rfl gw_152 rfl dX1_tellNext_1 ?_
  refine lv_iload_n C.1 C.2.1 dX1_tellNext_4 rfl (lv_at hl 1 rfl) ?_
  refine r_iconst C dX1_tellNext_5 ?_
  refine r_imul C dX1_tellNext_6 ?_
  refine lv_iload_n C.1 C.2.1 dX1_tellNext_7 rfl (lv_at hl 2 rfl) ?_
  refine r_iadd C dX1_tellNext_8 ?_
  refine lv_iload_n C.1 C.2.1 dX1_tellNext_9 rfl (lv_at hl 3 rfl) ?_
  refine r_iast C hp h xk_4 xs_4 dX1_tellNext_10 (fun M11 H locs h hp => ?_)
  refine lv_iload_n C.1 C.2.1 dX1_tellNext_11 rfl (lv_at hl 2 rfl) ?_
  refine r_if_ne (tgt := 24) C h dX1_tellNext_12 (by decide) (fun h => ?_) (fun h => ?_)
  · cases h
    exact hR _ _ _ _ dX1_tellNext_24 hp
  · refine lv_aload_n C.1 C.2.1 dX1_tellNext_15 rfl (lv_at hl 0 rfl) ?_
    refine r_bipush C dX1_tellNext_16 (by decide +kernel) ?_
    refine lv_iload_n C.1 C.2.1 dX1_tellNext_18 rfl (lv_at hl 1 rfl) ?_
    refine r_iadd C dX1_tellNext_19 ?_
    refine lv_iload_n C.1 C.2.1 dX1_tellNext_20 rfl (lv_at hl 3 rfl) ?_
    obtain ⟨M12, hr, h⟩ := bd_of h
    refine r_callVV (As := [.int (gI (16 + a1)), .int (gI a3)]) (rest := []) C hl.1 hp (c_X1_tellNow l C.2.2.2.2.2.2.2.2.2.2.2 hr) gw_476 gw_478 gw_0 xk_1 xs_1 xc_1 cal_X1_tellNow rfl rfl (Nat.le_of_ble_eq_true rfl) ⟨Nat.le_of_ble_eq_true rfl, Nat.le_of_ble_eq_true rfl⟩ dX1_tellNext_21 (fun H locs hp => ?_)
    cases h
    exact hR _ _ _ _ dX1_tellNext_24 hp
theorem c_X1_tellNext (l : Launch) {V : g_V} (hok : g_ok xG V) {a1 : Int} {a2 : Int} {a3 : Int} {M : g_M} {res : g_M} (h : m_X1_tellNext a1 a2 a3 M = some res) : MetV xG V l yX1_tellNext cX1_tellNext 4 none 1 23 [.ref (V.2.2 1), .int (gI a1), .int (gI a2), .int (gI a3)] M res :=
  g_metV hok cal_X1_tellNext.2.2.2 rfl (Nat.le_of_ble_eq_true rfl) (@fun p e R s m args below meth c Q ls C hR hp hl => b_X1_tellNext C hR h hp hl)
set_option maxRecDepth 100000 in
set_option maxHeartbeats 4000000 in
theorem b_X1_tellPerson (C : g_CX xG V p R s m args meth c cX1_tellPerson 4 (some .int) RX1 1 23) {res : Int × g_M} (hR : g_RetI xG V p l e R s m args below meth c Q cX1_tellPerson .int res.1 res.2) {a1 : Int} {a2 : Int} {M : g_M} {H : Heap} {locs : List Loc} {ls : Array Slot} (h : m_X1_tellPerson a1 a2 M = some res) (hp : g_PT xG V M s H locs) (hl : lv_has ls 4 [(0, .ref (V.2.2 1)), (1, .int (gI a1)), (2, .int (gI a2))]) : W p l e R s m args below meth c H locs 0 0 Q (F0 m 0 ls []) := by
  unfold m_X1_tellPerson at h
  refine lv_aload_n C.1 C.2.1 dX1_tellPerson_0 rfl (lv_at hl 0 rfl) ?_
  refine r_geti (t := 0) C hp xk_1 xs_1 xc_1 xin_1 (j := 7) (by decide) rfl gw_164 rfl dX1_tellPerson_1 ?_
  refine r_bipush C dX1_tellPerson_4 (by decide +kernel) ?_
  refine r_icmp_lt (tgt := 11) C h dX1_tellPerson_6 (by decide) (fun h => ?_) (fun h => ?_)
  · refine lv_aload_n C.1 C.2.1 dX1_tellPerson_11 rfl (lv_at hl 0 rfl) ?_
    refine r_geti (t := 0) C hp xk_1 xs_1 xc_1 xin_1 (j := 7) (by decide) rfl gw_164 rfl dX1_tellPerson_12 ?_
    refine r_istore_n (lv' := fun x11 => [(3, .int (gI x11)), (0, .ref (V.2.2 1)), (1, .int (gI a1)), (2, .int (gI a2))]) C h dX1_tellPerson_15 rfl hl (by decide) (fun _ => rfl) (fun x11 ls h hl => ?_)
    refine lv_aload_n C.1 C.2.1 dX1_tellPerson_16 rfl (lv_at hl 1 rfl) ?_
    refine lv_dup C.1 C.2.1 dX1_tellPerson_17 rfl ?_
    refine r_geti (t := 0) C hp xk_1 xs_1 xc_1 xin_1 (j := 7) (by decide) rfl gw_164 rfl dX1_tellPerson_18 ?_
    refine r_iconst C dX1_tellPerson_21 ?_
    refine r_iadd C dX1_tellPerson_22 ?_
    refine r_puti C hp h xk_1 xs_1 xc_1 xin_1 tyX1 tyX1_ok nmX1 (j := 7) (by decide) rfl gw_164 rfl rfl rfl dX1_tellPerson_23 (fun M12 H locs h hp => ?_)
    refine lv_aload_n C.1 C.2.1 dX1_tellPerson_26 rfl (lv_at hl 1 rfl) ?_
    refine r_getr (t := 6) C hp xk_1 xs_1 xc_1 xin_1 (j := 6) (by decide) rfl gw_161 rfl dX1_tellPerson_27 ?_
    refine lv_iload_n C.1 C.2.1 dX1_tellPerson_30 rfl (lv_at hl 0 rfl) ?_
    refine lv_iload_n C.1 C.2.1 dX1_tellPerson_31 rfl (lv_at hl 2 rfl) ?_
    refine r_iast C hp h xk_6 xs_6 dX1_tellPerson_32 (fun M13 H locs h hp => ?_)
    refine lv_aload_n C.1 C.2.1 dX1_tellPerson_33 rfl (lv_at hl 1 rfl) ?_
    refine r_iconst C dX1_tellPerson_34 ?_
    refine lv_iload_n C.1 C.2.1 dX1_tellPerson_35 rfl (lv_at hl 0 rfl) ?_
    refine r_iadd C dX1_tellPerson_36 ?_
    refine lv_iload_n C.1 C.2.1 dX1_tellPerson_37 rfl (lv_at hl 3 rfl) ?_
    obtain ⟨M14, hr, h⟩ := bd_of h
    refine r_callVV (As := [.int (gI (0 + x11)), .int (gI a2)]) (rest := []) C hl.1 hp (c_X1_tellNow l C.2.2.2.2.2.2.2.2.2.2.2 hr) gw_476 gw_478 gw_0 xk_1 xs_1 xc_1 cal_X1_tellNow rfl rfl (Nat.le_of_ble_eq_true rfl) ⟨Nat.le_of_ble_eq_true rfl, Nat.le_of_ble_eq_true rfl⟩ dX1_tellPerson_38 (fun H locs hp => ?_)
    refine lv_aload_n C.1 C.2.1 dX1_tellPerson_41 rfl (lv_at hl 1 rfl) ?_
    refine r_bipush C dX1_tellPerson_42 (by decide +kernel) ?_
    refine lv_iload_n C.1 C.2.1 dX1_tellPerson_44 rfl (lv_at hl 0 rfl) ?_
    refine r_iadd C dX1_tellPerson_45 ?_
    refine r_iconst C dX1_tellPerson_46 ?_
    obtain ⟨M15, hr, h⟩ := bd_of h
    refine r_callVV (As := [.int (gI (8 + x11)), .int (gI 0)]) (rest := []) C hl.1 hp (c_X1_tellNow l C.2.2.2.2.2.2.2.2.2.2.2 hr) gw_476 gw_478 gw_0 xk_1 xs_1 xc_1 cal_X1_tellNow rfl rfl (Nat.le_of_ble_eq_true rfl) ⟨Nat.le_of_ble_eq_true rfl, Nat.le_of_ble_eq_true rfl⟩ dX1_tellPerson_47 (fun H locs hp => ?_)
    refine lv_iload_n C.1 C.2.1 dX1_tellPerson_50 rfl (lv_at hl 0 rfl) ?_
    cases h
    exact hR _ _ _ _ dX1_tellPerson_51 rfl hp
  · refine r_iconst C dX1_tellPerson_9 ?_
    cases h
    exact hR _ _ _ _ dX1_tellPerson_10 rfl hp
theorem c_X1_tellPerson (l : Launch) {V : g_V} (hok : g_ok xG V) {a1 : Int} {a2 : Int} {M : g_M} {x : Int} {M2 : g_M} (h : m_X1_tellPerson a1 a2 M = some (x, M2)) : MetI xG V l yX1_tellPerson cX1_tellPerson 4 (some .int) 1 23 [.ref (V.2.2 1), .int (gI a1), .int (gI a2)] M x M2 :=
  g_metI hok cal_X1_tellPerson.2.2.2 rfl (Nat.le_of_ble_eq_true rfl) (@fun p e R s m args below meth c Q ls C hR hp hl => b_X1_tellPerson C hR h hp hl)
set_option maxRecDepth 100000 in
set_option maxHeartbeats 4000000 in
theorem b_X1_keepStep (C : g_CX xG V p R s m args meth c cX1_keepStep 2 none RX1 1 40) {res : g_M} (hR : g_RetV xG V p l e R s m args below meth c Q cX1_keepStep res)  {M : g_M} {H : Heap} {locs : List Loc} {ls : Array Slot} (h : m_X1_keepStep M = some res) (hp : g_PT xG V M s H locs) (hl : lv_has ls 2 [(0, .ref (V.2.2 1))]) : W p l e R s m args below meth c H locs 0 0 Q (F0 m 0 ls []) := by
  unfold m_X1_keepStep at h
  refine lv_aload_n C.1 C.2.1 dX1_keepStep_0 rfl (lv_at hl 0 rfl) ?_
  refine r_geti (t := 0) C hp xk_1 xs_1 xc_1 xin_1 (j := 2) (by decide) rfl gw_149 rfl dX1_keepStep_1 ?_
  refine lv_aload_n C.1 C.2.1 dX1_keepStep_4 rfl (lv_at hl 0 rfl) ?_
  refine r_geti (t := 0) C hp xk_1 xs_1 xc_1 xin_1 (j := 3) (by decide) rfl gw_150 rfl dX1_keepStep_5 ?_
  refine r_iadd C dX1_keepStep_8 ?_
  refine r_bipush C dX1_keepStep_9 (by decide +kernel) ?_
  refine r_irem C h dX1_keepStep_11 (fun h => ?_)
  refine r_istore_n (lv' := fun x11 => [(1, .int (gI x11)), (0, .ref (V.2.2 1))]) C h dX1_keepStep_12 rfl hl (by decide) (fun _ => rfl) (fun x11 ls h hl => ?_)
  refine lv_aload_n C.1 C.2.1 dX1_keepStep_13 rfl (lv_at hl 1 rfl) ?_
  refine r_getr (t := 2) C hp xk_1 xs_1 xc_1 xin_1 (j := 0) (by decide) rfl gw_144 rfl dX1_keepStep_14 ?_
  refine r_iconst C dX1_keepStep_17 ?_
  refine lv_aload_n C.1 C.2.1 dX1_keepStep_18 rfl (lv_at hl 1 rfl) ?_
  refine r_getr (t := 3) C hp xk_1 xs_1 xc_1 xin_1 (j := 1) (by decide) rfl gw_148 rfl dX1_keepStep_19 ?_
  refine lv_iload_n C.1 C.2.1 dX1_keepStep_22 rfl (lv_at hl 0 rfl) ?_
  refine r_sipush C dX1_keepStep_23 (by decide +kernel) ?_
  refine r_imul C dX1_keepStep_26 ?_
  refine r_sipush C dX1_keepStep_27 (by decide +kernel) ?_
  refine r_copyi C hl.1 hp h xk_2 xs_2 xk_3 xs_3 gw_780 gw_746 gw_745 gw_128 (Nat.le_of_ble_eq_true rfl) (Nat.le_of_ble_eq_true rfl) dX1_keepStep_30 (fun M12 H locs h hp => ?_)
  refine lv_aload_n C.1 C.2.1 dX1_keepStep_33 rfl (lv_at hl 1 rfl) ?_
  refine r_geti (t := 0) C hp xk_1 xs_1 xc_1 xin_1 (j := 3) (by decide) rfl gw_150 rfl dX1_keepStep_34 ?_
  refine r_bipush C dX1_keepStep_37 (by decide +kernel) ?_
  refine r_icmp_ge (tgt := 55) C h dX1_keepStep_39 (by decide) (fun h => ?_) (fun h => ?_)
  · refine lv_aload_n C.1 C.2.1 dX1_keepStep_55 rfl (lv_at hl 1 rfl) ?_
    refine lv_aload_n C.1 C.2.1 dX1_keepStep_56 rfl (lv_at hl 1 rfl) ?_
    refine r_geti (t := 0) C hp xk_1 xs_1 xc_1 xin_1 (j := 2) (by decide) rfl gw_149 rfl dX1_keepStep_57 ?_
    refine r_iconst C dX1_keepStep_60 ?_
    refine r_iadd C dX1_keepStep_61 ?_
    refine r_bipush C dX1_keepStep_62 (by decide +kernel) ?_
    refine r_irem C h dX1_keepStep_64 (fun h => ?_)
    refine r_puti C hp h xk_1 xs_1 xc_1 xin_1 tyX1 tyX1_ok nmX1 (j := 2) (by decide) rfl gw_149 rfl rfl rfl dX1_keepStep_65 (fun M13 H locs h hp => ?_)
    cases h
    exact hR _ _ _ _ dX1_keepStep_68 hp
  · refine lv_aload_n C.1 C.2.1 dX1_keepStep_42 rfl (lv_at hl 1 rfl) ?_
    refine lv_dup C.1 C.2.1 dX1_keepStep_43 rfl ?_
    refine r_geti (t := 0) C hp xk_1 xs_1 xc_1 xin_1 (j := 3) (by decide) rfl gw_150 rfl dX1_keepStep_44 ?_
    refine r_iconst C dX1_keepStep_47 ?_
    refine r_iadd C dX1_keepStep_48 ?_
    refine r_puti C hp h xk_1 xs_1 xc_1 xin_1 tyX1 tyX1_ok nmX1 (j := 3) (by decide) rfl gw_150 rfl rfl rfl dX1_keepStep_49 (fun M14 H locs h hp => ?_)
    refine r_goto (tgt := 68) C dX1_keepStep_52 (by decide) ?_
    cases h
    exact hR _ _ _ _ dX1_keepStep_68 hp
theorem c_X1_keepStep (l : Launch) {V : g_V} (hok : g_ok xG V)  {M : g_M} {res : g_M} (h : m_X1_keepStep M = some res) : MetV xG V l yX1_keepStep cX1_keepStep 2 none 1 40 [.ref (V.2.2 1)] M res :=
  g_metV hok cal_X1_keepStep.2.2.2 rfl (Nat.le_of_ble_eq_true rfl) (@fun p e R s m args below meth c Q ls C hR hp hl => b_X1_keepStep C hR h hp hl)
set_option maxRecDepth 100000 in
set_option maxHeartbeats 4000000 in
theorem b_X1_takeBack (C : g_CX xG V p R s m args meth c cX1_takeBack 2 (some .int) RX1 1 40) {res : Int × g_M} (hR : g_RetI xG V p l e R s m args below meth c Q cX1_takeBack .int res.1 res.2)  {M : g_M} {H : Heap} {locs : List Loc} {ls : Array Slot} (h : m_X1_takeBack M = some res) (hp : g_PT xG V M s H locs) (hl : lv_has ls 2 [(0, .ref (V.2.2 1))]) : W p l e R s m args below meth c H locs 0 0 Q (F0 m 0 ls []) := by
  unfold m_X1_takeBack at h
  refine lv_aload_n C.1 C.2.1 dX1_takeBack_0 rfl (lv_at hl 0 rfl) ?_
  refine lv_dup C.1 C.2.1 dX1_takeBack_1 rfl ?_
  refine r_geti (t := 0) C hp xk_1 xs_1 xc_1 xin_1 (j := 3) (by decide) rfl gw_150 rfl dX1_takeBack_2 ?_
  refine r_iconst C dX1_takeBack_5 ?_
  refine r_isub C dX1_takeBack_6 ?_
  refine r_puti C hp h xk_1 xs_1 xc_1 xin_1 tyX1 tyX1_ok nmX1 (j := 3) (by decide) rfl gw_150 rfl rfl rfl dX1_takeBack_7 (fun M11 H locs h hp => ?_)
  refine lv_aload_n C.1 C.2.1 dX1_takeBack_10 rfl (lv_at hl 0 rfl) ?_
  refine r_geti (t := 0) C hp xk_1 xs_1 xc_1 xin_1 (j := 2) (by decide) rfl gw_149 rfl dX1_takeBack_11 ?_
  refine lv_aload_n C.1 C.2.1 dX1_takeBack_14 rfl (lv_at hl 0 rfl) ?_
  refine r_geti (t := 0) C hp xk_1 xs_1 xc_1 xin_1 (j := 3) (by decide) rfl gw_150 rfl dX1_takeBack_15 ?_
  refine r_iadd C dX1_takeBack_18 ?_
  refine r_bipush C dX1_takeBack_19 (by decide +kernel) ?_
  refine r_irem C h dX1_takeBack_21 (fun h => ?_)
  refine r_istore_n (lv' := fun x12 => [(1, .int (gI x12)), (0, .ref (V.2.2 1))]) C h dX1_takeBack_22 rfl hl (by decide) (fun _ => rfl) (fun x12 ls h hl => ?_)
  refine lv_aload_n C.1 C.2.1 dX1_takeBack_23 rfl (lv_at hl 1 rfl) ?_
  refine r_getr (t := 3) C hp xk_1 xs_1 xc_1 xin_1 (j := 1) (by decide) rfl gw_148 rfl dX1_takeBack_24 ?_
  refine lv_iload_n C.1 C.2.1 dX1_takeBack_27 rfl (lv_at hl 0 rfl) ?_
  refine r_sipush C dX1_takeBack_28 (by decide +kernel) ?_
  refine r_imul C dX1_takeBack_31 ?_
  refine lv_aload_n C.1 C.2.1 dX1_takeBack_32 rfl (lv_at hl 1 rfl) ?_
  refine r_getr (t := 2) C hp xk_1 xs_1 xc_1 xin_1 (j := 0) (by decide) rfl gw_144 rfl dX1_takeBack_33 ?_
  refine r_iconst C dX1_takeBack_36 ?_
  refine r_sipush C dX1_takeBack_37 (by decide +kernel) ?_
  refine r_copyi C hl.1 hp h xk_3 xs_3 xk_2 xs_2 gw_780 gw_746 gw_745 gw_128 (Nat.le_of_ble_eq_true rfl) (Nat.le_of_ble_eq_true rfl) dX1_takeBack_40 (fun M13 H locs h hp => ?_)
  refine lv_aload_n C.1 C.2.1 dX1_takeBack_43 rfl (lv_at hl 1 rfl) ?_
  refine r_geti (t := 0) C hp xk_1 xs_1 xc_1 xin_1 (j := 3) (by decide) rfl gw_150 rfl dX1_takeBack_44 ?_
  cases h
  exact hR _ _ _ _ dX1_takeBack_47 rfl hp
theorem c_X1_takeBack (l : Launch) {V : g_V} (hok : g_ok xG V)  {M : g_M} {x : Int} {M2 : g_M} (h : m_X1_takeBack M = some (x, M2)) : MetI xG V l yX1_takeBack cX1_takeBack 2 (some .int) 1 40 [.ref (V.2.2 1)] M x M2 :=
  g_metI hok cal_X1_takeBack.2.2.2 rfl (Nat.le_of_ble_eq_true rfl) (@fun p e R s m args below meth c Q ls C hR hp hl => b_X1_takeBack C hR h hp hl)
set_option maxRecDepth 100000 in
set_option maxHeartbeats 4000000 in
theorem b_X1_isSeen (C : g_CX xG V p R s m args meth c cX1_isSeen 2 (some .boolean) RX1 1 22) {res : Int} {M : g_M} (hR : g_RetI xG V p l e R s m args below meth c Q cX1_isSeen .boolean res M) {a1 : Int} {H : Heap} {locs : List Loc} {ls : Array Slot} (h : m_X1_isSeen a1 M = some res) (hp : g_PT xG V M s H locs) (hl : lv_has ls 2 [(0, .ref (V.2.2 1)), (1, .int (gI a1))]) : W p l e R s m args below meth c H locs 0 0 Q (F0 m 0 ls []) := by
  unfold m_X1_isSeen at h
  refine lv_aload_n C.1 C.2.1 dX1_isSeen_0 rfl (lv_at hl 0 rfl) ?_
  refine r_getr (t := 2) C hp xk_1 xs_1 xc_1 xin_1 (j := 0) (by decide) rfl gw_144 rfl dX1_isSeen_1 ?_
  refine r_iconst C dX1_isSeen_4 ?_
  refine lv_iload_n C.1 C.2.1 dX1_isSeen_5 rfl (lv_at hl 1 rfl) ?_
  refine r_iadd C dX1_isSeen_6 ?_
  refine r_iald C hp h xk_2 xs_2 dX1_isSeen_7 (fun h => ?_)
  refine r_iconst C dX1_isSeen_8 ?_
  refine r_bipush C dX1_isSeen_9 (by decide +kernel) ?_
  obtain ⟨x11, hr, h⟩ := bd_of h
  refine r_callNI (As := [.int (gI (M 2 (gs (0 + a1)).toNat)), .int (gI 1), .int (gI 6)]) (rest := []) C hl.1 hp (c_X8_within l C.2.2.2.2.2.2.2.2.2.2.2 hr) (x_nest C (i := 4) rfl) gw_464 cal_X8_within rfl rfl (Nat.le_of_ble_eq_true rfl) ⟨Nat.le_of_ble_eq_true rfl, Nat.le_of_ble_eq_true rfl⟩ dX1_isSeen_11 (fun H locs hp => ?_)
  obtain ⟨hg, h⟩ := gd_of h
  cases h
  exact hR _ _ _ _ dX1_isSeen_14 (g_nzg hg) hp
theorem c_X1_isSeen (l : Launch) {V : g_V} (hok : g_ok xG V) {a1 : Int} {M : g_M} {x : Int} (h : m_X1_isSeen a1 M = some x) : MetI xG V l yX1_isSeen cX1_isSeen 2 (some .boolean) 1 22 [.ref (V.2.2 1), .int (gI a1)] M x M :=
  g_metI hok cal_X1_isSeen.2.2.2 rfl (Nat.le_of_ble_eq_true rfl) (@fun p e R s m args below meth c Q ls C hR hp hl => b_X1_isSeen C hR h hp hl)
set_option maxRecDepth 100000 in
set_option maxHeartbeats 4000000 in
theorem w_X1_seenBits_L4 (C : g_CX xG V p R s m args meth c cX1_seenBits 3 (some .int) RX1 2 43) {res : Int} {M15 : g_M} (hR : g_RetI xG V p l e R s m args below meth c Q cX1_seenBits .int res M15)    : ∀ (f : Nat) (x13 : Int) (x14 : Int) (H : Heap) (locs : List Loc) (ls : Array Slot), m_X1_seenBits_L4 M15  f x13 x14 = some res → g_PT xG V M15 s H locs → lv_has ls 3 [(0, .ref (V.2.2 1)), (1, .int (gI x13)), (2, .int (gI x14))] → W p l e R s m args below meth c H locs 0 0 Q (F0 m 4 ls []) := by
  intro f
  induction f with
  | zero => intro x13 x14 H locs ls h hp hl; cases h
  | succ f ih =>
    intro x13 x14 H locs ls h hp hl
    rw [m_X1_seenBits_L4] at h
    refine lv_iload_n C.1 C.2.1 dX1_seenBits_4 rfl (lv_at hl 2 rfl) ?_
    refine lv_aload_n C.1 C.2.1 dX1_seenBits_5 rfl (lv_at hl 0 rfl) ?_
    refine r_geti (t := 0) C hp xk_1 xs_1 xc_1 xin_1 (j := 7) (by decide) rfl gw_164 rfl dX1_seenBits_6 ?_
    refine r_icmp_ge (tgt := 32) C h dX1_seenBits_9 (by decide) (fun h => ?_) (fun h => ?_)
    · refine lv_iload_n C.1 C.2.1 dX1_seenBits_32 rfl (lv_at hl 1 rfl) ?_
      cases h
      exact hR _ _ _ _ dX1_seenBits_33 rfl hp
    · refine r_jn (P := fun J => ∀ (x19 : Int) (H : Heap) (locs : List Loc) (ls : Array Slot), J x19 = some res → g_PT xG V M15 s H locs → lv_has ls 3 [(0, .ref (V.2.2 1)), (1, .int (gI x19)), (2, .int (gI x14))] → W p l e R s m args below meth c H locs 0 0 Q (F0 m 26 ls [])) h ?_ (fun J16 hJ16 h => ?_)
      · intro x19 H locs ls h hp hl
        refine r_iinc (lv' := fun x20 => [(2, .int (gI x20)), (0, .ref (V.2.2 1)), (1, .int (gI x19))]) C h dX1_seenBits_26 hl (j := 2) rfl (by decide) (fun _ => rfl) (fun x20 ls h hl => ?_)
        refine r_goto (tgt := 4) C dX1_seenBits_29 (by decide) ?_
        exact ih _ _ _ _ _ h hp (lv_sub hl [1, 2, 0] rfl)
      refine lv_aload_n C.1 C.2.1 dX1_seenBits_12 rfl (lv_at hl 0 rfl) ?_
      refine lv_iload_n C.1 C.2.1 dX1_seenBits_13 rfl (lv_at hl 2 rfl) ?_
      obtain ⟨x17, hr, h⟩ := bd_of h
      refine r_callVI (As := [.int (gI x14)]) (rest := []) C hl.1 hp (c_X1_isSeen l C.2.2.2.2.2.2.2.2.2.2.2 hr) gw_836 gw_837 gw_838 xk_1 xs_1 xc_1 cal_X1_isSeen rfl rfl (Nat.le_of_ble_eq_true rfl) ⟨Nat.le_of_ble_eq_true rfl, Nat.le_of_ble_eq_true rfl⟩ dX1_seenBits_14 (fun H locs hp => ?_)
      refine r_if_eq (tgt := 26) C h dX1_seenBits_17 (by decide) (fun h => ?_) (fun h => ?_)
      · exact hJ16 _ _ _ _ h hp hl
      · refine lv_iload_n C.1 C.2.1 dX1_seenBits_20 rfl (lv_at hl 1 rfl) ?_
        refine r_iconst C dX1_seenBits_21 ?_
        refine lv_iload_n C.1 C.2.1 dX1_seenBits_22 rfl (lv_at hl 2 rfl) ?_
        refine r_ishl C dX1_seenBits_23 ?_
        refine r_ior C dX1_seenBits_24 ?_
        refine r_istore_n (lv' := fun x18 => [(1, .int (gI x18)), (0, .ref (V.2.2 1)), (2, .int (gI x14))]) C h dX1_seenBits_25 rfl hl (by decide) (fun _ => rfl) (fun x18 ls h hl => ?_)
        exact hJ16 _ _ _ _ h hp (lv_sub hl [1, 0, 2] rfl)
set_option maxRecDepth 100000 in
set_option maxHeartbeats 4000000 in
theorem b_X1_seenBits (C : g_CX xG V p R s m args meth c cX1_seenBits 3 (some .int) RX1 2 43) {res : Int} {M : g_M} (hR : g_RetI xG V p l e R s m args below meth c Q cX1_seenBits .int res M)  {H : Heap} {locs : List Loc} {ls : Array Slot} (h : m_X1_seenBits M = some res) (hp : g_PT xG V M s H locs) (hl : lv_has ls 3 [(0, .ref (V.2.2 1))]) : W p l e R s m args below meth c H locs 0 0 Q (F0 m 0 ls []) := by
  unfold m_X1_seenBits at h
  refine r_iconst C dX1_seenBits_0 ?_
  refine r_istore_n (lv' := fun x11 => [(1, .int (gI x11)), (0, .ref (V.2.2 1))]) C h dX1_seenBits_1 rfl hl (by decide) (fun _ => rfl) (fun x11 ls h hl => ?_)
  refine r_iconst C dX1_seenBits_2 ?_
  refine r_istore_n (lv' := fun x12 => [(2, .int (gI x12)), (1, .int (gI x11)), (0, .ref (V.2.2 1))]) C h dX1_seenBits_3 rfl hl (by decide) (fun _ => rfl) (fun x12 ls h hl => ?_)
  refine w_X1_seenBits_L4 C hR _ _ _ H locs ls h hp (lv_sub hl [2, 1, 0] rfl)
theorem c_X1_seenBits (l : Launch) {V : g_V} (hok : g_ok xG V)  {M : g_M} {x : Int} (h : m_X1_seenBits M = some x) : MetI xG V l yX1_seenBits cX1_seenBits 3 (some .int) 2 43 [.ref (V.2.2 1)] M x M :=
  g_metI hok cal_X1_seenBits.2.2.2 rfl (Nat.le_of_ble_eq_true rfl) (@fun p e R s m args below meth c Q ls C hR hp hl => b_X1_seenBits C hR h hp hl)
set_option maxRecDepth 100000 in
set_option maxHeartbeats 4000000 in
theorem w_X1_plainTogether_L4 (C : g_CX xG V p R s m args meth c cX1_plainTogether 3 (some .int) RX1 2 43) {res : Int} {M15 : g_M} (hR : g_RetI xG V p l e R s m args below meth c Q cX1_plainTogether .int res M15)    : ∀ (f : Nat) (x13 : Int) (x14 : Int) (H : Heap) (locs : List Loc) (ls : Array Slot), m_X1_plainTogether_L4 M15  f x13 x14 = some res → g_PT xG V M15 s H locs → lv_has ls 3 [(0, .ref (V.2.2 1)), (1, .int (gI x13)), (2, .int (gI x14))] → W p l e R s m args below meth c H locs 0 0 Q (F0 m 4 ls []) := by
  intro f
  induction f with
  | zero => intro x13 x14 H locs ls h hp hl; cases h
  | succ f ih =>
    intro x13 x14 H locs ls h hp hl
    rw [m_X1_plainTogether_L4] at h
    refine lv_iload_n C.1 C.2.1 dX1_plainTogether_4 rfl (lv_at hl 2 rfl) ?_
    refine lv_aload_n C.1 C.2.1 dX1_plainTogether_5 rfl (lv_at hl 0 rfl) ?_
    refine r_geti (t := 0) C hp xk_1 xs_1 xc_1 xin_1 (j := 7) (by decide) rfl gw_164 rfl dX1_plainTogether_6 ?_
    refine r_icmp_ge (tgt := 35) C h dX1_plainTogether_9 (by decide) (fun h => ?_) (fun h => ?_)
    · refine lv_iload_n C.1 C.2.1 dX1_plainTogether_35 rfl (lv_at hl 1 rfl) ?_
      cases h
      exact hR _ _ _ _ dX1_plainTogether_36 rfl hp
    · refine r_jn (P := fun J => ∀ (x19 : Int) (H : Heap) (locs : List Loc) (ls : Array Slot), J x19 = some res → g_PT xG V M15 s H locs → lv_has ls 3 [(0, .ref (V.2.2 1)), (1, .int (gI x19)), (2, .int (gI x14))] → W p l e R s m args below meth c H locs 0 0 Q (F0 m 29 ls [])) h ?_ (fun J16 hJ16 h => ?_)
      · intro x19 H locs ls h hp hl
        refine r_iinc (lv' := fun x20 => [(2, .int (gI x20)), (0, .ref (V.2.2 1)), (1, .int (gI x19))]) C h dX1_plainTogether_29 hl (j := 2) rfl (by decide) (fun _ => rfl) (fun x20 ls h hl => ?_)
        refine r_goto (tgt := 4) C dX1_plainTogether_32 (by decide) ?_
        exact ih _ _ _ _ _ h hp (lv_sub hl [1, 2, 0] rfl)
      refine lv_aload_n C.1 C.2.1 dX1_plainTogether_12 rfl (lv_at hl 0 rfl) ?_
      refine lv_iload_n C.1 C.2.1 dX1_plainTogether_13 rfl (lv_at hl 2 rfl) ?_
      obtain ⟨x17, hr, h⟩ := bd_of h
      refine r_callVI (As := [.int (gI x14)]) (rest := []) C hl.1 hp (c_X1_isSeen l C.2.2.2.2.2.2.2.2.2.2.2 hr) gw_836 gw_837 gw_838 xk_1 xs_1 xc_1 cal_X1_isSeen rfl rfl (Nat.le_of_ble_eq_true rfl) ⟨Nat.le_of_ble_eq_true rfl, Nat.le_of_ble_eq_true rfl⟩ dX1_plainTogether_14 (fun H locs hp => ?_)
      refine r_if_eq (tgt := 29) C h dX1_plainTogether_17 (by decide) (fun h => ?_) (fun h => ?_)
      · exact hJ16 _ _ _ _ h hp hl
      · refine lv_iload_n C.1 C.2.1 dX1_plainTogether_20 rfl (lv_at hl 1 rfl) ?_
        refine lv_aload_n C.1 C.2.1 dX1_plainTogether_21 rfl (lv_at hl 0 rfl) ?_
        refine r_getr (t := 6) C hp xk_1 xs_1 xc_1 xin_1 (j := 6) (by decide) rfl gw_161 rfl dX1_plainTogether_22 ?_
        refine lv_iload_n C.1 C.2.1 dX1_plainTogether_25 rfl (lv_at hl 2 rfl) ?_
        refine r_iald C hp h xk_6 xs_6 dX1_plainTogether_26 (fun h => ?_)
        refine r_iadd C dX1_plainTogether_27 ?_
        refine r_istore_n (lv' := fun x18 => [(1, .int (gI x18)), (0, .ref (V.2.2 1)), (2, .int (gI x14))]) C h dX1_plainTogether_28 rfl hl (by decide) (fun _ => rfl) (fun x18 ls h hl => ?_)
        exact hJ16 _ _ _ _ h hp (lv_sub hl [1, 0, 2] rfl)
set_option maxRecDepth 100000 in
set_option maxHeartbeats 4000000 in
theorem b_X1_plainTogether (C : g_CX xG V p R s m args meth c cX1_plainTogether 3 (some .int) RX1 2 43) {res : Int} {M : g_M} (hR : g_RetI xG V p l e R s m args below meth c Q cX1_plainTogether .int res M)  {H : Heap} {locs : List Loc} {ls : Array Slot} (h : m_X1_plainTogether M = some res) (hp : g_PT xG V M s H locs) (hl : lv_has ls 3 [(0, .ref (V.2.2 1))]) : W p l e R s m args below meth c H locs 0 0 Q (F0 m 0 ls []) := by
  unfold m_X1_plainTogether at h
  refine r_iconst C dX1_plainTogether_0 ?_
  refine r_istore_n (lv' := fun x11 => [(1, .int (gI x11)), (0, .ref (V.2.2 1))]) C h dX1_plainTogether_1 rfl hl (by decide) (fun _ => rfl) (fun x11 ls h hl => ?_)
  refine r_iconst C dX1_plainTogether_2 ?_
  refine r_istore_n (lv' := fun x12 => [(2, .int (gI x12)), (1, .int (gI x11)), (0, .ref (V.2.2 1))]) C h dX1_plainTogether_3 rfl hl (by decide) (fun _ => rfl) (fun x12 ls h hl => ?_)
  refine w_X1_plainTogether_L4 C hR _ _ _ H locs ls h hp (lv_sub hl [2, 1, 0] rfl)
theorem c_X1_plainTogether (l : Launch) {V : g_V} (hok : g_ok xG V)  {M : g_M} {x : Int} (h : m_X1_plainTogether M = some x) : MetI xG V l yX1_plainTogether cX1_plainTogether 3 (some .int) 2 43 [.ref (V.2.2 1)] M x M :=
  g_metI hok cal_X1_plainTogether.2.2.2 rfl (Nat.le_of_ble_eq_true rfl) (@fun p e R s m args below meth c Q ls C hR hp hl => b_X1_plainTogether C hR h hp hl)
set_option maxRecDepth 100000 in
set_option maxHeartbeats 4000000 in
theorem b_X1_written (C : g_CX xG V p R s m args meth c cX1_written 1 (some .int) RX1 1 13) {res : Int} {M : g_M} (hR : g_RetI xG V p l e R s m args below meth c Q cX1_written .int res M)  {H : Heap} {locs : List Loc} {ls : Array Slot} (h : m_X1_written M = some res) (hp : g_PT xG V M s H locs) (hl : lv_has ls 1 [(0, .ref (V.2.2 1))]) : W p l e R s m args below meth c H locs 0 0 Q (F0 m 0 ls []) := by
  unfold m_X1_written at h
  refine r_bipush C dX1_written_0 (by decide +kernel) ?_
  refine lv_aload_n C.1 C.2.1 dX1_written_2 rfl (lv_at hl 0 rfl) ?_
  refine r_getr (t := 2) C hp xk_1 xs_1 xc_1 xin_1 (j := 0) (by decide) rfl gw_144 rfl dX1_written_3 ?_
  refine r_bipush C dX1_written_6 (by decide +kernel) ?_
  refine r_iald C hp h xk_2 xs_2 dX1_written_8 (fun h => ?_)
  refine r_mmin C hl.1 gw_974 gw_587 gw_126 gw_588 (Nat.le_of_ble_eq_true rfl) (Nat.le_of_ble_eq_true rfl) dX1_written_9 ?_
  cases h
  exact hR _ _ _ _ dX1_written_12 rfl hp
theorem c_X1_written (l : Launch) {V : g_V} (hok : g_ok xG V)  {M : g_M} {x : Int} (h : m_X1_written M = some x) : MetI xG V l yX1_written cX1_written 1 (some .int) 1 13 [.ref (V.2.2 1)] M x M :=
  g_metI hok cal_X1_written.2.2.2 rfl (Nat.le_of_ble_eq_true rfl) (@fun p e R s m args below meth c Q ls C hR hp hl => b_X1_written C hR h hp hl)
set_option maxRecDepth 100000 in
set_option maxHeartbeats 4000000 in
theorem b_X1_copy_12_1 (C : g_CX xG V p R s m args meth c cX1_copy 2 none RX1 1 40) {res : g_M} (hR : g_RetV xG V p l e R s m args below meth c Q cX1_copy res)  {M : g_M} {H : Heap} {locs : List Loc} {ls : Array Slot} (h : m_X1_copy_12_1 M = some res) (hp : g_PT xG V M s H locs) (hl : lv_has ls 2 [(0, .ref (V.2.2 12)), (1, .ref (V.2.2 1))]) : W p l e R s m args below meth c H locs 0 0 Q (F0 m 0 ls []) := by
  unfold m_X1_copy_12_1 at h
  refine lv_aload_n C.1 C.2.1 dX1_copy_0 rfl (lv_at hl 1 rfl) ?_
  refine r_getr (t := 2) C hp xk_1 xs_1 xc_1 xin_1 (j := 0) (by decide) rfl gw_144 rfl dX1_copy_1 ?_
  refine r_iconst C dX1_copy_4 ?_
  refine lv_aload_n C.1 C.2.1 dX1_copy_5 rfl (lv_at hl 0 rfl) ?_
  refine r_getr (t := 13) C hp xk_12 xs_12 xc_1 xin_1 (j := 0) (by decide) rfl gw_144 rfl dX1_copy_6 ?_
  refine r_iconst C dX1_copy_9 ?_
  refine r_sipush C dX1_copy_10 (by decide +kernel) ?_
  refine r_copyi C hl.1 hp h xk_2 xs_2 xk_13 xs_13 gw_780 gw_746 gw_745 gw_128 (Nat.le_of_ble_eq_true rfl) (Nat.le_of_ble_eq_true rfl) dX1_copy_13 (fun M11 H locs h hp => ?_)
  refine lv_aload_n C.1 C.2.1 dX1_copy_16 rfl (lv_at hl 1 rfl) ?_
  refine r_getr (t := 3) C hp xk_1 xs_1 xc_1 xin_1 (j := 1) (by decide) rfl gw_148 rfl dX1_copy_17 ?_
  refine r_iconst C dX1_copy_20 ?_
  refine lv_aload_n C.1 C.2.1 dX1_copy_21 rfl (lv_at hl 0 rfl) ?_
  refine r_getr (t := 14) C hp xk_12 xs_12 xc_1 xin_1 (j := 1) (by decide) rfl gw_148 rfl dX1_copy_22 ?_
  refine r_iconst C dX1_copy_25 ?_
  refine r_sipush C dX1_copy_26 (by decide +kernel) ?_
  refine r_copyi C hl.1 hp h xk_3 xs_3 xk_14 xs_14 gw_780 gw_746 gw_745 gw_128 (Nat.le_of_ble_eq_true rfl) (Nat.le_of_ble_eq_true rfl) dX1_copy_29 (fun M12 H locs h hp => ?_)
  refine lv_aload_n C.1 C.2.1 dX1_copy_32 rfl (lv_at hl 0 rfl) ?_
  refine lv_aload_n C.1 C.2.1 dX1_copy_33 rfl (lv_at hl 1 rfl) ?_
  refine r_geti (t := 0) C hp xk_1 xs_1 xc_1 xin_1 (j := 2) (by decide) rfl gw_149 rfl dX1_copy_34 ?_
  refine r_puti C hp h xk_12 xs_12 xc_1 xin_1 tyX1 tyX1_ok nmX1 (j := 2) (by decide) rfl gw_149 rfl rfl rfl dX1_copy_37 (fun M13 H locs h hp => ?_)
  refine lv_aload_n C.1 C.2.1 dX1_copy_40 rfl (lv_at hl 0 rfl) ?_
  refine lv_aload_n C.1 C.2.1 dX1_copy_41 rfl (lv_at hl 1 rfl) ?_
  refine r_geti (t := 0) C hp xk_1 xs_1 xc_1 xin_1 (j := 3) (by decide) rfl gw_150 rfl dX1_copy_42 ?_
  refine r_puti C hp h xk_12 xs_12 xc_1 xin_1 tyX1 tyX1_ok nmX1 (j := 3) (by decide) rfl gw_150 rfl rfl rfl dX1_copy_45 (fun M14 H locs h hp => ?_)
  refine lv_aload_n C.1 C.2.1 dX1_copy_48 rfl (lv_at hl 1 rfl) ?_
  refine r_getr (t := 4) C hp xk_1 xs_1 xc_1 xin_1 (j := 4) (by decide) rfl gw_152 rfl dX1_copy_49 ?_
  refine r_iconst C dX1_copy_52 ?_
  refine lv_aload_n C.1 C.2.1 dX1_copy_53 rfl (lv_at hl 0 rfl) ?_
  refine r_getr (t := 15) C hp xk_12 xs_12 xc_1 xin_1 (j := 4) (by decide) rfl gw_152 rfl dX1_copy_54 ?_
  refine r_iconst C dX1_copy_57 ?_
  refine r_bipush C dX1_copy_58 (by decide +kernel) ?_
  refine r_copyi C hl.1 hp h xk_4 xs_4 xk_15 xs_15 gw_780 gw_746 gw_745 gw_128 (Nat.le_of_ble_eq_true rfl) (Nat.le_of_ble_eq_true rfl) dX1_copy_60 (fun M15 H locs h hp => ?_)
  refine lv_aload_n C.1 C.2.1 dX1_copy_63 rfl (lv_at hl 1 rfl) ?_
  refine r_getr (t := 5) C hp xk_1 xs_1 xc_1 xin_1 (j := 5) (by decide) rfl gw_155 rfl dX1_copy_64 ?_
  refine r_iconst C dX1_copy_67 ?_
  refine lv_aload_n C.1 C.2.1 dX1_copy_68 rfl (lv_at hl 0 rfl) ?_
  refine r_getr (t := 16) C hp xk_12 xs_12 xc_1 xin_1 (j := 5) (by decide) rfl gw_155 rfl dX1_copy_69 ?_
  refine r_iconst C dX1_copy_72 ?_
  refine r_bipush C dX1_copy_73 (by decide +kernel) ?_
  refine r_copyi C hl.1 hp h xk_5 xs_5 xk_16 xs_16 gw_780 gw_746 gw_745 gw_128 (Nat.le_of_ble_eq_true rfl) (Nat.le_of_ble_eq_true rfl) dX1_copy_75 (fun M16 H locs h hp => ?_)
  refine lv_aload_n C.1 C.2.1 dX1_copy_78 rfl (lv_at hl 1 rfl) ?_
  refine r_getr (t := 6) C hp xk_1 xs_1 xc_1 xin_1 (j := 6) (by decide) rfl gw_161 rfl dX1_copy_79 ?_
  refine r_iconst C dX1_copy_82 ?_
  refine lv_aload_n C.1 C.2.1 dX1_copy_83 rfl (lv_at hl 0 rfl) ?_
  refine r_getr (t := 17) C hp xk_12 xs_12 xc_1 xin_1 (j := 6) (by decide) rfl gw_161 rfl dX1_copy_84 ?_
  refine r_iconst C dX1_copy_87 ?_
  refine r_bipush C dX1_copy_88 (by decide +kernel) ?_
  refine r_copyi C hl.1 hp h xk_6 xs_6 xk_17 xs_17 gw_780 gw_746 gw_745 gw_128 (Nat.le_of_ble_eq_true rfl) (Nat.le_of_ble_eq_true rfl) dX1_copy_90 (fun M17 H locs h hp => ?_)
  refine lv_aload_n C.1 C.2.1 dX1_copy_93 rfl (lv_at hl 0 rfl) ?_
  refine lv_aload_n C.1 C.2.1 dX1_copy_94 rfl (lv_at hl 1 rfl) ?_
  refine r_geti (t := 0) C hp xk_1 xs_1 xc_1 xin_1 (j := 7) (by decide) rfl gw_164 rfl dX1_copy_95 ?_
  refine r_puti C hp h xk_12 xs_12 xc_1 xin_1 tyX1 tyX1_ok nmX1 (j := 7) (by decide) rfl gw_164 rfl rfl rfl dX1_copy_98 (fun M18 H locs h hp => ?_)
  refine lv_aload_n C.1 C.2.1 dX1_copy_101 rfl (lv_at hl 0 rfl) ?_
  refine lv_aload_n C.1 C.2.1 dX1_copy_102 rfl (lv_at hl 1 rfl) ?_
  refine r_geti (t := 0) C hp xk_1 xs_1 xc_1 xin_1 (j := 8) (by decide) rfl gw_168 rfl dX1_copy_103 ?_
  refine r_puti C hp h xk_12 xs_12 xc_1 xin_1 tyX1 tyX1_ok nmX1 (j := 8) (by decide) rfl gw_168 rfl rfl rfl dX1_copy_106 (fun M19 H locs h hp => ?_)
  refine lv_aload_n C.1 C.2.1 dX1_copy_109 rfl (lv_at hl 0 rfl) ?_
  refine lv_aload_n C.1 C.2.1 dX1_copy_110 rfl (lv_at hl 1 rfl) ?_
  refine r_geti (t := 0) C hp xk_1 xs_1 xc_1 xin_1 (j := 9) (by decide) rfl gw_170 rfl dX1_copy_111 ?_
  refine r_puti C hp h xk_12 xs_12 xc_1 xin_1 tyX1 tyX1_ok nmX1 (j := 9) (by decide) rfl gw_170 rfl rfl rfl dX1_copy_114 (fun M20 H locs h hp => ?_)
  refine lv_aload_n C.1 C.2.1 dX1_copy_117 rfl (lv_at hl 1 rfl) ?_
  refine r_getr (t := 7) C hp xk_1 xs_1 xc_1 xin_1 (j := 10) (by decide) rfl gw_174 rfl dX1_copy_118 ?_
  refine r_iconst C dX1_copy_121 ?_
  refine lv_aload_n C.1 C.2.1 dX1_copy_122 rfl (lv_at hl 0 rfl) ?_
  refine r_getr (t := 18) C hp xk_12 xs_12 xc_1 xin_1 (j := 10) (by decide) rfl gw_174 rfl dX1_copy_123 ?_
  refine r_iconst C dX1_copy_126 ?_
  refine r_bipush C dX1_copy_127 (by decide +kernel) ?_
  refine r_copyi C hl.1 hp h xk_7 xs_7 xk_18 xs_18 gw_780 gw_746 gw_745 gw_128 (Nat.le_of_ble_eq_true rfl) (Nat.le_of_ble_eq_true rfl) dX1_copy_129 (fun M21 H locs h hp => ?_)
  refine lv_aload_n C.1 C.2.1 dX1_copy_132 rfl (lv_at hl 0 rfl) ?_
  refine lv_aload_n C.1 C.2.1 dX1_copy_133 rfl (lv_at hl 1 rfl) ?_
  refine r_geti (t := 0) C hp xk_1 xs_1 xc_1 xin_1 (j := 11) (by decide) rfl gw_176 rfl dX1_copy_134 ?_
  refine r_puti C hp h xk_12 xs_12 xc_1 xin_1 tyX1 tyX1_ok nmX1 (j := 11) (by decide) rfl gw_176 rfl rfl rfl dX1_copy_137 (fun M22 H locs h hp => ?_)
  refine lv_aload_n C.1 C.2.1 dX1_copy_140 rfl (lv_at hl 1 rfl) ?_
  refine r_getr (t := 8) C hp xk_1 xs_1 xc_1 xin_1 (j := 12) (by decide) rfl gw_178 rfl dX1_copy_141 ?_
  refine r_iconst C dX1_copy_144 ?_
  refine lv_aload_n C.1 C.2.1 dX1_copy_145 rfl (lv_at hl 0 rfl) ?_
  refine r_getr (t := 19) C hp xk_12 xs_12 xc_1 xin_1 (j := 12) (by decide) rfl gw_178 rfl dX1_copy_146 ?_
  refine r_iconst C dX1_copy_149 ?_
  refine r_iconst C dX1_copy_150 ?_
  refine r_copyi C hl.1 hp h xk_8 xs_8 xk_19 xs_19 gw_780 gw_746 gw_745 gw_128 (Nat.le_of_ble_eq_true rfl) (Nat.le_of_ble_eq_true rfl) dX1_copy_151 (fun M23 H locs h hp => ?_)
  refine lv_aload_n C.1 C.2.1 dX1_copy_154 rfl (lv_at hl 0 rfl) ?_
  refine lv_aload_n C.1 C.2.1 dX1_copy_155 rfl (lv_at hl 1 rfl) ?_
  refine r_geti (t := 0) C hp xk_1 xs_1 xc_1 xin_1 (j := 13) (by decide) rfl gw_181 rfl dX1_copy_156 ?_
  refine r_puti C hp h xk_12 xs_12 xc_1 xin_1 tyX1 tyX1_ok nmX1 (j := 13) (by decide) rfl gw_181 rfl rfl rfl dX1_copy_159 (fun M24 H locs h hp => ?_)
  refine lv_aload_n C.1 C.2.1 dX1_copy_162 rfl (lv_at hl 1 rfl) ?_
  refine r_getr (t := 9) C hp xk_1 xs_1 xc_1 xin_1 (j := 14) (by decide) rfl gw_184 rfl dX1_copy_163 ?_
  refine r_iconst C dX1_copy_166 ?_
  refine lv_aload_n C.1 C.2.1 dX1_copy_167 rfl (lv_at hl 0 rfl) ?_
  refine r_getr (t := 20) C hp xk_12 xs_12 xc_1 xin_1 (j := 14) (by decide) rfl gw_184 rfl dX1_copy_168 ?_
  refine r_iconst C dX1_copy_171 ?_
  refine r_bipush C dX1_copy_172 (by decide +kernel) ?_
  refine r_copyi C hl.1 hp h xk_9 xs_9 xk_20 xs_20 gw_780 gw_746 gw_745 gw_128 (Nat.le_of_ble_eq_true rfl) (Nat.le_of_ble_eq_true rfl) dX1_copy_174 (fun M25 H locs h hp => ?_)
  refine lv_aload_n C.1 C.2.1 dX1_copy_177 rfl (lv_at hl 1 rfl) ?_
  refine r_getr (t := 10) C hp xk_1 xs_1 xc_1 xin_1 (j := 15) (by decide) rfl gw_187 rfl dX1_copy_178 ?_
  refine r_iconst C dX1_copy_181 ?_
  refine lv_aload_n C.1 C.2.1 dX1_copy_182 rfl (lv_at hl 0 rfl) ?_
  refine r_getr (t := 21) C hp xk_12 xs_12 xc_1 xin_1 (j := 15) (by decide) rfl gw_187 rfl dX1_copy_183 ?_
  refine r_iconst C dX1_copy_186 ?_
  refine r_bipush C dX1_copy_187 (by decide +kernel) ?_
  refine r_copyi C hl.1 hp h xk_10 xs_10 xk_21 xs_21 gw_780 gw_746 gw_745 gw_128 (Nat.le_of_ble_eq_true rfl) (Nat.le_of_ble_eq_true rfl) dX1_copy_189 (fun M26 H locs h hp => ?_)
  refine lv_aload_n C.1 C.2.1 dX1_copy_192 rfl (lv_at hl 1 rfl) ?_
  refine r_getr (t := 11) C hp xk_1 xs_1 xc_1 xin_1 (j := 16) (by decide) rfl gw_190 rfl dX1_copy_193 ?_
  refine r_iconst C dX1_copy_196 ?_
  refine lv_aload_n C.1 C.2.1 dX1_copy_197 rfl (lv_at hl 0 rfl) ?_
  refine r_getr (t := 22) C hp xk_12 xs_12 xc_1 xin_1 (j := 16) (by decide) rfl gw_190 rfl dX1_copy_198 ?_
  refine r_iconst C dX1_copy_201 ?_
  refine r_bipush C dX1_copy_202 (by decide +kernel) ?_
  refine r_copyi C hl.1 hp h xk_11 xs_11 xk_22 xs_22 gw_780 gw_746 gw_745 gw_128 (Nat.le_of_ble_eq_true rfl) (Nat.le_of_ble_eq_true rfl) dX1_copy_204 (fun M27 H locs h hp => ?_)
  refine lv_aload_n C.1 C.2.1 dX1_copy_207 rfl (lv_at hl 0 rfl) ?_
  refine lv_aload_n C.1 C.2.1 dX1_copy_208 rfl (lv_at hl 1 rfl) ?_
  refine r_geti (t := 0) C hp xk_1 xs_1 xc_1 xin_1 (j := 17) (by decide) rfl gw_193 rfl dX1_copy_209 ?_
  refine r_puti C hp h xk_12 xs_12 xc_1 xin_1 tyX1 tyX1_ok nmX1 (j := 17) (by decide) rfl gw_193 rfl rfl rfl dX1_copy_212 (fun M28 H locs h hp => ?_)
  cases h
  exact hR _ _ _ _ dX1_copy_215 hp
theorem c_X1_copy_12_1 (l : Launch) {V : g_V} (hok : g_ok xG V)  {M : g_M} {res : g_M} (h : m_X1_copy_12_1 M = some res) : MetV xG V l yX1_copy cX1_copy 2 none 1 40 [.ref (V.2.2 12), .ref (V.2.2 1)] M res :=
  g_metV hok cal_X1_copy.2.2.2 rfl (Nat.le_of_ble_eq_true rfl) (@fun p e R s m args below meth c Q ls C hR hp hl => b_X1_copy_12_1 C hR h hp hl)
set_option maxRecDepth 100000 in
set_option maxHeartbeats 4000000 in
theorem b_X1_copy_1_12 (C : g_CX xG V p R s m args meth c cX1_copy 2 none RX1 1 40) {res : g_M} (hR : g_RetV xG V p l e R s m args below meth c Q cX1_copy res)  {M : g_M} {H : Heap} {locs : List Loc} {ls : Array Slot} (h : m_X1_copy_1_12 M = some res) (hp : g_PT xG V M s H locs) (hl : lv_has ls 2 [(0, .ref (V.2.2 1)), (1, .ref (V.2.2 12))]) : W p l e R s m args below meth c H locs 0 0 Q (F0 m 0 ls []) := by
  unfold m_X1_copy_1_12 at h
  refine lv_aload_n C.1 C.2.1 dX1_copy_0 rfl (lv_at hl 1 rfl) ?_
  refine r_getr (t := 13) C hp xk_12 xs_12 xc_1 xin_1 (j := 0) (by decide) rfl gw_144 rfl dX1_copy_1 ?_
  refine r_iconst C dX1_copy_4 ?_
  refine lv_aload_n C.1 C.2.1 dX1_copy_5 rfl (lv_at hl 0 rfl) ?_
  refine r_getr (t := 2) C hp xk_1 xs_1 xc_1 xin_1 (j := 0) (by decide) rfl gw_144 rfl dX1_copy_6 ?_
  refine r_iconst C dX1_copy_9 ?_
  refine r_sipush C dX1_copy_10 (by decide +kernel) ?_
  refine r_copyi C hl.1 hp h xk_13 xs_13 xk_2 xs_2 gw_780 gw_746 gw_745 gw_128 (Nat.le_of_ble_eq_true rfl) (Nat.le_of_ble_eq_true rfl) dX1_copy_13 (fun M11 H locs h hp => ?_)
  refine lv_aload_n C.1 C.2.1 dX1_copy_16 rfl (lv_at hl 1 rfl) ?_
  refine r_getr (t := 14) C hp xk_12 xs_12 xc_1 xin_1 (j := 1) (by decide) rfl gw_148 rfl dX1_copy_17 ?_
  refine r_iconst C dX1_copy_20 ?_
  refine lv_aload_n C.1 C.2.1 dX1_copy_21 rfl (lv_at hl 0 rfl) ?_
  refine r_getr (t := 3) C hp xk_1 xs_1 xc_1 xin_1 (j := 1) (by decide) rfl gw_148 rfl dX1_copy_22 ?_
  refine r_iconst C dX1_copy_25 ?_
  refine r_sipush C dX1_copy_26 (by decide +kernel) ?_
  refine r_copyi C hl.1 hp h xk_14 xs_14 xk_3 xs_3 gw_780 gw_746 gw_745 gw_128 (Nat.le_of_ble_eq_true rfl) (Nat.le_of_ble_eq_true rfl) dX1_copy_29 (fun M12 H locs h hp => ?_)
  refine lv_aload_n C.1 C.2.1 dX1_copy_32 rfl (lv_at hl 0 rfl) ?_
  refine lv_aload_n C.1 C.2.1 dX1_copy_33 rfl (lv_at hl 1 rfl) ?_
  refine r_geti (t := 0) C hp xk_12 xs_12 xc_1 xin_1 (j := 2) (by decide) rfl gw_149 rfl dX1_copy_34 ?_
  refine r_puti C hp h xk_1 xs_1 xc_1 xin_1 tyX1 tyX1_ok nmX1 (j := 2) (by decide) rfl gw_149 rfl rfl rfl dX1_copy_37 (fun M13 H locs h hp => ?_)
  refine lv_aload_n C.1 C.2.1 dX1_copy_40 rfl (lv_at hl 0 rfl) ?_
  refine lv_aload_n C.1 C.2.1 dX1_copy_41 rfl (lv_at hl 1 rfl) ?_
  refine r_geti (t := 0) C hp xk_12 xs_12 xc_1 xin_1 (j := 3) (by decide) rfl gw_150 rfl dX1_copy_42 ?_
  refine r_puti C hp h xk_1 xs_1 xc_1 xin_1 tyX1 tyX1_ok nmX1 (j := 3) (by decide) rfl gw_150 rfl rfl rfl dX1_copy_45 (fun M14 H locs h hp => ?_)
  refine lv_aload_n C.1 C.2.1 dX1_copy_48 rfl (lv_at hl 1 rfl) ?_
  refine r_getr (t := 15) C hp xk_12 xs_12 xc_1 xin_1 (j := 4) (by decide) rfl gw_152 rfl dX1_copy_49 ?_
  refine r_iconst C dX1_copy_52 ?_
  refine lv_aload_n C.1 C.2.1 dX1_copy_53 rfl (lv_at hl 0 rfl) ?_
  refine r_getr (t := 4) C hp xk_1 xs_1 xc_1 xin_1 (j := 4) (by decide) rfl gw_152 rfl dX1_copy_54 ?_
  refine r_iconst C dX1_copy_57 ?_
  refine r_bipush C dX1_copy_58 (by decide +kernel) ?_
  refine r_copyi C hl.1 hp h xk_15 xs_15 xk_4 xs_4 gw_780 gw_746 gw_745 gw_128 (Nat.le_of_ble_eq_true rfl) (Nat.le_of_ble_eq_true rfl) dX1_copy_60 (fun M15 H locs h hp => ?_)
  refine lv_aload_n C.1 C.2.1 dX1_copy_63 rfl (lv_at hl 1 rfl) ?_
  refine r_getr (t := 16) C hp xk_12 xs_12 xc_1 xin_1 (j := 5) (by decide) rfl gw_155 rfl dX1_copy_64 ?_
  refine r_iconst C dX1_copy_67 ?_
  refine lv_aload_n C.1 C.2.1 dX1_copy_68 rfl (lv_at hl 0 rfl) ?_
  refine r_getr (t := 5) C hp xk_1 xs_1 xc_1 xin_1 (j := 5) (by decide) rfl gw_155 rfl dX1_copy_69 ?_
  refine r_iconst C dX1_copy_72 ?_
  refine r_bipush C dX1_copy_73 (by decide +kernel) ?_
  refine r_copyi C hl.1 hp h xk_16 xs_16 xk_5 xs_5 gw_780 gw_746 gw_745 gw_128 (Nat.le_of_ble_eq_true rfl) (Nat.le_of_ble_eq_true rfl) dX1_copy_75 (fun M16 H locs h hp => ?_)
  refine lv_aload_n C.1 C.2.1 dX1_copy_78 rfl (lv_at hl 1 rfl) ?_
  refine r_getr (t := 17) C hp xk_12 xs_12 xc_1 xin_1 (j := 6) (by decide) rfl gw_161 rfl dX1_copy_79 ?_
  refine r_iconst C dX1_copy_82 ?_
  refine lv_aload_n C.1 C.2.1 dX1_copy_83 rfl (lv_at hl 0 rfl) ?_
  refine r_getr (t := 6) C hp xk_1 xs_1 xc_1 xin_1 (j := 6) (by decide) rfl gw_161 rfl dX1_copy_84 ?_
  refine r_iconst C dX1_copy_87 ?_
  refine r_bipush C dX1_copy_88 (by decide +kernel) ?_
  refine r_copyi C hl.1 hp h xk_17 xs_17 xk_6 xs_6 gw_780 gw_746 gw_745 gw_128 (Nat.le_of_ble_eq_true rfl) (Nat.le_of_ble_eq_true rfl) dX1_copy_90 (fun M17 H locs h hp => ?_)
  refine lv_aload_n C.1 C.2.1 dX1_copy_93 rfl (lv_at hl 0 rfl) ?_
  refine lv_aload_n C.1 C.2.1 dX1_copy_94 rfl (lv_at hl 1 rfl) ?_
  refine r_geti (t := 0) C hp xk_12 xs_12 xc_1 xin_1 (j := 7) (by decide) rfl gw_164 rfl dX1_copy_95 ?_
  refine r_puti C hp h xk_1 xs_1 xc_1 xin_1 tyX1 tyX1_ok nmX1 (j := 7) (by decide) rfl gw_164 rfl rfl rfl dX1_copy_98 (fun M18 H locs h hp => ?_)
  refine lv_aload_n C.1 C.2.1 dX1_copy_101 rfl (lv_at hl 0 rfl) ?_
  refine lv_aload_n C.1 C.2.1 dX1_copy_102 rfl (lv_at hl 1 rfl) ?_
  refine r_geti (t := 0) C hp xk_12 xs_12 xc_1 xin_1 (j := 8) (by decide) rfl gw_168 rfl dX1_copy_103 ?_
  refine r_puti C hp h xk_1 xs_1 xc_1 xin_1 tyX1 tyX1_ok nmX1 (j := 8) (by decide) rfl gw_168 rfl rfl rfl dX1_copy_106 (fun M19 H locs h hp => ?_)
  refine lv_aload_n C.1 C.2.1 dX1_copy_109 rfl (lv_at hl 0 rfl) ?_
  refine lv_aload_n C.1 C.2.1 dX1_copy_110 rfl (lv_at hl 1 rfl) ?_
  refine r_geti (t := 0) C hp xk_12 xs_12 xc_1 xin_1 (j := 9) (by decide) rfl gw_170 rfl dX1_copy_111 ?_
  refine r_puti C hp h xk_1 xs_1 xc_1 xin_1 tyX1 tyX1_ok nmX1 (j := 9) (by decide) rfl gw_170 rfl rfl rfl dX1_copy_114 (fun M20 H locs h hp => ?_)
  refine lv_aload_n C.1 C.2.1 dX1_copy_117 rfl (lv_at hl 1 rfl) ?_
  refine r_getr (t := 18) C hp xk_12 xs_12 xc_1 xin_1 (j := 10) (by decide) rfl gw_174 rfl dX1_copy_118 ?_
  refine r_iconst C dX1_copy_121 ?_
  refine lv_aload_n C.1 C.2.1 dX1_copy_122 rfl (lv_at hl 0 rfl) ?_
  refine r_getr (t := 7) C hp xk_1 xs_1 xc_1 xin_1 (j := 10) (by decide) rfl gw_174 rfl dX1_copy_123 ?_
  refine r_iconst C dX1_copy_126 ?_
  refine r_bipush C dX1_copy_127 (by decide +kernel) ?_
  refine r_copyi C hl.1 hp h xk_18 xs_18 xk_7 xs_7 gw_780 gw_746 gw_745 gw_128 (Nat.le_of_ble_eq_true rfl) (Nat.le_of_ble_eq_true rfl) dX1_copy_129 (fun M21 H locs h hp => ?_)
  refine lv_aload_n C.1 C.2.1 dX1_copy_132 rfl (lv_at hl 0 rfl) ?_
  refine lv_aload_n C.1 C.2.1 dX1_copy_133 rfl (lv_at hl 1 rfl) ?_
  refine r_geti (t := 0) C hp xk_12 xs_12 xc_1 xin_1 (j := 11) (by decide) rfl gw_176 rfl dX1_copy_134 ?_
  refine r_puti C hp h xk_1 xs_1 xc_1 xin_1 tyX1 tyX1_ok nmX1 (j := 11) (by decide) rfl gw_176 rfl rfl rfl dX1_copy_137 (fun M22 H locs h hp => ?_)
  refine lv_aload_n C.1 C.2.1 dX1_copy_140 rfl (lv_at hl 1 rfl) ?_
  refine r_getr (t := 19) C hp xk_12 xs_12 xc_1 xin_1 (j := 12) (by decide) rfl gw_178 rfl dX1_copy_141 ?_
  refine r_iconst C dX1_copy_144 ?_
  refine lv_aload_n C.1 C.2.1 dX1_copy_145 rfl (lv_at hl 0 rfl) ?_
  refine r_getr (t := 8) C hp xk_1 xs_1 xc_1 xin_1 (j := 12) (by decide) rfl gw_178 rfl dX1_copy_146 ?_
  refine r_iconst C dX1_copy_149 ?_
  refine r_iconst C dX1_copy_150 ?_
  refine r_copyi C hl.1 hp h xk_19 xs_19 xk_8 xs_8 gw_780 gw_746 gw_745 gw_128 (Nat.le_of_ble_eq_true rfl) (Nat.le_of_ble_eq_true rfl) dX1_copy_151 (fun M23 H locs h hp => ?_)
  refine lv_aload_n C.1 C.2.1 dX1_copy_154 rfl (lv_at hl 0 rfl) ?_
  refine lv_aload_n C.1 C.2.1 dX1_copy_155 rfl (lv_at hl 1 rfl) ?_
  refine r_geti (t := 0) C hp xk_12 xs_12 xc_1 xin_1 (j := 13) (by decide) rfl gw_181 rfl dX1_copy_156 ?_
  refine r_puti C hp h xk_1 xs_1 xc_1 xin_1 tyX1 tyX1_ok nmX1 (j := 13) (by decide) rfl gw_181 rfl rfl rfl dX1_copy_159 (fun M24 H locs h hp => ?_)
  refine lv_aload_n C.1 C.2.1 dX1_copy_162 rfl (lv_at hl 1 rfl) ?_
  refine r_getr (t := 20) C hp xk_12 xs_12 xc_1 xin_1 (j := 14) (by decide) rfl gw_184 rfl dX1_copy_163 ?_
  refine r_iconst C dX1_copy_166 ?_
  refine lv_aload_n C.1 C.2.1 dX1_copy_167 rfl (lv_at hl 0 rfl) ?_
  refine r_getr (t := 9) C hp xk_1 xs_1 xc_1 xin_1 (j := 14) (by decide) rfl gw_184 rfl dX1_copy_168 ?_
  refine r_iconst C dX1_copy_171 ?_
  refine r_bipush C dX1_copy_172 (by decide +kernel) ?_
  refine r_copyi C hl.1 hp h xk_20 xs_20 xk_9 xs_9 gw_780 gw_746 gw_745 gw_128 (Nat.le_of_ble_eq_true rfl) (Nat.le_of_ble_eq_true rfl) dX1_copy_174 (fun M25 H locs h hp => ?_)
  refine lv_aload_n C.1 C.2.1 dX1_copy_177 rfl (lv_at hl 1 rfl) ?_
  refine r_getr (t := 21) C hp xk_12 xs_12 xc_1 xin_1 (j := 15) (by decide) rfl gw_187 rfl dX1_copy_178 ?_
  refine r_iconst C dX1_copy_181 ?_
  refine lv_aload_n C.1 C.2.1 dX1_copy_182 rfl (lv_at hl 0 rfl) ?_
  refine r_getr (t := 10) C hp xk_1 xs_1 xc_1 xin_1 (j := 15) (by decide) rfl gw_187 rfl dX1_copy_183 ?_
  refine r_iconst C dX1_copy_186 ?_
  refine r_bipush C dX1_copy_187 (by decide +kernel) ?_
  refine r_copyi C hl.1 hp h xk_21 xs_21 xk_10 xs_10 gw_780 gw_746 gw_745 gw_128 (Nat.le_of_ble_eq_true rfl) (Nat.le_of_ble_eq_true rfl) dX1_copy_189 (fun M26 H locs h hp => ?_)
  refine lv_aload_n C.1 C.2.1 dX1_copy_192 rfl (lv_at hl 1 rfl) ?_
  refine r_getr (t := 22) C hp xk_12 xs_12 xc_1 xin_1 (j := 16) (by decide) rfl gw_190 rfl dX1_copy_193 ?_
  refine r_iconst C dX1_copy_196 ?_
  refine lv_aload_n C.1 C.2.1 dX1_copy_197 rfl (lv_at hl 0 rfl) ?_
  refine r_getr (t := 11) C hp xk_1 xs_1 xc_1 xin_1 (j := 16) (by decide) rfl gw_190 rfl dX1_copy_198 ?_
  refine r_iconst C dX1_copy_201 ?_
  refine r_bipush C dX1_copy_202 (by decide +kernel) ?_
  refine r_copyi C hl.1 hp h xk_22 xs_22 xk_11 xs_11 gw_780 gw_746 gw_745 gw_128 (Nat.le_of_ble_eq_true rfl) (Nat.le_of_ble_eq_true rfl) dX1_copy_204 (fun M27 H locs h hp => ?_)
  refine lv_aload_n C.1 C.2.1 dX1_copy_207 rfl (lv_at hl 0 rfl) ?_
  refine lv_aload_n C.1 C.2.1 dX1_copy_208 rfl (lv_at hl 1 rfl) ?_
  refine r_geti (t := 0) C hp xk_12 xs_12 xc_1 xin_1 (j := 17) (by decide) rfl gw_193 rfl dX1_copy_209 ?_
  refine r_puti C hp h xk_1 xs_1 xc_1 xin_1 tyX1 tyX1_ok nmX1 (j := 17) (by decide) rfl gw_193 rfl rfl rfl dX1_copy_212 (fun M28 H locs h hp => ?_)
  cases h
  exact hR _ _ _ _ dX1_copy_215 hp
theorem c_X1_copy_1_12 (l : Launch) {V : g_V} (hok : g_ok xG V)  {M : g_M} {res : g_M} (h : m_X1_copy_1_12 M = some res) : MetV xG V l yX1_copy cX1_copy 2 none 1 40 [.ref (V.2.2 1), .ref (V.2.2 12)] M res :=
  g_metV hok cal_X1_copy.2.2.2 rfl (Nat.le_of_ble_eq_true rfl) (@fun p e R s m args below meth c Q ls C hR hp hl => b_X1_copy_1_12 C hR h hp hl)
end
