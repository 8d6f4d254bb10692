theorem dX12_init_0 : decode cX12_init 0 = .ok (.aload_n 0, 1) := by decide +kernel
theorem dX12_init_1 : decode cX12_init 1 = .ok (.invokespecial 1, 3) := by decide +kernel
theorem dX12_init_4 : decode cX12_init 4 = .ok (.aload_n 0, 1) := by decide +kernel
theorem dX12_init_5 : decode cX12_init 5 = .ok (.iconst 4, 1) := by decide +kernel
theorem dX12_init_6 : decode cX12_init 6 = .ok (.newarray .int, 2) := by decide +kernel
theorem dX12_init_8 : decode cX12_init 8 = .ok (.putfield 7, 3) := by decide +kernel
theorem dX12_init_11 : decode cX12_init 11 = .ok (.aload_n 0, 1) := by decide +kernel
theorem dX12_init_12 : decode cX12_init 12 = .ok (.iconst 4, 1) := by decide +kernel
theorem dX12_init_13 : decode cX12_init 13 = .ok (.newarray .int, 2) := by decide +kernel
theorem dX12_init_15 : decode cX12_init 15 = .ok (.putfield 13, 3) := by decide +kernel
theorem dX12_init_18 : decode cX12_init 18 = .ok (.aload_n 0, 1) := by decide +kernel
theorem dX12_init_19 : decode cX12_init 19 = .ok (.sipush 240, 3) := by decide +kernel
theorem dX12_init_22 : decode cX12_init 22 = .ok (.newarray .int, 2) := by decide +kernel
theorem dX12_init_24 : decode cX12_init 24 = .ok (.putfield 16, 3) := by decide +kernel
theorem dX12_init_27 : decode cX12_init 27 = .ok (.aload_n 0, 1) := by decide +kernel
theorem dX12_init_28 : decode cX12_init 28 = .ok (.bipush 60, 2) := by decide +kernel
theorem dX12_init_30 : decode cX12_init 30 = .ok (.newarray .int, 2) := by decide +kernel
theorem dX12_init_32 : decode cX12_init 32 = .ok (.putfield 19, 3) := by decide +kernel
theorem dX12_init_35 : decode cX12_init 35 = .ok (.aload_n 0, 1) := by decide +kernel
theorem dX12_init_36 : decode cX12_init 36 = .ok (.bipush 60, 2) := by decide +kernel
theorem dX12_init_38 : decode cX12_init 38 = .ok (.newarray .int, 2) := by decide +kernel
theorem dX12_init_40 : decode cX12_init 40 = .ok (.putfield 22, 3) := by decide +kernel
theorem dX12_init_43 : decode cX12_init 43 = .ok (.aload_n 0, 1) := by decide +kernel
theorem dX12_init_44 : decode cX12_init 44 = .ok (.iconst 2, 1) := by decide +kernel
theorem dX12_init_45 : decode cX12_init 45 = .ok (.newarray .int, 2) := by decide +kernel
theorem dX12_init_47 : decode cX12_init 47 = .ok (.putfield 25, 3) := by decide +kernel
theorem dX12_init_50 : decode cX12_init 50 = .ok (.aload_n 0, 1) := by decide +kernel
theorem dX12_init_51 : decode cX12_init 51 = .ok (.iconst 4, 1) := by decide +kernel
theorem dX12_init_52 : decode cX12_init 52 = .ok (.newarray .int, 2) := by decide +kernel
theorem dX12_init_54 : decode cX12_init 54 = .ok (.putfield 28, 3) := by decide +kernel
theorem dX12_init_57 : decode cX12_init 57 = .ok (.aload_n 0, 1) := by decide +kernel
theorem dX12_init_58 : decode cX12_init 58 = .ok (.iconst (-1), 1) := by decide +kernel
theorem dX12_init_59 : decode cX12_init 59 = .ok (.putfield 31, 3) := by decide +kernel
theorem dX12_init_62 : decode cX12_init 62 = .ok (.aload_n 0, 1) := by decide +kernel
theorem dX12_init_63 : decode cX12_init 63 = .ok (.bipush 96, 2) := by decide +kernel
theorem dX12_init_65 : decode cX12_init 65 = .ok (.newarray .int, 2) := by decide +kernel
theorem dX12_init_67 : decode cX12_init 67 = .ok (.putfield 35, 3) := by decide +kernel
theorem dX12_init_70 : decode cX12_init 70 = .ok (.aload_n 0, 1) := by decide +kernel
theorem dX12_init_71 : decode cX12_init 71 = .ok (.bipush 8, 2) := by decide +kernel
theorem dX12_init_73 : decode cX12_init 73 = .ok (.newarray .int, 2) := by decide +kernel
theorem dX12_init_75 : decode cX12_init 75 = .ok (.putfield 38, 3) := by decide +kernel
theorem dX12_init_78 : decode cX12_init 78 = .ok (.aload_n 0, 1) := by decide +kernel
theorem dX12_init_79 : decode cX12_init 79 = .ok (.bipush 8, 2) := by decide +kernel
theorem dX12_init_81 : decode cX12_init 81 = .ok (.newarray .int, 2) := by decide +kernel
theorem dX12_init_83 : decode cX12_init 83 = .ok (.putfield 41, 3) := by decide +kernel
theorem dX12_init_86 : decode cX12_init 86 = .ok (.aload_n 0, 1) := by decide +kernel
theorem dX12_init_87 : decode cX12_init 87 = .ok (.bipush 12, 2) := by decide +kernel
theorem dX12_init_89 : decode cX12_init 89 = .ok (.newarray .boolean, 2) := by decide +kernel
theorem dX12_init_91 : decode cX12_init 91 = .ok (.putfield 44, 3) := by decide +kernel
theorem dX12_init_94 : decode cX12_init 94 = .ok (.aload_n 0, 1) := by decide +kernel
theorem dX12_init_95 : decode cX12_init 95 = .ok (.bipush 9, 2) := by decide +kernel
theorem dX12_init_97 : decode cX12_init 97 = .ok (.newarray .long, 2) := by decide +kernel
theorem dX12_init_99 : decode cX12_init 99 = .ok (.putfield 48, 3) := by decide +kernel
theorem dX12_init_102 : decode cX12_init 102 = .ok (.aload_n 0, 1) := by decide +kernel
theorem dX12_init_103 : decode cX12_init 103 = .ok (.bipush 9, 2) := by decide +kernel
theorem dX12_init_105 : decode cX12_init 105 = .ok (.newarray .long, 2) := by decide +kernel
theorem dX12_init_107 : decode cX12_init 107 = .ok (.putfield 52, 3) := by decide +kernel
theorem dX12_init_110 : decode cX12_init 110 = .ok (.aload_n 0, 1) := by decide +kernel
theorem dX12_init_111 : decode cX12_init 111 = .ok (.iconst 3, 1) := by decide +kernel
theorem dX12_init_112 : decode cX12_init 112 = .ok (.newarray .long, 2) := by decide +kernel
theorem dX12_init_114 : decode cX12_init 114 = .ok (.putfield 55, 3) := by decide +kernel
theorem dX12_init_117 : decode cX12_init 117 = .ok (.aload_n 0, 1) := by decide +kernel
theorem dX12_init_118 : decode cX12_init 118 = .ok (.bipush 36, 2) := by decide +kernel
theorem dX12_init_120 : decode cX12_init 120 = .ok (.newarray .int, 2) := by decide +kernel
theorem dX12_init_122 : decode cX12_init 122 = .ok (.putfield 58, 3) := by decide +kernel
theorem dX12_init_125 : decode cX12_init 125 = .ok (.aload_n 0, 1) := by decide +kernel
theorem dX12_init_126 : decode cX12_init 126 = .ok (.bipush 8, 2) := by decide +kernel
theorem dX12_init_128 : decode cX12_init 128 = .ok (.newarray .int, 2) := by decide +kernel
theorem dX12_init_130 : decode cX12_init 130 = .ok (.putfield 61, 3) := by decide +kernel
theorem dX12_init_133 : decode cX12_init 133 = .ok (.aload_n 0, 1) := by decide +kernel
theorem dX12_init_134 : decode cX12_init 134 = .ok (.bipush 8, 2) := by decide +kernel
theorem dX12_init_136 : decode cX12_init 136 = .ok (.newarray .int, 2) := by decide +kernel
theorem dX12_init_138 : decode cX12_init 138 = .ok (.putfield 64, 3) := by decide +kernel
theorem dX12_init_141 : decode cX12_init 141 = .ok (.aload_n 0, 1) := by decide +kernel
theorem dX12_init_142 : decode cX12_init 142 = .ok (.sipush 128, 3) := by decide +kernel
theorem dX12_init_145 : decode cX12_init 145 = .ok (.newarray .int, 2) := by decide +kernel
theorem dX12_init_147 : decode cX12_init 147 = .ok (.putfield 67, 3) := by decide +kernel
theorem dX12_init_150 : decode cX12_init 150 = .ok (.aload_n 0, 1) := by decide +kernel
theorem dX12_init_151 : decode cX12_init 151 = .ok (.iconst 4, 1) := by decide +kernel
theorem dX12_init_152 : decode cX12_init 152 = .ok (.newarray .int, 2) := by decide +kernel
theorem dX12_init_154 : decode cX12_init 154 = .ok (.putfield 70, 3) := by decide +kernel
theorem dX12_init_157 : decode cX12_init 157 = .ok (.aload_n 0, 1) := by decide +kernel
theorem dX12_init_158 : decode cX12_init 158 = .ok (.iconst 4, 1) := by decide +kernel
theorem dX12_init_159 : decode cX12_init 159 = .ok (.newarray .int, 2) := by decide +kernel
theorem dX12_init_161 : decode cX12_init 161 = .ok (.putfield 73, 3) := by decide +kernel
theorem dX12_init_164 : decode cX12_init 164 = .ok (.iconst 0, 1) := by decide +kernel
theorem dX12_init_165 : decode cX12_init 165 = .ok (.istore_n 1, 1) := by decide +kernel
theorem dX12_init_166 : decode cX12_init 166 = .ok (.iload_n 1, 1) := by decide +kernel
theorem dX12_init_167 : decode cX12_init 167 = .ok (.iconst 4, 1) := by decide +kernel
theorem dX12_init_168 : decode cX12_init 168 = .ok (.if_icmp .ge 16, 3) := by decide +kernel
theorem dX12_init_171 : decode cX12_init 171 = .ok (.aload_n 0, 1) := by decide +kernel
theorem dX12_init_172 : decode cX12_init 172 = .ok (.getfield 7, 3) := by decide +kernel
theorem dX12_init_175 : decode cX12_init 175 = .ok (.iload_n 1, 1) := by decide +kernel
theorem dX12_init_176 : decode cX12_init 176 = .ok (.iconst (-1), 1) := by decide +kernel
theorem dX12_init_177 : decode cX12_init 177 = .ok (.iastore, 1) := by decide +kernel
theorem dX12_init_178 : decode cX12_init 178 = .ok (.iinc 1 1, 3) := by decide +kernel
theorem dX12_init_181 : decode cX12_init 181 = .ok (.goto (-15), 3) := by decide +kernel
theorem dX12_init_184 : decode cX12_init 184 = .ok (.aload_n 0, 1) := by decide +kernel
theorem dX12_init_185 : decode cX12_init 185 = .ok (.getfield 28, 3) := by decide +kernel
theorem dX12_init_188 : decode cX12_init 188 = .ok (.iconst 0, 1) := by decide +kernel
theorem dX12_init_189 : decode cX12_init 189 = .ok (.sipush 400, 3) := by decide +kernel
theorem dX12_init_192 : decode cX12_init 192 = .ok (.iastore, 1) := by decide +kernel
theorem dX12_init_193 : decode cX12_init 193 = .ok (.aload_n 0, 1) := by decide +kernel
theorem dX12_init_194 : decode cX12_init 194 = .ok (.getfield 28, 3) := by decide +kernel
theorem dX12_init_197 : decode cX12_init 197 = .ok (.iconst 1, 1) := by decide +kernel
theorem dX12_init_198 : decode cX12_init 198 = .ok (.sipush 200, 3) := by decide +kernel
theorem dX12_init_201 : decode cX12_init 201 = .ok (.iastore, 1) := by decide +kernel
theorem dX12_init_202 : decode cX12_init 202 = .ok (.aload_n 0, 1) := by decide +kernel
theorem dX12_init_203 : decode cX12_init 203 = .ok (.getfield 28, 3) := by decide +kernel
theorem dX12_init_206 : decode cX12_init 206 = .ok (.iconst 2, 1) := by decide +kernel
theorem dX12_init_207 : decode cX12_init 207 = .ok (.iconst 1, 1) := by decide +kernel
theorem dX12_init_208 : decode cX12_init 208 = .ok (.iastore, 1) := by decide +kernel
theorem dX12_init_209 : decode cX12_init 209 = .ok (.aload_n 0, 1) := by decide +kernel
theorem dX12_init_210 : decode cX12_init 210 = .ok (.getfield 28, 3) := by decide +kernel
theorem dX12_init_213 : decode cX12_init 213 = .ok (.iconst 3, 1) := by decide +kernel
theorem dX12_init_214 : decode cX12_init 214 = .ok (.bipush 20, 2) := by decide +kernel
theorem dX12_init_216 : decode cX12_init 216 = .ok (.iastore, 1) := by decide +kernel
theorem dX12_init_217 : decode cX12_init 217 = .ok (.iconst 0, 1) := by decide +kernel
theorem dX12_init_218 : decode cX12_init 218 = .ok (.istore_n 1, 1) := by decide +kernel
theorem dX12_init_219 : decode cX12_init 219 = .ok (.iload_n 1, 1) := by decide +kernel
theorem dX12_init_220 : decode cX12_init 220 = .ok (.iconst 4, 1) := by decide +kernel
theorem dX12_init_221 : decode cX12_init 221 = .ok (.if_icmp .ge 16, 3) := by decide +kernel
theorem dX12_init_224 : decode cX12_init 224 = .ok (.aload_n 0, 1) := by decide +kernel
theorem dX12_init_225 : decode cX12_init 225 = .ok (.getfield 73, 3) := by decide +kernel
theorem dX12_init_228 : decode cX12_init 228 = .ok (.iload_n 1, 1) := by decide +kernel
theorem dX12_init_229 : decode cX12_init 229 = .ok (.iload_n 1, 1) := by decide +kernel
theorem dX12_init_230 : decode cX12_init 230 = .ok (.iastore, 1) := by decide +kernel
theorem dX12_init_231 : decode cX12_init 231 = .ok (.iinc 1 1, 3) := by decide +kernel
theorem dX12_init_234 : decode cX12_init 234 = .ok (.goto (-15), 3) := by decide +kernel
theorem dX12_init_237 : decode cX12_init 237 = .ok (.return_, 1) := by decide +kernel
theorem dX12_in_0 : decode cX12_in 0 = .ok (.lload_n 0, 1) := by decide +kernel
theorem dX12_in_1 : decode cX12_in 1 = .ok (.lload_n 2, 1) := by decide +kernel
theorem dX12_in_2 : decode cX12_in 2 = .ok (.lcmp, 1) := by decide +kernel
theorem dX12_in_3 : decode cX12_in 3 = .ok (.ifCond .lt 14, 3) := by decide +kernel
theorem dX12_in_6 : decode cX12_in 6 = .ok (.lload_n 0, 1) := by decide +kernel
theorem dX12_in_7 : decode cX12_in 7 = .ok (.lload 4, 2) := by decide +kernel
theorem dX12_in_9 : decode cX12_in 9 = .ok (.lcmp, 1) := by decide +kernel
theorem dX12_in_10 : decode cX12_in 10 = .ok (.ifCond .gt 7, 3) := by decide +kernel
theorem dX12_in_13 : decode cX12_in 13 = .ok (.iconst 1, 1) := by decide +kernel
theorem dX12_in_14 : decode cX12_in 14 = .ok (.goto 4, 3) := by decide +kernel
theorem dX12_in_17 : decode cX12_in 17 = .ok (.iconst 0, 1) := by decide +kernel
theorem dX12_in_18 : decode cX12_in 18 = .ok (.ireturn, 1) := by decide +kernel
theorem dX12_isTwo_0 : decode cX12_isTwo 0 = .ok (.iload_n 0, 1) := by decide +kernel
theorem dX12_isTwo_1 : decode cX12_isTwo 1 = .ok (.i2l, 1) := by decide +kernel
theorem dX12_isTwo_2 : decode cX12_isTwo 2 = .ok (.lconst 0, 1) := by decide +kernel
theorem dX12_isTwo_3 : decode cX12_isTwo 3 = .ok (.lconst 1, 1) := by decide +kernel
theorem dX12_isTwo_4 : decode cX12_isTwo 4 = .ok (.invokestatic 76, 3) := by decide +kernel
theorem dX12_isTwo_7 : decode cX12_isTwo 7 = .ok (.ireturn, 1) := by decide +kernel
theorem dX12_isIn_0 : decode cX12_isIn 0 = .ok (.iload_n 0, 1) := by decide +kernel
theorem dX12_isIn_1 : decode cX12_isIn 1 = .ok (.iload_n 1, 1) := by decide +kernel
theorem dX12_isIn_2 : decode cX12_isIn 2 = .ok (.ishr, 1) := by decide +kernel
theorem dX12_isIn_3 : decode cX12_isIn 3 = .ok (.iconst 1, 1) := by decide +kernel
theorem dX12_isIn_4 : decode cX12_isIn 4 = .ok (.iand, 1) := by decide +kernel
theorem dX12_isIn_5 : decode cX12_isIn 5 = .ok (.iconst 1, 1) := by decide +kernel
theorem dX12_isIn_6 : decode cX12_isIn 6 = .ok (.if_icmp .ne 7, 3) := by decide +kernel
theorem dX12_isIn_9 : decode cX12_isIn 9 = .ok (.iconst 1, 1) := by decide +kernel
theorem dX12_isIn_10 : decode cX12_isIn 10 = .ok (.goto 4, 3) := by decide +kernel
theorem dX12_isIn_13 : decode cX12_isIn 13 = .ok (.iconst 0, 1) := by decide +kernel
theorem dX12_isIn_14 : decode cX12_isIn 14 = .ok (.ireturn, 1) := by decide +kernel
theorem dX12_lesser_0 : decode cX12_lesser 0 = .ok (.iload_n 0, 1) := by decide +kernel
theorem dX12_lesser_1 : decode cX12_lesser 1 = .ok (.iload_n 1, 1) := by decide +kernel
theorem dX12_lesser_2 : decode cX12_lesser 2 = .ok (.if_icmp .ge 7, 3) := by decide +kernel
theorem dX12_lesser_5 : decode cX12_lesser 5 = .ok (.iload_n 0, 1) := by decide +kernel
theorem dX12_lesser_6 : decode cX12_lesser 6 = .ok (.goto 4, 3) := by decide +kernel
theorem dX12_lesser_9 : decode cX12_lesser 9 = .ok (.iload_n 1, 1) := by decide +kernel
theorem dX12_lesser_10 : decode cX12_lesser 10 = .ok (.ireturn, 1) := by decide +kernel
theorem dX12_greater_0 : decode cX12_greater 0 = .ok (.iload_n 0, 1) := by decide +kernel
theorem dX12_greater_1 : decode cX12_greater 1 = .ok (.iload_n 1, 1) := by decide +kernel
theorem dX12_greater_2 : decode cX12_greater 2 = .ok (.if_icmp .le 7, 3) := by decide +kernel
theorem dX12_greater_5 : decode cX12_greater 5 = .ok (.iload_n 0, 1) := by decide +kernel
theorem dX12_greater_6 : decode cX12_greater 6 = .ok (.goto 4, 3) := by decide +kernel
theorem dX12_greater_9 : decode cX12_greater 9 = .ok (.iload_n 1, 1) := by decide +kernel
theorem dX12_greater_10 : decode cX12_greater 10 = .ok (.ireturn, 1) := by decide +kernel
theorem dX12_finds_0 : decode cX12_finds 0 = .ok (.aload_n 0, 1) := by decide +kernel
theorem dX12_finds_1 : decode cX12_finds 1 = .ok (.iload_n 1, 1) := by decide +kernel
theorem dX12_finds_2 : decode cX12_finds 2 = .ok (.putfield 80, 3) := by decide +kernel
theorem dX12_finds_5 : decode cX12_finds 5 = .ok (.bipush (-10), 2) := by decide +kernel
theorem dX12_finds_7 : decode cX12_finds 7 = .ok (.iload_n 1, 1) := by decide +kernel
theorem dX12_finds_8 : decode cX12_finds 8 = .ok (.isub, 1) := by decide +kernel
theorem dX12_finds_9 : decode cX12_finds 9 = .ok (.ireturn, 1) := by decide +kernel
theorem dX12_isSheet_0 : decode cX12_isSheet 0 = .ok (.iload_n 0, 1) := by decide +kernel
theorem dX12_isSheet_1 : decode cX12_isSheet 1 = .ok (.i2l, 1) := by decide +kernel
theorem dX12_isSheet_2 : decode cX12_isSheet 2 = .ok (.lconst 0, 1) := by decide +kernel
theorem dX12_isSheet_3 : decode cX12_isSheet 3 = .ok (.ldc2_w 83, 3) := by decide +kernel
theorem dX12_isSheet_6 : decode cX12_isSheet 6 = .ok (.invokestatic 76, 3) := by decide +kernel
theorem dX12_isSheet_9 : decode cX12_isSheet 9 = .ok (.ireturn, 1) := by decide +kernel
theorem dX12_sheet_0 : decode cX12_sheet 0 = .ok (.iload_n 1, 1) := by decide +kernel
theorem dX12_sheet_1 : decode cX12_sheet 1 = .ok (.invokestatic 85, 3) := by decide +kernel
theorem dX12_sheet_4 : decode cX12_sheet 4 = .ok (.ifCond .eq 21, 3) := by decide +kernel
theorem dX12_sheet_7 : decode cX12_sheet 7 = .ok (.iload_n 2, 1) := by decide +kernel
theorem dX12_sheet_8 : decode cX12_sheet 8 = .ok (.i2l, 1) := by decide +kernel
theorem dX12_sheet_9 : decode cX12_sheet 9 = .ok (.lconst 0, 1) := by decide +kernel
theorem dX12_sheet_10 : decode cX12_sheet 10 = .ok (.ldc2_w 89, 3) := by decide +kernel
theorem dX12_sheet_13 : decode cX12_sheet 13 = .ok (.invokestatic 76, 3) := by decide +kernel
theorem dX12_sheet_16 : decode cX12_sheet 16 = .ok (.ifCond .eq 9, 3) := by decide +kernel
theorem dX12_sheet_19 : decode cX12_sheet 19 = .ok (.iload_n 3, 1) := by decide +kernel
theorem dX12_sheet_20 : decode cX12_sheet 20 = .ok (.bipush 60, 2) := by decide +kernel
theorem dX12_sheet_22 : decode cX12_sheet 22 = .ok (.if_icmp .le 6, 3) := by decide +kernel
theorem dX12_sheet_25 : decode cX12_sheet 25 = .ok (.bipush (-2), 2) := by decide +kernel
theorem dX12_sheet_27 : decode cX12_sheet 27 = .ok (.ireturn, 1) := by decide +kernel
theorem dX12_sheet_28 : decode cX12_sheet 28 = .ok (.iload_n 3, 1) := by decide +kernel
theorem dX12_sheet_29 : decode cX12_sheet 29 = .ok (.ifCond .ge 9, 3) := by decide +kernel
theorem dX12_sheet_32 : decode cX12_sheet 32 = .ok (.aload_n 0, 1) := by decide +kernel
theorem dX12_sheet_33 : decode cX12_sheet 33 = .ok (.iconst 5, 1) := by decide +kernel
theorem dX12_sheet_34 : decode cX12_sheet 34 = .ok (.invokevirtual 91, 3) := by decide +kernel
theorem dX12_sheet_37 : decode cX12_sheet 37 = .ok (.ireturn, 1) := by decide +kernel
theorem dX12_sheet_38 : decode cX12_sheet 38 = .ok (.aload_n 0, 1) := by decide +kernel
theorem dX12_sheet_39 : decode cX12_sheet 39 = .ok (.getfield 7, 3) := by decide +kernel
theorem dX12_sheet_42 : decode cX12_sheet 42 = .ok (.iload_n 1, 1) := by decide +kernel
theorem dX12_sheet_43 : decode cX12_sheet 43 = .ok (.iload_n 2, 1) := by decide +kernel
theorem dX12_sheet_44 : decode cX12_sheet 44 = .ok (.iastore, 1) := by decide +kernel
theorem dX12_sheet_45 : decode cX12_sheet 45 = .ok (.aload_n 0, 1) := by decide +kernel
theorem dX12_sheet_46 : decode cX12_sheet 46 = .ok (.getfield 13, 3) := by decide +kernel
theorem dX12_sheet_49 : decode cX12_sheet 49 = .ok (.iload_n 1, 1) := by decide +kernel
theorem dX12_sheet_50 : decode cX12_sheet 50 = .ok (.iload_n 3, 1) := by decide +kernel
theorem dX12_sheet_51 : decode cX12_sheet 51 = .ok (.iastore, 1) := by decide +kernel
theorem dX12_sheet_52 : decode cX12_sheet 52 = .ok (.iconst 0, 1) := by decide +kernel
theorem dX12_sheet_53 : decode cX12_sheet 53 = .ok (.istore 4, 2) := by decide +kernel
theorem dX12_sheet_55 : decode cX12_sheet 55 = .ok (.iload 4, 2) := by decide +kernel
theorem dX12_sheet_57 : decode cX12_sheet 57 = .ok (.iload_n 3, 1) := by decide +kernel
theorem dX12_sheet_58 : decode cX12_sheet 58 = .ok (.if_icmp .ge 22, 3) := by decide +kernel
theorem dX12_sheet_61 : decode cX12_sheet 61 = .ok (.aload_n 0, 1) := by decide +kernel
theorem dX12_sheet_62 : decode cX12_sheet 62 = .ok (.getfield 16, 3) := by decide +kernel
theorem dX12_sheet_65 : decode cX12_sheet 65 = .ok (.bipush 60, 2) := by decide +kernel
theorem dX12_sheet_67 : decode cX12_sheet 67 = .ok (.iload_n 1, 1) := by decide +kernel
theorem dX12_sheet_68 : decode cX12_sheet 68 = .ok (.imul, 1) := by decide +kernel
theorem dX12_sheet_69 : decode cX12_sheet 69 = .ok (.iload 4, 2) := by decide +kernel
theorem dX12_sheet_71 : decode cX12_sheet 71 = .ok (.iadd, 1) := by decide +kernel
theorem dX12_sheet_72 : decode cX12_sheet 72 = .ok (.iconst 0, 1) := by decide +kernel
theorem dX12_sheet_73 : decode cX12_sheet 73 = .ok (.iastore, 1) := by decide +kernel
theorem dX12_sheet_74 : decode cX12_sheet 74 = .ok (.iinc 4 1, 3) := by decide +kernel
theorem dX12_sheet_77 : decode cX12_sheet 77 = .ok (.goto (-22), 3) := by decide +kernel
theorem dX12_sheet_80 : decode cX12_sheet 80 = .ok (.iload_n 3, 1) := by decide +kernel
theorem dX12_sheet_81 : decode cX12_sheet 81 = .ok (.ireturn, 1) := by decide +kernel
theorem dX12_lose_0 : decode cX12_lose 0 = .ok (.iload_n 1, 1) := by decide +kernel
theorem dX12_lose_1 : decode cX12_lose 1 = .ok (.invokestatic 85, 3) := by decide +kernel
theorem dX12_lose_4 : decode cX12_lose 4 = .ok (.ifCond .ne 6, 3) := by decide +kernel
theorem dX12_lose_7 : decode cX12_lose 7 = .ok (.bipush (-2), 2) := by decide +kernel
theorem dX12_lose_9 : decode cX12_lose 9 = .ok (.ireturn, 1) := by decide +kernel
theorem dX12_lose_10 : decode cX12_lose 10 = .ok (.aload_n 0, 1) := by decide +kernel
theorem dX12_lose_11 : decode cX12_lose 11 = .ok (.getfield 7, 3) := by decide +kernel
theorem dX12_lose_14 : decode cX12_lose 14 = .ok (.iload_n 1, 1) := by decide +kernel
theorem dX12_lose_15 : decode cX12_lose 15 = .ok (.iaload, 1) := by decide +kernel
theorem dX12_lose_16 : decode cX12_lose 16 = .ok (.ifCond .ge 9, 3) := by decide +kernel
theorem dX12_lose_19 : decode cX12_lose 19 = .ok (.aload_n 0, 1) := by decide +kernel
theorem dX12_lose_20 : decode cX12_lose 20 = .ok (.iconst 1, 1) := by decide +kernel
theorem dX12_lose_21 : decode cX12_lose 21 = .ok (.invokevirtual 91, 3) := by decide +kernel
theorem dX12_lose_24 : decode cX12_lose 24 = .ok (.ireturn, 1) := by decide +kernel
theorem dX12_lose_25 : decode cX12_lose 25 = .ok (.aload_n 0, 1) := by decide +kernel
theorem dX12_lose_26 : decode cX12_lose 26 = .ok (.getfield 7, 3) := by decide +kernel
theorem dX12_lose_29 : decode cX12_lose 29 = .ok (.iload_n 1, 1) := by decide +kernel
theorem dX12_lose_30 : decode cX12_lose 30 = .ok (.iconst (-1), 1) := by decide +kernel
theorem dX12_lose_31 : decode cX12_lose 31 = .ok (.iastore, 1) := by decide +kernel
theorem dX12_lose_32 : decode cX12_lose 32 = .ok (.aload_n 0, 1) := by decide +kernel
theorem dX12_lose_33 : decode cX12_lose 33 = .ok (.getfield 13, 3) := by decide +kernel
theorem dX12_lose_36 : decode cX12_lose 36 = .ok (.iload_n 1, 1) := by decide +kernel
theorem dX12_lose_37 : decode cX12_lose 37 = .ok (.iaload, 1) := by decide +kernel
theorem dX12_lose_38 : decode cX12_lose 38 = .ok (.ireturn, 1) := by decide +kernel
theorem dX12_lacks_0 : decode cX12_lacks 0 = .ok (.aload_n 0, 1) := by decide +kernel
theorem dX12_lacks_1 : decode cX12_lacks 1 = .ok (.getfield 7, 3) := by decide +kernel
theorem dX12_lacks_4 : decode cX12_lacks 4 = .ok (.iload_n 1, 1) := by decide +kernel
theorem dX12_lacks_5 : decode cX12_lacks 5 = .ok (.iaload, 1) := by decide +kernel
theorem dX12_lacks_6 : decode cX12_lacks 6 = .ok (.ifCond .ge 9, 3) := by decide +kernel
theorem dX12_lacks_9 : decode cX12_lacks 9 = .ok (.aload_n 0, 1) := by decide +kernel
theorem dX12_lacks_10 : decode cX12_lacks 10 = .ok (.iconst 1, 1) := by decide +kernel
theorem dX12_lacks_11 : decode cX12_lacks 11 = .ok (.invokevirtual 91, 3) := by decide +kernel
theorem dX12_lacks_14 : decode cX12_lacks 14 = .ok (.ireturn, 1) := by decide +kernel
theorem dX12_lacks_15 : decode cX12_lacks 15 = .ok (.aload_n 0, 1) := by decide +kernel
theorem dX12_lacks_16 : decode cX12_lacks 16 = .ok (.getfield 7, 3) := by decide +kernel
theorem dX12_lacks_19 : decode cX12_lacks 19 = .ok (.iload_n 1, 1) := by decide +kernel
theorem dX12_lacks_20 : decode cX12_lacks 20 = .ok (.iaload, 1) := by decide +kernel
theorem dX12_lacks_21 : decode cX12_lacks 21 = .ok (.iload_n 2, 1) := by decide +kernel
theorem dX12_lacks_22 : decode cX12_lacks 22 = .ok (.if_icmp .eq 9, 3) := by decide +kernel
theorem dX12_lacks_25 : decode cX12_lacks 25 = .ok (.aload_n 0, 1) := by decide +kernel
theorem dX12_lacks_26 : decode cX12_lacks 26 = .ok (.iconst 3, 1) := by decide +kernel
theorem dX12_lacks_27 : decode cX12_lacks 27 = .ok (.invokevirtual 91, 3) := by decide +kernel
theorem dX12_lacks_30 : decode cX12_lacks 30 = .ok (.ireturn, 1) := by decide +kernel
theorem dX12_lacks_31 : decode cX12_lacks 31 = .ok (.iload_n 3, 1) := by decide +kernel
theorem dX12_lacks_32 : decode cX12_lacks 32 = .ok (.i2l, 1) := by decide +kernel
theorem dX12_lacks_33 : decode cX12_lacks 33 = .ok (.lconst 0, 1) := by decide +kernel
theorem dX12_lacks_34 : decode cX12_lacks 34 = .ok (.aload_n 0, 1) := by decide +kernel
theorem dX12_lacks_35 : decode cX12_lacks 35 = .ok (.getfield 13, 3) := by decide +kernel
theorem dX12_lacks_38 : decode cX12_lacks 38 = .ok (.iload_n 1, 1) := by decide +kernel
theorem dX12_lacks_39 : decode cX12_lacks 39 = .ok (.iaload, 1) := by decide +kernel
theorem dX12_lacks_40 : decode cX12_lacks 40 = .ok (.iconst 1, 1) := by decide +kernel
theorem dX12_lacks_41 : decode cX12_lacks 41 = .ok (.isub, 1) := by decide +kernel
theorem dX12_lacks_42 : decode cX12_lacks 42 = .ok (.i2l, 1) := by decide +kernel
theorem dX12_lacks_43 : decode cX12_lacks 43 = .ok (.invokestatic 76, 3) := by decide +kernel
theorem dX12_lacks_46 : decode cX12_lacks 46 = .ok (.ifCond .eq 7, 3) := by decide +kernel
theorem dX12_lacks_49 : decode cX12_lacks 49 = .ok (.iconst 0, 1) := by decide +kernel
theorem dX12_lacks_50 : decode cX12_lacks 50 = .ok (.goto 8, 3) := by decide +kernel
theorem dX12_lacks_53 : decode cX12_lacks 53 = .ok (.aload_n 0, 1) := by decide +kernel
theorem dX12_lacks_54 : decode cX12_lacks 54 = .ok (.iconst 2, 1) := by decide +kernel
theorem dX12_lacks_55 : decode cX12_lacks 55 = .ok (.invokevirtual 91, 3) := by decide +kernel
theorem dX12_lacks_58 : decode cX12_lacks 58 = .ok (.ireturn, 1) := by decide +kernel
theorem dX12_cut_0 : decode cX12_cut 0 = .ok (.iload_n 0, 1) := by decide +kernel
theorem dX12_cut_1 : decode cX12_cut 1 = .ok (.ifCond .ne 8, 3) := by decide +kernel
theorem dX12_cut_4 : decode cX12_cut 4 = .ok (.iload_n 1, 1) := by decide +kernel
theorem dX12_cut_5 : decode cX12_cut 5 = .ok (.i2b, 1) := by decide +kernel
theorem dX12_cut_6 : decode cX12_cut 6 = .ok (.goto 14, 3) := by decide +kernel
theorem dX12_cut_9 : decode cX12_cut 9 = .ok (.iload_n 0, 1) := by decide +kernel
theorem dX12_cut_10 : decode cX12_cut 10 = .ok (.iconst 1, 1) := by decide +kernel
theorem dX12_cut_11 : decode cX12_cut 11 = .ok (.if_icmp .ne 8, 3) := by decide +kernel
theorem dX12_cut_14 : decode cX12_cut 14 = .ok (.iload_n 1, 1) := by decide +kernel
theorem dX12_cut_15 : decode cX12_cut 15 = .ok (.i2s, 1) := by decide +kernel
theorem dX12_cut_16 : decode cX12_cut 16 = .ok (.goto 4, 3) := by decide +kernel
theorem dX12_cut_19 : decode cX12_cut 19 = .ok (.iload_n 1, 1) := by decide +kernel
theorem dX12_cut_20 : decode cX12_cut 20 = .ok (.ireturn, 1) := by decide +kernel
theorem dX12_lay_0 : decode cX12_lay 0 = .ok (.iload_n 1, 1) := by decide +kernel
theorem dX12_lay_1 : decode cX12_lay 1 = .ok (.invokestatic 85, 3) := by decide +kernel
theorem dX12_lay_4 : decode cX12_lay 4 = .ok (.ifCond .eq 15, 3) := by decide +kernel
theorem dX12_lay_7 : decode cX12_lay 7 = .ok (.iload_n 2, 1) := by decide +kernel
theorem dX12_lay_8 : decode cX12_lay 8 = .ok (.i2l, 1) := by decide +kernel
theorem dX12_lay_9 : decode cX12_lay 9 = .ok (.lconst 0, 1) := by decide +kernel
theorem dX12_lay_10 : decode cX12_lay 10 = .ok (.ldc2_w 89, 3) := by decide +kernel
theorem dX12_lay_13 : decode cX12_lay 13 = .ok (.invokestatic 76, 3) := by decide +kernel
theorem dX12_lay_16 : decode cX12_lay 16 = .ok (.ifCond .ne 6, 3) := by decide +kernel
theorem dX12_lay_19 : decode cX12_lay 19 = .ok (.bipush (-2), 2) := by decide +kernel
theorem dX12_lay_21 : decode cX12_lay 21 = .ok (.ireturn, 1) := by decide +kernel
theorem dX12_lay_22 : decode cX12_lay 22 = .ok (.aload_n 0, 1) := by decide +kernel
theorem dX12_lay_23 : decode cX12_lay 23 = .ok (.iload_n 1, 1) := by decide +kernel
theorem dX12_lay_24 : decode cX12_lay 24 = .ok (.iload_n 2, 1) := by decide +kernel
theorem dX12_lay_25 : decode cX12_lay 25 = .ok (.iload_n 3, 1) := by decide +kernel
theorem dX12_lay_26 : decode cX12_lay 26 = .ok (.invokevirtual 95, 3) := by decide +kernel
theorem dX12_lay_29 : decode cX12_lay 29 = .ok (.istore 5, 2) := by decide +kernel
theorem dX12_lay_31 : decode cX12_lay 31 = .ok (.iload 5, 2) := by decide +kernel
theorem dX12_lay_33 : decode cX12_lay 33 = .ok (.ifCond .eq 6, 3) := by decide +kernel
theorem dX12_lay_36 : decode cX12_lay 36 = .ok (.iload 5, 2) := by decide +kernel
theorem dX12_lay_38 : decode cX12_lay 38 = .ok (.ireturn, 1) := by decide +kernel
theorem dX12_lay_39 : decode cX12_lay 39 = .ok (.aload_n 0, 1) := by decide +kernel
theorem dX12_lay_40 : decode cX12_lay 40 = .ok (.getfield 16, 3) := by decide +kernel
theorem dX12_lay_43 : decode cX12_lay 43 = .ok (.bipush 60, 2) := by decide +kernel
theorem dX12_lay_45 : decode cX12_lay 45 = .ok (.iload_n 1, 1) := by decide +kernel
theorem dX12_lay_46 : decode cX12_lay 46 = .ok (.imul, 1) := by decide +kernel
theorem dX12_lay_47 : decode cX12_lay 47 = .ok (.iload_n 3, 1) := by decide +kernel
theorem dX12_lay_48 : decode cX12_lay 48 = .ok (.iadd, 1) := by decide +kernel
theorem dX12_lay_49 : decode cX12_lay 49 = .ok (.iload_n 2, 1) := by decide +kernel
theorem dX12_lay_50 : decode cX12_lay 50 = .ok (.iload 4, 2) := by decide +kernel
theorem dX12_lay_52 : decode cX12_lay 52 = .ok (.invokestatic 99, 3) := by decide +kernel
theorem dX12_lay_55 : decode cX12_lay 55 = .ok (.iastore, 1) := by decide +kernel
theorem dX12_lay_56 : decode cX12_lay 56 = .ok (.iconst 1, 1) := by decide +kernel
theorem dX12_lay_57 : decode cX12_lay 57 = .ok (.ireturn, 1) := by decide +kernel
theorem dX12_get_0 : decode cX12_get 0 = .ok (.iload_n 1, 1) := by decide +kernel
theorem dX12_get_1 : decode cX12_get 1 = .ok (.invokestatic 85, 3) := by decide +kernel
theorem dX12_get_4 : decode cX12_get 4 = .ok (.ifCond .eq 25, 3) := by decide +kernel
theorem dX12_get_7 : decode cX12_get 7 = .ok (.iload_n 2, 1) := by decide +kernel
theorem dX12_get_8 : decode cX12_get 8 = .ok (.i2l, 1) := by decide +kernel
theorem dX12_get_9 : decode cX12_get 9 = .ok (.lconst 0, 1) := by decide +kernel
theorem dX12_get_10 : decode cX12_get 10 = .ok (.ldc2_w 89, 3) := by decide +kernel
theorem dX12_get_13 : decode cX12_get 13 = .ok (.invokestatic 76, 3) := by decide +kernel
theorem dX12_get_16 : decode cX12_get 16 = .ok (.ifCond .eq 13, 3) := by decide +kernel
theorem dX12_get_19 : decode cX12_get 19 = .ok (.aload_n 0, 1) := by decide +kernel
theorem dX12_get_20 : decode cX12_get 20 = .ok (.iload_n 1, 1) := by decide +kernel
theorem dX12_get_21 : decode cX12_get 21 = .ok (.iload_n 2, 1) := by decide +kernel
theorem dX12_get_22 : decode cX12_get 22 = .ok (.iload_n 3, 1) := by decide +kernel
theorem dX12_get_23 : decode cX12_get 23 = .ok (.invokevirtual 95, 3) := by decide +kernel
theorem dX12_get_26 : decode cX12_get 26 = .ok (.ifCond .eq 6, 3) := by decide +kernel
theorem dX12_get_29 : decode cX12_get 29 = .ok (.ldc 103, 2) := by decide +kernel
theorem dX12_get_31 : decode cX12_get 31 = .ok (.ireturn, 1) := by decide +kernel
theorem dX12_get_32 : decode cX12_get 32 = .ok (.aload_n 0, 1) := by decide +kernel
theorem dX12_get_33 : decode cX12_get 33 = .ok (.getfield 16, 3) := by decide +kernel
theorem dX12_get_36 : decode cX12_get 36 = .ok (.bipush 60, 2) := by decide +kernel
theorem dX12_get_38 : decode cX12_get 38 = .ok (.iload_n 1, 1) := by decide +kernel
theorem dX12_get_39 : decode cX12_get 39 = .ok (.imul, 1) := by decide +kernel
theorem dX12_get_40 : decode cX12_get 40 = .ok (.iload_n 3, 1) := by decide +kernel
theorem dX12_get_41 : decode cX12_get 41 = .ok (.iadd, 1) := by decide +kernel
theorem dX12_get_42 : decode cX12_get 42 = .ok (.iaload, 1) := by decide +kernel
theorem dX12_get_43 : decode cX12_get 43 = .ok (.ireturn, 1) := by decide +kernel
theorem dX12_copy_0 : decode cX12_copy 0 = .ok (.iload_n 1, 1) := by decide +kernel
theorem dX12_copy_1 : decode cX12_copy 1 = .ok (.invokestatic 85, 3) := by decide +kernel
theorem dX12_copy_4 : decode cX12_copy 4 = .ok (.ifCond .eq 10, 3) := by decide +kernel
theorem dX12_copy_7 : decode cX12_copy 7 = .ok (.iload_n 3, 1) := by decide +kernel
theorem dX12_copy_8 : decode cX12_copy 8 = .ok (.invokestatic 85, 3) := by decide +kernel
theorem dX12_copy_11 : decode cX12_copy 11 = .ok (.ifCond .ne 6, 3) := by decide +kernel
theorem dX12_copy_14 : decode cX12_copy 14 = .ok (.bipush (-2), 2) := by decide +kernel
theorem dX12_copy_16 : decode cX12_copy 16 = .ok (.ireturn, 1) := by decide +kernel
theorem dX12_copy_17 : decode cX12_copy 17 = .ok (.aload_n 0, 1) := by decide +kernel
theorem dX12_copy_18 : decode cX12_copy 18 = .ok (.getfield 7, 3) := by decide +kernel
theorem dX12_copy_21 : decode cX12_copy 21 = .ok (.iload_n 1, 1) := by decide +kernel
theorem dX12_copy_22 : decode cX12_copy 22 = .ok (.iaload, 1) := by decide +kernel
theorem dX12_copy_23 : decode cX12_copy 23 = .ok (.ifCond .lt 12, 3) := by decide +kernel
theorem dX12_copy_26 : decode cX12_copy 26 = .ok (.aload_n 0, 1) := by decide +kernel
theorem dX12_copy_27 : decode cX12_copy 27 = .ok (.getfield 7, 3) := by decide +kernel
theorem dX12_copy_30 : decode cX12_copy 30 = .ok (.iload_n 3, 1) := by decide +kernel
theorem dX12_copy_31 : decode cX12_copy 31 = .ok (.iaload, 1) := by decide +kernel
theorem dX12_copy_32 : decode cX12_copy 32 = .ok (.ifCond .ge 9, 3) := by decide +kernel
theorem dX12_copy_35 : decode cX12_copy 35 = .ok (.aload_n 0, 1) := by decide +kernel
theorem dX12_copy_36 : decode cX12_copy 36 = .ok (.iconst 1, 1) := by decide +kernel
theorem dX12_copy_37 : decode cX12_copy 37 = .ok (.invokevirtual 91, 3) := by decide +kernel
theorem dX12_copy_40 : decode cX12_copy 40 = .ok (.ireturn, 1) := by decide +kernel
theorem dX12_copy_41 : decode cX12_copy 41 = .ok (.aload_n 0, 1) := by decide +kernel
theorem dX12_copy_42 : decode cX12_copy 42 = .ok (.getfield 7, 3) := by decide +kernel
theorem dX12_copy_45 : decode cX12_copy 45 = .ok (.iload_n 1, 1) := by decide +kernel
theorem dX12_copy_46 : decode cX12_copy 46 = .ok (.iaload, 1) := by decide +kernel
theorem dX12_copy_47 : decode cX12_copy 47 = .ok (.aload_n 0, 1) := by decide +kernel
theorem dX12_copy_48 : decode cX12_copy 48 = .ok (.getfield 7, 3) := by decide +kernel
theorem dX12_copy_51 : decode cX12_copy 51 = .ok (.iload_n 3, 1) := by decide +kernel
theorem dX12_copy_52 : decode cX12_copy 52 = .ok (.iaload, 1) := by decide +kernel
theorem dX12_copy_53 : decode cX12_copy 53 = .ok (.if_icmp .eq 9, 3) := by decide +kernel
theorem dX12_copy_56 : decode cX12_copy 56 = .ok (.aload_n 0, 1) := by decide +kernel
theorem dX12_copy_57 : decode cX12_copy 57 = .ok (.iconst 4, 1) := by decide +kernel
theorem dX12_copy_58 : decode cX12_copy 58 = .ok (.invokevirtual 91, 3) := by decide +kernel
theorem dX12_copy_61 : decode cX12_copy 61 = .ok (.ireturn, 1) := by decide +kernel
theorem dX12_copy_62 : decode cX12_copy 62 = .ok (.iload_n 2, 1) := by decide +kernel
theorem dX12_copy_63 : decode cX12_copy 63 = .ok (.ifCond .lt 48, 3) := by decide +kernel
theorem dX12_copy_66 : decode cX12_copy 66 = .ok (.iload 4, 2) := by decide +kernel
theorem dX12_copy_68 : decode cX12_copy 68 = .ok (.ifCond .lt 43, 3) := by decide +kernel
theorem dX12_copy_71 : decode cX12_copy 71 = .ok (.iload 5, 2) := by decide +kernel
theorem dX12_copy_73 : decode cX12_copy 73 = .ok (.ifCond .lt 38, 3) := by decide +kernel
theorem dX12_copy_76 : decode cX12_copy 76 = .ok (.iload_n 2, 1) := by decide +kernel
theorem dX12_copy_77 : decode cX12_copy 77 = .ok (.i2l, 1) := by decide +kernel
theorem dX12_copy_78 : decode cX12_copy 78 = .ok (.iload 5, 2) := by decide +kernel
theorem dX12_copy_80 : decode cX12_copy 80 = .ok (.i2l, 1) := by decide +kernel
theorem dX12_copy_81 : decode cX12_copy 81 = .ok (.ladd, 1) := by decide +kernel
theorem dX12_copy_82 : decode cX12_copy 82 = .ok (.aload_n 0, 1) := by decide +kernel
theorem dX12_copy_83 : decode cX12_copy 83 = .ok (.getfield 13, 3) := by decide +kernel
theorem dX12_copy_86 : decode cX12_copy 86 = .ok (.iload_n 1, 1) := by decide +kernel
theorem dX12_copy_87 : decode cX12_copy 87 = .ok (.iaload, 1) := by decide +kernel
theorem dX12_copy_88 : decode cX12_copy 88 = .ok (.i2l, 1) := by decide +kernel
theorem dX12_copy_89 : decode cX12_copy 89 = .ok (.lcmp, 1) := by decide +kernel
theorem dX12_copy_90 : decode cX12_copy 90 = .ok (.ifCond .gt 21, 3) := by decide +kernel
theorem dX12_copy_93 : decode cX12_copy 93 = .ok (.iload 4, 2) := by decide +kernel
theorem dX12_copy_95 : decode cX12_copy 95 = .ok (.i2l, 1) := by decide +kernel
theorem dX12_copy_96 : decode cX12_copy 96 = .ok (.iload 5, 2) := by decide +kernel
theorem dX12_copy_98 : decode cX12_copy 98 = .ok (.i2l, 1) := by decide +kernel
theorem dX12_copy_99 : decode cX12_copy 99 = .ok (.ladd, 1) := by decide +kernel
theorem dX12_copy_100 : decode cX12_copy 100 = .ok (.aload_n 0, 1) := by decide +kernel
theorem dX12_copy_101 : decode cX12_copy 101 = .ok (.getfield 13, 3) := by decide +kernel
theorem dX12_copy_104 : decode cX12_copy 104 = .ok (.iload_n 3, 1) := by decide +kernel
theorem dX12_copy_105 : decode cX12_copy 105 = .ok (.iaload, 1) := by decide +kernel
theorem dX12_copy_106 : decode cX12_copy 106 = .ok (.i2l, 1) := by decide +kernel
theorem dX12_copy_107 : decode cX12_copy 107 = .ok (.lcmp, 1) := by decide +kernel
theorem dX12_copy_108 : decode cX12_copy 108 = .ok (.ifCond .le 9, 3) := by decide +kernel
theorem dX12_copy_111 : decode cX12_copy 111 = .ok (.aload_n 0, 1) := by decide +kernel
theorem dX12_copy_112 : decode cX12_copy 112 = .ok (.iconst 2, 1) := by decide +kernel
theorem dX12_copy_113 : decode cX12_copy 113 = .ok (.invokevirtual 91, 3) := by decide +kernel
theorem dX12_copy_116 : decode cX12_copy 116 = .ok (.ireturn, 1) := by decide +kernel
theorem dX12_copy_117 : decode cX12_copy 117 = .ok (.iconst 0, 1) := by decide +kernel
theorem dX12_copy_118 : decode cX12_copy 118 = .ok (.istore 6, 2) := by decide +kernel
theorem dX12_copy_120 : decode cX12_copy 120 = .ok (.iload 6, 2) := by decide +kernel
theorem dX12_copy_122 : decode cX12_copy 122 = .ok (.iload 5, 2) := by decide +kernel
theorem dX12_copy_124 : decode cX12_copy 124 = .ok (.if_icmp .ge 30, 3) := by decide +kernel
theorem dX12_copy_127 : decode cX12_copy 127 = .ok (.aload_n 0, 1) := by decide +kernel
theorem dX12_copy_128 : decode cX12_copy 128 = .ok (.getfield 19, 3) := by decide +kernel
theorem dX12_copy_131 : decode cX12_copy 131 = .ok (.iload 6, 2) := by decide +kernel
theorem dX12_copy_133 : decode cX12_copy 133 = .ok (.aload_n 0, 1) := by decide +kernel
theorem dX12_copy_134 : decode cX12_copy 134 = .ok (.getfield 16, 3) := by decide +kernel
theorem dX12_copy_137 : decode cX12_copy 137 = .ok (.bipush 60, 2) := by decide +kernel
theorem dX12_copy_139 : decode cX12_copy 139 = .ok (.iload_n 1, 1) := by decide +kernel
theorem dX12_copy_140 : decode cX12_copy 140 = .ok (.imul, 1) := by decide +kernel
theorem dX12_copy_141 : decode cX12_copy 141 = .ok (.iload_n 2, 1) := by decide +kernel
theorem dX12_copy_142 : decode cX12_copy 142 = .ok (.iadd, 1) := by decide +kernel
theorem dX12_copy_143 : decode cX12_copy 143 = .ok (.iload 6, 2) := by decide +kernel
theorem dX12_copy_145 : decode cX12_copy 145 = .ok (.iadd, 1) := by decide +kernel
theorem dX12_copy_146 : decode cX12_copy 146 = .ok (.iaload, 1) := by decide +kernel
theorem dX12_copy_147 : decode cX12_copy 147 = .ok (.iastore, 1) := by decide +kernel
theorem dX12_copy_148 : decode cX12_copy 148 = .ok (.iinc 6 1, 3) := by decide +kernel
theorem dX12_copy_151 : decode cX12_copy 151 = .ok (.goto (-31), 3) := by decide +kernel
theorem dX12_copy_154 : decode cX12_copy 154 = .ok (.iconst 0, 1) := by decide +kernel
theorem dX12_copy_155 : decode cX12_copy 155 = .ok (.istore 6, 2) := by decide +kernel
theorem dX12_copy_157 : decode cX12_copy 157 = .ok (.iload 6, 2) := by decide +kernel
theorem dX12_copy_159 : decode cX12_copy 159 = .ok (.iload 5, 2) := by decide +kernel
theorem dX12_copy_161 : decode cX12_copy 161 = .ok (.if_icmp .ge 31, 3) := by decide +kernel
theorem dX12_copy_164 : decode cX12_copy 164 = .ok (.aload_n 0, 1) := by decide +kernel
theorem dX12_copy_165 : decode cX12_copy 165 = .ok (.getfield 16, 3) := by decide +kernel
theorem dX12_copy_168 : decode cX12_copy 168 = .ok (.bipush 60, 2) := by decide +kernel
theorem dX12_copy_170 : decode cX12_copy 170 = .ok (.iload_n 3, 1) := by decide +kernel
theorem dX12_copy_171 : decode cX12_copy 171 = .ok (.imul, 1) := by decide +kernel
theorem dX12_copy_172 : decode cX12_copy 172 = .ok (.iload 4, 2) := by decide +kernel
theorem dX12_copy_174 : decode cX12_copy 174 = .ok (.iadd, 1) := by decide +kernel
theorem dX12_copy_175 : decode cX12_copy 175 = .ok (.iload 6, 2) := by decide +kernel
theorem dX12_copy_177 : decode cX12_copy 177 = .ok (.iadd, 1) := by decide +kernel
theorem dX12_copy_178 : decode cX12_copy 178 = .ok (.aload_n 0, 1) := by decide +kernel
theorem dX12_copy_179 : decode cX12_copy 179 = .ok (.getfield 19, 3) := by decide +kernel
theorem dX12_copy_182 : decode cX12_copy 182 = .ok (.iload 6, 2) := by decide +kernel
theorem dX12_copy_184 : decode cX12_copy 184 = .ok (.iaload, 1) := by decide +kernel
theorem dX12_copy_185 : decode cX12_copy 185 = .ok (.iastore, 1) := by decide +kernel
theorem dX12_copy_186 : decode cX12_copy 186 = .ok (.iinc 6 1, 3) := by decide +kernel
theorem dX12_copy_189 : decode cX12_copy 189 = .ok (.goto (-32), 3) := by decide +kernel
theorem dX12_copy_192 : decode cX12_copy 192 = .ok (.iconst 1, 1) := by decide +kernel
theorem dX12_copy_193 : decode cX12_copy 193 = .ok (.ireturn, 1) := by decide +kernel
theorem dX12_isDirection_0 : decode cX12_isDirection 0 = .ok (.iload_n 0, 1) := by decide +kernel
theorem dX12_isDirection_1 : decode cX12_isDirection 1 = .ok (.i2l, 1) := by decide +kernel
theorem dX12_isDirection_2 : decode cX12_isDirection 2 = .ok (.ldc2_w 104, 3) := by decide +kernel
theorem dX12_isDirection_5 : decode cX12_isDirection 5 = .ok (.ldc2_w 106, 3) := by decide +kernel
theorem dX12_isDirection_8 : decode cX12_isDirection 8 = .ok (.invokestatic 76, 3) := by decide +kernel
theorem dX12_isDirection_11 : decode cX12_isDirection 11 = .ok (.ifCond .eq 47, 3) := by decide +kernel
theorem dX12_isDirection_14 : decode cX12_isDirection 14 = .ok (.iload_n 1, 1) := by decide +kernel
theorem dX12_isDirection_15 : decode cX12_isDirection 15 = .ok (.i2l, 1) := by decide +kernel
theorem dX12_isDirection_16 : decode cX12_isDirection 16 = .ok (.ldc2_w 104, 3) := by decide +kernel
theorem dX12_isDirection_19 : decode cX12_isDirection 19 = .ok (.ldc2_w 106, 3) := by decide +kernel
theorem dX12_isDirection_22 : decode cX12_isDirection 22 = .ok (.invokestatic 76, 3) := by decide +kernel
theorem dX12_isDirection_25 : decode cX12_isDirection 25 = .ok (.ifCond .eq 33, 3) := by decide +kernel
theorem dX12_isDirection_28 : decode cX12_isDirection 28 = .ok (.iload_n 2, 1) := by decide +kernel
theorem dX12_isDirection_29 : decode cX12_isDirection 29 = .ok (.i2l, 1) := by decide +kernel
theorem dX12_isDirection_30 : decode cX12_isDirection 30 = .ok (.ldc2_w 104, 3) := by decide +kernel
theorem dX12_isDirection_33 : decode cX12_isDirection 33 = .ok (.ldc2_w 106, 3) := by decide +kernel
theorem dX12_isDirection_36 : decode cX12_isDirection 36 = .ok (.invokestatic 76, 3) := by decide +kernel
theorem dX12_isDirection_39 : decode cX12_isDirection 39 = .ok (.ifCond .eq 19, 3) := by decide +kernel
theorem dX12_isDirection_42 : decode cX12_isDirection 42 = .ok (.iload_n 0, 1) := by decide +kernel
theorem dX12_isDirection_43 : decode cX12_isDirection 43 = .ok (.ifCond .ne 11, 3) := by decide +kernel
theorem dX12_isDirection_46 : decode cX12_isDirection 46 = .ok (.iload_n 1, 1) := by decide +kernel
theorem dX12_isDirection_47 : decode cX12_isDirection 47 = .ok (.ifCond .ne 7, 3) := by decide +kernel
theorem dX12_isDirection_50 : decode cX12_isDirection 50 = .ok (.iload_n 2, 1) := by decide +kernel
theorem dX12_isDirection_51 : decode cX12_isDirection 51 = .ok (.ifCond .eq 7, 3) := by decide +kernel
theorem dX12_isDirection_54 : decode cX12_isDirection 54 = .ok (.iconst 1, 1) := by decide +kernel
theorem dX12_isDirection_55 : decode cX12_isDirection 55 = .ok (.goto 4, 3) := by decide +kernel
theorem dX12_isDirection_58 : decode cX12_isDirection 58 = .ok (.iconst 0, 1) := by decide +kernel
theorem dX12_isDirection_59 : decode cX12_isDirection 59 = .ok (.ireturn, 1) := by decide +kernel
theorem dX12_most_0 : decode cX12_most 0 = .ok (.iload_n 0, 1) := by decide +kernel
theorem dX12_most_1 : decode cX12_most 1 = .ok (.ifCond .ne 8, 3) := by decide +kernel
theorem dX12_most_4 : decode cX12_most 4 = .ok (.bipush 12, 2) := by decide +kernel
theorem dX12_most_6 : decode cX12_most 6 = .ok (.goto 5, 3) := by decide +kernel
theorem dX12_most_9 : decode cX12_most 9 = .ok (.bipush 8, 2) := by decide +kernel
theorem dX12_most_11 : decode cX12_most 11 = .ok (.ireturn, 1) := by decide +kernel
theorem dX12_lays_0 : decode cX12_lays 0 = .ok (.aload_n 0, 1) := by decide +kernel
theorem dX12_lays_1 : decode cX12_lays 1 = .ok (.getfield 22, 3) := by decide +kernel
theorem dX12_lays_4 : decode cX12_lays 4 = .ok (.bipush 36, 2) := by decide +kernel
theorem dX12_lays_6 : decode cX12_lays 6 = .ok (.iload_n 1, 1) := by decide +kernel
theorem dX12_lays_7 : decode cX12_lays 7 = .ok (.imul, 1) := by decide +kernel
theorem dX12_lays_8 : decode cX12_lays 8 = .ok (.iconst 3, 1) := by decide +kernel
theorem dX12_lays_9 : decode cX12_lays 9 = .ok (.iload_n 2, 1) := by decide +kernel
theorem dX12_lays_10 : decode cX12_lays 10 = .ok (.imul, 1) := by decide +kernel
theorem dX12_lays_11 : decode cX12_lays 11 = .ok (.iadd, 1) := by decide +kernel
theorem dX12_lays_12 : decode cX12_lays 12 = .ok (.iload_n 3, 1) := by decide +kernel
theorem dX12_lays_13 : decode cX12_lays 13 = .ok (.iastore, 1) := by decide +kernel
theorem dX12_lays_14 : decode cX12_lays 14 = .ok (.aload_n 0, 1) := by decide +kernel
theorem dX12_lays_15 : decode cX12_lays 15 = .ok (.getfield 22, 3) := by decide +kernel
theorem dX12_lays_18 : decode cX12_lays 18 = .ok (.bipush 36, 2) := by decide +kernel
theorem dX12_lays_20 : decode cX12_lays 20 = .ok (.iload_n 1, 1) := by decide +kernel
theorem dX12_lays_21 : decode cX12_lays 21 = .ok (.imul, 1) := by decide +kernel
theorem dX12_lays_22 : decode cX12_lays 22 = .ok (.iconst 3, 1) := by decide +kernel
theorem dX12_lays_23 : decode cX12_lays 23 = .ok (.iload_n 2, 1) := by decide +kernel
theorem dX12_lays_24 : decode cX12_lays 24 = .ok (.imul, 1) := by decide +kernel
theorem dX12_lays_25 : decode cX12_lays 25 = .ok (.iadd, 1) := by decide +kernel
theorem dX12_lays_26 : decode cX12_lays 26 = .ok (.iconst 1, 1) := by decide +kernel
theorem dX12_lays_27 : decode cX12_lays 27 = .ok (.iadd, 1) := by decide +kernel
theorem dX12_lays_28 : decode cX12_lays 28 = .ok (.iload 4, 2) := by decide +kernel
theorem dX12_lays_30 : decode cX12_lays 30 = .ok (.iastore, 1) := by decide +kernel
theorem dX12_lays_31 : decode cX12_lays 31 = .ok (.aload_n 0, 1) := by decide +kernel
theorem dX12_lays_32 : decode cX12_lays 32 = .ok (.getfield 22, 3) := by decide +kernel
theorem dX12_lays_35 : decode cX12_lays 35 = .ok (.bipush 36, 2) := by decide +kernel
theorem dX12_lays_37 : decode cX12_lays 37 = .ok (.iload_n 1, 1) := by decide +kernel
theorem dX12_lays_38 : decode cX12_lays 38 = .ok (.imul, 1) := by decide +kernel
theorem dX12_lays_39 : decode cX12_lays 39 = .ok (.iconst 3, 1) := by decide +kernel
theorem dX12_lays_40 : decode cX12_lays 40 = .ok (.iload_n 2, 1) := by decide +kernel
theorem dX12_lays_41 : decode cX12_lays 41 = .ok (.imul, 1) := by decide +kernel
theorem dX12_lays_42 : decode cX12_lays 42 = .ok (.iadd, 1) := by decide +kernel
theorem dX12_lays_43 : decode cX12_lays 43 = .ok (.iconst 2, 1) := by decide +kernel
theorem dX12_lays_44 : decode cX12_lays 44 = .ok (.iadd, 1) := by decide +kernel
theorem dX12_lays_45 : decode cX12_lays 45 = .ok (.iload 5, 2) := by decide +kernel
theorem dX12_lays_47 : decode cX12_lays 47 = .ok (.iastore, 1) := by decide +kernel
theorem dX12_lays_48 : decode cX12_lays 48 = .ok (.return_, 1) := by decide +kernel
theorem dX12_add_0 : decode cX12_add 0 = .ok (.iload_n 1, 1) := by decide +kernel
theorem dX12_add_1 : decode cX12_add 1 = .ok (.invokestatic 108, 3) := by decide +kernel
theorem dX12_add_4 : decode cX12_add 4 = .ok (.ifCond .eq 13, 3) := by decide +kernel
theorem dX12_add_7 : decode cX12_add 7 = .ok (.iload_n 2, 1) := by decide +kernel
theorem dX12_add_8 : decode cX12_add 8 = .ok (.iload_n 3, 1) := by decide +kernel
theorem dX12_add_9 : decode cX12_add 9 = .ok (.iload 4, 2) := by decide +kernel
theorem dX12_add_11 : decode cX12_add 11 = .ok (.invokestatic 111, 3) := by decide +kernel
theorem dX12_add_14 : decode cX12_add 14 = .ok (.ifCond .ne 6, 3) := by decide +kernel
theorem dX12_add_17 : decode cX12_add 17 = .ok (.bipush (-2), 2) := by decide +kernel
theorem dX12_add_19 : decode cX12_add 19 = .ok (.ireturn, 1) := by decide +kernel
theorem dX12_add_20 : decode cX12_add 20 = .ok (.aload_n 0, 1) := by decide +kernel
theorem dX12_add_21 : decode cX12_add 21 = .ok (.getfield 25, 3) := by decide +kernel
theorem dX12_add_24 : decode cX12_add 24 = .ok (.iload_n 1, 1) := by decide +kernel
theorem dX12_add_25 : decode cX12_add 25 = .ok (.iaload, 1) := by decide +kernel
theorem dX12_add_26 : decode cX12_add 26 = .ok (.iload_n 1, 1) := by decide +kernel
theorem dX12_add_27 : decode cX12_add 27 = .ok (.invokestatic 115, 3) := by decide +kernel
theorem dX12_add_30 : decode cX12_add 30 = .ok (.if_icmp .ne 6, 3) := by decide +kernel
theorem dX12_add_33 : decode cX12_add 33 = .ok (.bipush (-4), 2) := by decide +kernel
theorem dX12_add_35 : decode cX12_add 35 = .ok (.ireturn, 1) := by decide +kernel
theorem dX12_add_36 : decode cX12_add 36 = .ok (.aload_n 0, 1) := by decide +kernel
theorem dX12_add_37 : decode cX12_add 37 = .ok (.iload_n 1, 1) := by decide +kernel
theorem dX12_add_38 : decode cX12_add 38 = .ok (.aload_n 0, 1) := by decide +kernel
theorem dX12_add_39 : decode cX12_add 39 = .ok (.getfield 25, 3) := by decide +kernel
theorem dX12_add_42 : decode cX12_add 42 = .ok (.iload_n 1, 1) := by decide +kernel
theorem dX12_add_43 : decode cX12_add 43 = .ok (.iaload, 1) := by decide +kernel
theorem dX12_add_44 : decode cX12_add 44 = .ok (.iload_n 2, 1) := by decide +kernel
theorem dX12_add_45 : decode cX12_add 45 = .ok (.iload_n 3, 1) := by decide +kernel
theorem dX12_add_46 : decode cX12_add 46 = .ok (.iload 4, 2) := by decide +kernel
theorem dX12_add_48 : decode cX12_add 48 = .ok (.invokevirtual 118, 3) := by decide +kernel
theorem dX12_add_51 : decode cX12_add 51 = .ok (.aload_n 0, 1) := by decide +kernel
theorem dX12_add_52 : decode cX12_add 52 = .ok (.getfield 25, 3) := by decide +kernel
theorem dX12_add_55 : decode cX12_add 55 = .ok (.iload_n 1, 1) := by decide +kernel
theorem dX12_add_56 : decode cX12_add 56 = .ok (.dup2, 1) := by decide +kernel
theorem dX12_add_57 : decode cX12_add 57 = .ok (.iaload, 1) := by decide +kernel
theorem dX12_add_58 : decode cX12_add 58 = .ok (.iconst 1, 1) := by decide +kernel
theorem dX12_add_59 : decode cX12_add 59 = .ok (.iadd, 1) := by decide +kernel
theorem dX12_add_60 : decode cX12_add 60 = .ok (.iastore, 1) := by decide +kernel
theorem dX12_add_61 : decode cX12_add 61 = .ok (.aload_n 0, 1) := by decide +kernel
theorem dX12_add_62 : decode cX12_add 62 = .ok (.getfield 25, 3) := by decide +kernel
theorem dX12_add_65 : decode cX12_add 65 = .ok (.iload_n 1, 1) := by decide +kernel
theorem dX12_add_66 : decode cX12_add 66 = .ok (.iaload, 1) := by decide +kernel
theorem dX12_add_67 : decode cX12_add 67 = .ok (.ireturn, 1) := by decide +kernel
theorem dX12_back_0 : decode cX12_back 0 = .ok (.iload_n 1, 1) := by decide +kernel
theorem dX12_back_1 : decode cX12_back 1 = .ok (.invokestatic 108, 3) := by decide +kernel
theorem dX12_back_4 : decode cX12_back 4 = .ok (.ifCond .ne 6, 3) := by decide +kernel
theorem dX12_back_7 : decode cX12_back 7 = .ok (.bipush (-2), 2) := by decide +kernel
theorem dX12_back_9 : decode cX12_back 9 = .ok (.ireturn, 1) := by decide +kernel
theorem dX12_back_10 : decode cX12_back 10 = .ok (.aload_n 0, 1) := by decide +kernel
theorem dX12_back_11 : decode cX12_back 11 = .ok (.getfield 25, 3) := by decide +kernel
theorem dX12_back_14 : decode cX12_back 14 = .ok (.iload_n 1, 1) := by decide +kernel
theorem dX12_back_15 : decode cX12_back 15 = .ok (.iaload, 1) := by decide +kernel
theorem dX12_back_16 : decode cX12_back 16 = .ok (.ifCond .ne 6, 3) := by decide +kernel
theorem dX12_back_19 : decode cX12_back 19 = .ok (.bipush (-3), 2) := by decide +kernel
theorem dX12_back_21 : decode cX12_back 21 = .ok (.ireturn, 1) := by decide +kernel
theorem dX12_back_22 : decode cX12_back 22 = .ok (.aload_n 0, 1) := by decide +kernel
theorem dX12_back_23 : decode cX12_back 23 = .ok (.getfield 25, 3) := by decide +kernel
theorem dX12_back_26 : decode cX12_back 26 = .ok (.iload_n 1, 1) := by decide +kernel
theorem dX12_back_27 : decode cX12_back 27 = .ok (.dup2, 1) := by decide +kernel
theorem dX12_back_28 : decode cX12_back 28 = .ok (.iaload, 1) := by decide +kernel
theorem dX12_back_29 : decode cX12_back 29 = .ok (.iconst 1, 1) := by decide +kernel
theorem dX12_back_30 : decode cX12_back 30 = .ok (.isub, 1) := by decide +kernel
theorem dX12_back_31 : decode cX12_back 31 = .ok (.iastore, 1) := by decide +kernel
theorem dX12_back_32 : decode cX12_back 32 = .ok (.aload_n 0, 1) := by decide +kernel
theorem dX12_back_33 : decode cX12_back 33 = .ok (.getfield 25, 3) := by decide +kernel
theorem dX12_back_36 : decode cX12_back 36 = .ok (.iload_n 1, 1) := by decide +kernel
theorem dX12_back_37 : decode cX12_back 37 = .ok (.iaload, 1) := by decide +kernel
theorem dX12_back_38 : decode cX12_back 38 = .ok (.ireturn, 1) := by decide +kernel
theorem dX12_isThere_0 : decode cX12_isThere 0 = .ok (.iload_n 1, 1) := by decide +kernel
theorem dX12_isThere_1 : decode cX12_isThere 1 = .ok (.invokestatic 108, 3) := by decide +kernel
theorem dX12_isThere_4 : decode cX12_isThere 4 = .ok (.ifCond .eq 25, 3) := by decide +kernel
theorem dX12_isThere_7 : decode cX12_isThere 7 = .ok (.iload_n 2, 1) := by decide +kernel
theorem dX12_isThere_8 : decode cX12_isThere 8 = .ok (.i2l, 1) := by decide +kernel
theorem dX12_isThere_9 : decode cX12_isThere 9 = .ok (.lconst 0, 1) := by decide +kernel
theorem dX12_isThere_10 : decode cX12_isThere 10 = .ok (.aload_n 0, 1) := by decide +kernel
theorem dX12_isThere_11 : decode cX12_isThere 11 = .ok (.getfield 25, 3) := by decide +kernel
theorem dX12_isThere_14 : decode cX12_isThere 14 = .ok (.iload_n 1, 1) := by decide +kernel
theorem dX12_isThere_15 : decode cX12_isThere 15 = .ok (.iaload, 1) := by decide +kernel
theorem dX12_isThere_16 : decode cX12_isThere 16 = .ok (.iconst 1, 1) := by decide +kernel
theorem dX12_isThere_17 : decode cX12_isThere 17 = .ok (.isub, 1) := by decide +kernel
theorem dX12_isThere_18 : decode cX12_isThere 18 = .ok (.i2l, 1) := by decide +kernel
theorem dX12_isThere_19 : decode cX12_isThere 19 = .ok (.invokestatic 76, 3) := by decide +kernel
theorem dX12_isThere_22 : decode cX12_isThere 22 = .ok (.ifCond .eq 7, 3) := by decide +kernel
theorem dX12_isThere_25 : decode cX12_isThere 25 = .ok (.iconst 1, 1) := by decide +kernel
theorem dX12_isThere_26 : decode cX12_isThere 26 = .ok (.goto 4, 3) := by decide +kernel
theorem dX12_isThere_29 : decode cX12_isThere 29 = .ok (.iconst 0, 1) := by decide +kernel
theorem dX12_isThere_30 : decode cX12_isThere 30 = .ok (.ireturn, 1) := by decide +kernel
theorem dX12_of_0 : decode cX12_of 0 = .ok (.aload_n 0, 1) := by decide +kernel
theorem dX12_of_1 : decode cX12_of 1 = .ok (.getfield 22, 3) := by decide +kernel
theorem dX12_of_4 : decode cX12_of 4 = .ok (.bipush 36, 2) := by decide +kernel
theorem dX12_of_6 : decode cX12_of 6 = .ok (.iload_n 1, 1) := by decide +kernel
theorem dX12_of_7 : decode cX12_of 7 = .ok (.imul, 1) := by decide +kernel
theorem dX12_of_8 : decode cX12_of 8 = .ok (.iconst 3, 1) := by decide +kernel
theorem dX12_of_9 : decode cX12_of 9 = .ok (.iload_n 2, 1) := by decide +kernel
theorem dX12_of_10 : decode cX12_of 10 = .ok (.imul, 1) := by decide +kernel
theorem dX12_of_11 : decode cX12_of 11 = .ok (.iadd, 1) := by decide +kernel
theorem dX12_of_12 : decode cX12_of 12 = .ok (.iload_n 3, 1) := by decide +kernel
theorem dX12_of_13 : decode cX12_of 13 = .ok (.iadd, 1) := by decide +kernel
theorem dX12_of_14 : decode cX12_of 14 = .ok (.iaload, 1) := by decide +kernel
theorem dX12_of_15 : decode cX12_of 15 = .ok (.ireturn, 1) := by decide +kernel
theorem dX12_at_0 : decode cX12_at 0 = .ok (.aload_n 0, 1) := by decide +kernel
theorem dX12_at_1 : decode cX12_at 1 = .ok (.iload_n 1, 1) := by decide +kernel
theorem dX12_at_2 : decode cX12_at 2 = .ok (.iload_n 2, 1) := by decide +kernel
theorem dX12_at_3 : decode cX12_at 3 = .ok (.invokevirtual 122, 3) := by decide +kernel
theorem dX12_at_6 : decode cX12_at 6 = .ok (.ifCond .eq 25, 3) := by decide +kernel
theorem dX12_at_9 : decode cX12_at 9 = .ok (.iload_n 3, 1) := by decide +kernel
theorem dX12_at_10 : decode cX12_at 10 = .ok (.i2l, 1) := by decide +kernel
theorem dX12_at_11 : decode cX12_at 11 = .ok (.lconst 0, 1) := by decide +kernel
theorem dX12_at_12 : decode cX12_at 12 = .ok (.ldc2_w 89, 3) := by decide +kernel
theorem dX12_at_15 : decode cX12_at 15 = .ok (.invokestatic 76, 3) := by decide +kernel
theorem dX12_at_18 : decode cX12_at 18 = .ok (.ifCond .eq 13, 3) := by decide +kernel
theorem dX12_at_21 : decode cX12_at 21 = .ok (.aload_n 0, 1) := by decide +kernel
theorem dX12_at_22 : decode cX12_at 22 = .ok (.iload_n 1, 1) := by decide +kernel
theorem dX12_at_23 : decode cX12_at 23 = .ok (.iload_n 2, 1) := by decide +kernel
theorem dX12_at_24 : decode cX12_at 24 = .ok (.iload_n 3, 1) := by decide +kernel
theorem dX12_at_25 : decode cX12_at 25 = .ok (.invokevirtual 126, 3) := by decide +kernel
theorem dX12_at_28 : decode cX12_at 28 = .ok (.goto 5, 3) := by decide +kernel
theorem dX12_at_31 : decode cX12_at 31 = .ok (.ldc 103, 2) := by decide +kernel
theorem dX12_at_33 : decode cX12_at 33 = .ok (.ireturn, 1) := by decide +kernel
theorem dX12_read_0 : decode cX12_read 0 = .ok (.iload_n 1, 1) := by decide +kernel
theorem dX12_read_1 : decode cX12_read 1 = .ok (.invokestatic 108, 3) := by decide +kernel
theorem dX12_read_4 : decode cX12_read 4 = .ok (.ifCond .eq 10, 3) := by decide +kernel
theorem dX12_read_7 : decode cX12_read 7 = .ok (.iload_n 2, 1) := by decide +kernel
theorem dX12_read_8 : decode cX12_read 8 = .ok (.invokestatic 85, 3) := by decide +kernel
theorem dX12_read_11 : decode cX12_read 11 = .ok (.ifCond .ne 6, 3) := by decide +kernel
theorem dX12_read_14 : decode cX12_read 14 = .ok (.bipush (-2), 2) := by decide +kernel
theorem dX12_read_16 : decode cX12_read 16 = .ok (.ireturn, 1) := by decide +kernel
theorem dX12_read_17 : decode cX12_read 17 = .ok (.aload_n 0, 1) := by decide +kernel
theorem dX12_read_18 : decode cX12_read 18 = .ok (.getfield 7, 3) := by decide +kernel
theorem dX12_read_21 : decode cX12_read 21 = .ok (.iload_n 2, 1) := by decide +kernel
theorem dX12_read_22 : decode cX12_read 22 = .ok (.iaload, 1) := by decide +kernel
theorem dX12_read_23 : decode cX12_read 23 = .ok (.ifCond .ge 9, 3) := by decide +kernel
theorem dX12_read_26 : decode cX12_read 26 = .ok (.aload_n 0, 1) := by decide +kernel
theorem dX12_read_27 : decode cX12_read 27 = .ok (.iconst 1, 1) := by decide +kernel
theorem dX12_read_28 : decode cX12_read 28 = .ok (.invokevirtual 91, 3) := by decide +kernel
theorem dX12_read_31 : decode cX12_read 31 = .ok (.ireturn, 1) := by decide +kernel
theorem dX12_read_32 : decode cX12_read 32 = .ok (.iconst 0, 1) := by decide +kernel
theorem dX12_read_33 : decode cX12_read 33 = .ok (.istore_n 3, 1) := by decide +kernel
theorem dX12_read_34 : decode cX12_read 34 = .ok (.iconst 1, 1) := by decide +kernel
theorem dX12_read_35 : decode cX12_read 35 = .ok (.istore 4, 2) := by decide +kernel
theorem dX12_read_37 : decode cX12_read 37 = .ok (.iload 4, 2) := by decide +kernel
theorem dX12_read_39 : decode cX12_read 39 = .ok (.ifCond .eq 83, 3) := by decide +kernel
theorem dX12_read_42 : decode cX12_read 42 = .ok (.iconst 3, 1) := by decide +kernel
theorem dX12_read_43 : decode cX12_read 43 = .ok (.iload_n 3, 1) := by decide +kernel
theorem dX12_read_44 : decode cX12_read 44 = .ok (.imul, 1) := by decide +kernel
theorem dX12_read_45 : decode cX12_read 45 = .ok (.iconst 3, 1) := by decide +kernel
theorem dX12_read_46 : decode cX12_read 46 = .ok (.iadd, 1) := by decide +kernel
theorem dX12_read_47 : decode cX12_read 47 = .ok (.aload_n 0, 1) := by decide +kernel
theorem dX12_read_48 : decode cX12_read 48 = .ok (.getfield 13, 3) := by decide +kernel
theorem dX12_read_51 : decode cX12_read 51 = .ok (.iload_n 2, 1) := by decide +kernel
theorem dX12_read_52 : decode cX12_read 52 = .ok (.iaload, 1) := by decide +kernel
theorem dX12_read_53 : decode cX12_read 53 = .ok (.if_icmp .gt 69, 3) := by decide +kernel
theorem dX12_read_56 : decode cX12_read 56 = .ok (.bipush 60, 2) := by decide +kernel
theorem dX12_read_58 : decode cX12_read 58 = .ok (.iload_n 2, 1) := by decide +kernel
theorem dX12_read_59 : decode cX12_read 59 = .ok (.imul, 1) := by decide +kernel
theorem dX12_read_60 : decode cX12_read 60 = .ok (.iconst 3, 1) := by decide +kernel
theorem dX12_read_61 : decode cX12_read 61 = .ok (.iload_n 3, 1) := by decide +kernel
theorem dX12_read_62 : decode cX12_read 62 = .ok (.imul, 1) := by decide +kernel
theorem dX12_read_63 : decode cX12_read 63 = .ok (.iadd, 1) := by decide +kernel
theorem dX12_read_64 : decode cX12_read 64 = .ok (.istore 5, 2) := by decide +kernel
theorem dX12_read_66 : decode cX12_read 66 = .ok (.aload_n 0, 1) := by decide +kernel
theorem dX12_read_67 : decode cX12_read 67 = .ok (.iload_n 1, 1) := by decide +kernel
theorem dX12_read_68 : decode cX12_read 68 = .ok (.aload_n 0, 1) := by decide +kernel
theorem dX12_read_69 : decode cX12_read 69 = .ok (.getfield 16, 3) := by decide +kernel
theorem dX12_read_72 : decode cX12_read 72 = .ok (.iload 5, 2) := by decide +kernel
theorem dX12_read_74 : decode cX12_read 74 = .ok (.iaload, 1) := by decide +kernel
theorem dX12_read_75 : decode cX12_read 75 = .ok (.aload_n 0, 1) := by decide +kernel
theorem dX12_read_76 : decode cX12_read 76 = .ok (.getfield 16, 3) := by decide +kernel
theorem dX12_read_79 : decode cX12_read 79 = .ok (.iload 5, 2) := by decide +kernel
theorem dX12_read_81 : decode cX12_read 81 = .ok (.iconst 1, 1) := by decide +kernel
theorem dX12_read_82 : decode cX12_read 82 = .ok (.iadd, 1) := by decide +kernel
theorem dX12_read_83 : decode cX12_read 83 = .ok (.iaload, 1) := by decide +kernel
theorem dX12_read_84 : decode cX12_read 84 = .ok (.aload_n 0, 1) := by decide +kernel
theorem dX12_read_85 : decode cX12_read 85 = .ok (.getfield 16, 3) := by decide +kernel
theorem dX12_read_88 : decode cX12_read 88 = .ok (.iload 5, 2) := by decide +kernel
theorem dX12_read_90 : decode cX12_read 90 = .ok (.iconst 2, 1) := by decide +kernel
theorem dX12_read_91 : decode cX12_read 91 = .ok (.iadd, 1) := by decide +kernel
theorem dX12_read_92 : decode cX12_read 92 = .ok (.iaload, 1) := by decide +kernel
theorem dX12_read_93 : decode cX12_read 93 = .ok (.invokevirtual 129, 3) := by decide +kernel
theorem dX12_read_96 : decode cX12_read 96 = .ok (.ifCond .lt 7, 3) := by decide +kernel
theorem dX12_read_99 : decode cX12_read 99 = .ok (.iconst 1, 1) := by decide +kernel
theorem dX12_read_100 : decode cX12_read 100 = .ok (.goto 4, 3) := by decide +kernel
theorem dX12_read_103 : decode cX12_read 103 = .ok (.iconst 0, 1) := by decide +kernel
theorem dX12_read_104 : decode cX12_read 104 = .ok (.istore 4, 2) := by decide +kernel
theorem dX12_read_106 : decode cX12_read 106 = .ok (.iload_n 3, 1) := by decide +kernel
theorem dX12_read_107 : decode cX12_read 107 = .ok (.iload 4, 2) := by decide +kernel
theorem dX12_read_109 : decode cX12_read 109 = .ok (.ifCond .eq 7, 3) := by decide +kernel
theorem dX12_read_112 : decode cX12_read 112 = .ok (.iconst 1, 1) := by decide +kernel
theorem dX12_read_113 : decode cX12_read 113 = .ok (.goto 4, 3) := by decide +kernel
theorem dX12_read_116 : decode cX12_read 116 = .ok (.iconst 0, 1) := by decide +kernel
theorem dX12_read_117 : decode cX12_read 117 = .ok (.iadd, 1) := by decide +kernel
theorem dX12_read_118 : decode cX12_read 118 = .ok (.istore_n 3, 1) := by decide +kernel
theorem dX12_read_119 : decode cX12_read 119 = .ok (.goto (-82), 3) := by decide +kernel
theorem dX12_read_122 : decode cX12_read 122 = .ok (.iload_n 3, 1) := by decide +kernel
theorem dX12_read_123 : decode cX12_read 123 = .ok (.ireturn, 1) := by decide +kernel
theorem dX12_lot_0 : decode cX12_lot 0 = .ok (.aload_n 0, 1) := by decide +kernel
theorem dX12_lot_1 : decode cX12_lot 1 = .ok (.ldc 133, 2) := by decide +kernel
theorem dX12_lot_3 : decode cX12_lot 3 = .ok (.aload_n 0, 1) := by decide +kernel
theorem dX12_lot_4 : decode cX12_lot 4 = .ok (.getfield 134, 3) := by decide +kernel
theorem dX12_lot_7 : decode cX12_lot 7 = .ok (.imul, 1) := by decide +kernel
theorem dX12_lot_8 : decode cX12_lot 8 = .ok (.sipush 12345, 3) := by decide +kernel
theorem dX12_lot_11 : decode cX12_lot 11 = .ok (.iadd, 1) := by decide +kernel
theorem dX12_lot_12 : decode cX12_lot 12 = .ok (.putfield 134, 3) := by decide +kernel
theorem dX12_lot_15 : decode cX12_lot 15 = .ok (.aload_n 0, 1) := by decide +kernel
theorem dX12_lot_16 : decode cX12_lot 16 = .ok (.getfield 134, 3) := by decide +kernel
theorem dX12_lot_19 : decode cX12_lot 19 = .ok (.bipush 16, 2) := by decide +kernel
theorem dX12_lot_21 : decode cX12_lot 21 = .ok (.iushr, 1) := by decide +kernel
theorem dX12_lot_22 : decode cX12_lot 22 = .ok (.iload_n 1, 1) := by decide +kernel
theorem dX12_lot_23 : decode cX12_lot 23 = .ok (.irem, 1) := by decide +kernel
theorem dX12_lot_24 : decode cX12_lot 24 = .ok (.ireturn, 1) := by decide +kernel
theorem dX12_noisy_0 : decode cX12_noisy 0 = .ok (.iload_n 2, 1) := by decide +kernel
theorem dX12_noisy_1 : decode cX12_noisy 1 = .ok (.ifCond .ne 7, 3) := by decide +kernel
theorem dX12_noisy_4 : decode cX12_noisy 4 = .ok (.iload_n 1, 1) := by decide +kernel
theorem dX12_noisy_5 : decode cX12_noisy 5 = .ok (.goto 16, 3) := by decide +kernel
theorem dX12_noisy_8 : decode cX12_noisy 8 = .ok (.iload_n 1, 1) := by decide +kernel
theorem dX12_noisy_9 : decode cX12_noisy 9 = .ok (.aload_n 0, 1) := by decide +kernel
theorem dX12_noisy_10 : decode cX12_noisy 10 = .ok (.iconst 2, 1) := by decide +kernel
theorem dX12_noisy_11 : decode cX12_noisy 11 = .ok (.iload_n 2, 1) := by decide +kernel
theorem dX12_noisy_12 : decode cX12_noisy 12 = .ok (.imul, 1) := by decide +kernel
theorem dX12_noisy_13 : decode cX12_noisy 13 = .ok (.iconst 1, 1) := by decide +kernel
theorem dX12_noisy_14 : decode cX12_noisy 14 = .ok (.iadd, 1) := by decide +kernel
theorem dX12_noisy_15 : decode cX12_noisy 15 = .ok (.invokevirtual 137, 3) := by decide +kernel
theorem dX12_noisy_18 : decode cX12_noisy 18 = .ok (.iadd, 1) := by decide +kernel
theorem dX12_noisy_19 : decode cX12_noisy 19 = .ok (.iload_n 2, 1) := by decide +kernel
theorem dX12_noisy_20 : decode cX12_noisy 20 = .ok (.isub, 1) := by decide +kernel
theorem dX12_noisy_21 : decode cX12_noisy 21 = .ok (.istore_n 3, 1) := by decide +kernel
theorem dX12_noisy_22 : decode cX12_noisy 22 = .ok (.iload_n 3, 1) := by decide +kernel
theorem dX12_noisy_23 : decode cX12_noisy 23 = .ok (.bipush (-100), 2) := by decide +kernel
theorem dX12_noisy_25 : decode cX12_noisy 25 = .ok (.invokestatic 140, 3) := by decide +kernel
theorem dX12_noisy_28 : decode cX12_noisy 28 = .ok (.bipush 100, 2) := by decide +kernel
theorem dX12_noisy_30 : decode cX12_noisy 30 = .ok (.invokestatic 143, 3) := by decide +kernel
theorem dX12_noisy_33 : decode cX12_noisy 33 = .ok (.ireturn, 1) := by decide +kernel
theorem dX12_sees_0 : decode cX12_sees 0 = .ok (.aload_n 0, 1) := by decide +kernel
theorem dX12_sees_1 : decode cX12_sees 1 = .ok (.iconst 0, 1) := by decide +kernel
theorem dX12_sees_2 : decode cX12_sees 2 = .ok (.iload_n 1, 1) := by decide +kernel
theorem dX12_sees_3 : decode cX12_sees 3 = .ok (.iconst 0, 1) := by decide +kernel
theorem dX12_sees_4 : decode cX12_sees 4 = .ok (.invokevirtual 126, 3) := by decide +kernel
theorem dX12_sees_7 : decode cX12_sees 7 = .ok (.istore 6, 2) := by decide +kernel
theorem dX12_sees_9 : decode cX12_sees 9 = .ok (.aload_n 0, 1) := by decide +kernel
theorem dX12_sees_10 : decode cX12_sees 10 = .ok (.iconst 0, 1) := by decide +kernel
theorem dX12_sees_11 : decode cX12_sees 11 = .ok (.iload_n 1, 1) := by decide +kernel
theorem dX12_sees_12 : decode cX12_sees 12 = .ok (.iconst 1, 1) := by decide +kernel
theorem dX12_sees_13 : decode cX12_sees 13 = .ok (.invokevirtual 126, 3) := by decide +kernel
theorem dX12_sees_16 : decode cX12_sees 16 = .ok (.istore 7, 2) := by decide +kernel
theorem dX12_sees_18 : decode cX12_sees 18 = .ok (.aload_n 0, 1) := by decide +kernel
theorem dX12_sees_19 : decode cX12_sees 19 = .ok (.iconst 0, 1) := by decide +kernel
theorem dX12_sees_20 : decode cX12_sees 20 = .ok (.iload_n 1, 1) := by decide +kernel
theorem dX12_sees_21 : decode cX12_sees 21 = .ok (.iconst 2, 1) := by decide +kernel
theorem dX12_sees_22 : decode cX12_sees 22 = .ok (.invokevirtual 126, 3) := by decide +kernel
theorem dX12_sees_25 : decode cX12_sees 25 = .ok (.istore 8, 2) := by decide +kernel
theorem dX12_sees_27 : decode cX12_sees 27 = .ok (.iconst 0, 1) := by decide +kernel
theorem dX12_sees_28 : decode cX12_sees 28 = .ok (.istore 9, 2) := by decide +kernel
theorem dX12_sees_30 : decode cX12_sees 30 = .ok (.iload 9, 2) := by decide +kernel
theorem dX12_sees_32 : decode cX12_sees 32 = .ok (.iload_n 2, 1) := by decide +kernel
theorem dX12_sees_33 : decode cX12_sees 33 = .ok (.if_icmp .ge 22, 3) := by decide +kernel
theorem dX12_sees_36 : decode cX12_sees 36 = .ok (.iload 7, 2) := by decide +kernel
theorem dX12_sees_38 : decode cX12_sees 38 = .ok (.istore 10, 2) := by decide +kernel
theorem dX12_sees_40 : decode cX12_sees 40 = .ok (.iload 8, 2) := by decide +kernel
theorem dX12_sees_42 : decode cX12_sees 42 = .ok (.ineg, 1) := by decide +kernel
theorem dX12_sees_43 : decode cX12_sees 43 = .ok (.istore 7, 2) := by decide +kernel
theorem dX12_sees_45 : decode cX12_sees 45 = .ok (.iload 10, 2) := by decide +kernel
theorem dX12_sees_47 : decode cX12_sees 47 = .ok (.istore 8, 2) := by decide +kernel
theorem dX12_sees_49 : decode cX12_sees 49 = .ok (.iinc 9 1, 3) := by decide +kernel
theorem dX12_sees_52 : decode cX12_sees 52 = .ok (.goto (-22), 3) := by decide +kernel
theorem dX12_sees_55 : decode cX12_sees 55 = .ok (.iconst 0, 1) := by decide +kernel
theorem dX12_sees_56 : decode cX12_sees 56 = .ok (.istore 9, 2) := by decide +kernel
theorem dX12_sees_58 : decode cX12_sees 58 = .ok (.iload 9, 2) := by decide +kernel
theorem dX12_sees_60 : decode cX12_sees 60 = .ok (.iload_n 3, 1) := by decide +kernel
theorem dX12_sees_61 : decode cX12_sees 61 = .ok (.if_icmp .ge 22, 3) := by decide +kernel
theorem dX12_sees_64 : decode cX12_sees 64 = .ok (.iload 6, 2) := by decide +kernel
theorem dX12_sees_66 : decode cX12_sees 66 = .ok (.istore 10, 2) := by decide +kernel
theorem dX12_sees_68 : decode cX12_sees 68 = .ok (.iload 8, 2) := by decide +kernel
theorem dX12_sees_70 : decode cX12_sees 70 = .ok (.istore 6, 2) := by decide +kernel
theorem dX12_sees_72 : decode cX12_sees 72 = .ok (.iload 10, 2) := by decide +kernel
theorem dX12_sees_74 : decode cX12_sees 74 = .ok (.ineg, 1) := by decide +kernel
theorem dX12_sees_75 : decode cX12_sees 75 = .ok (.istore 8, 2) := by decide +kernel
theorem dX12_sees_77 : decode cX12_sees 77 = .ok (.iinc 9 1, 3) := by decide +kernel
theorem dX12_sees_80 : decode cX12_sees 80 = .ok (.goto (-22), 3) := by decide +kernel
theorem dX12_sees_83 : decode cX12_sees 83 = .ok (.iconst 0, 1) := by decide +kernel
theorem dX12_sees_84 : decode cX12_sees 84 = .ok (.istore 9, 2) := by decide +kernel
theorem dX12_sees_86 : decode cX12_sees 86 = .ok (.iload 9, 2) := by decide +kernel
theorem dX12_sees_88 : decode cX12_sees 88 = .ok (.iload 4, 2) := by decide +kernel
theorem dX12_sees_90 : decode cX12_sees 90 = .ok (.if_icmp .ge 22, 3) := by decide +kernel
theorem dX12_sees_93 : decode cX12_sees 93 = .ok (.iload 6, 2) := by decide +kernel
theorem dX12_sees_95 : decode cX12_sees 95 = .ok (.istore 10, 2) := by decide +kernel
theorem dX12_sees_97 : decode cX12_sees 97 = .ok (.iload 7, 2) := by decide +kernel
theorem dX12_sees_99 : decode cX12_sees 99 = .ok (.ineg, 1) := by decide +kernel
theorem dX12_sees_100 : decode cX12_sees 100 = .ok (.istore 6, 2) := by decide +kernel
theorem dX12_sees_102 : decode cX12_sees 102 = .ok (.iload 10, 2) := by decide +kernel
theorem dX12_sees_104 : decode cX12_sees 104 = .ok (.istore 7, 2) := by decide +kernel
theorem dX12_sees_106 : decode cX12_sees 106 = .ok (.iinc 9 1, 3) := by decide +kernel
theorem dX12_sees_109 : decode cX12_sees 109 = .ok (.goto (-23), 3) := by decide +kernel
theorem dX12_sees_112 : decode cX12_sees 112 = .ok (.aload_n 0, 1) := by decide +kernel
theorem dX12_sees_113 : decode cX12_sees 113 = .ok (.iload 6, 2) := by decide +kernel
theorem dX12_sees_115 : decode cX12_sees 115 = .ok (.iload 5, 2) := by decide +kernel
theorem dX12_sees_117 : decode cX12_sees 117 = .ok (.invokevirtual 146, 3) := by decide +kernel
theorem dX12_sees_120 : decode cX12_sees 120 = .ok (.istore 6, 2) := by decide +kernel
theorem dX12_sees_122 : decode cX12_sees 122 = .ok (.aload_n 0, 1) := by decide +kernel
theorem dX12_sees_123 : decode cX12_sees 123 = .ok (.iload 7, 2) := by decide +kernel
theorem dX12_sees_125 : decode cX12_sees 125 = .ok (.iload 5, 2) := by decide +kernel
theorem dX12_sees_127 : decode cX12_sees 127 = .ok (.invokevirtual 146, 3) := by decide +kernel
theorem dX12_sees_130 : decode cX12_sees 130 = .ok (.istore 7, 2) := by decide +kernel
theorem dX12_sees_132 : decode cX12_sees 132 = .ok (.aload_n 0, 1) := by decide +kernel
theorem dX12_sees_133 : decode cX12_sees 133 = .ok (.iload 8, 2) := by decide +kernel
theorem dX12_sees_135 : decode cX12_sees 135 = .ok (.iload 5, 2) := by decide +kernel
theorem dX12_sees_137 : decode cX12_sees 137 = .ok (.invokevirtual 146, 3) := by decide +kernel
theorem dX12_sees_140 : decode cX12_sees 140 = .ok (.istore 8, 2) := by decide +kernel
theorem dX12_sees_142 : decode cX12_sees 142 = .ok (.aload_n 0, 1) := by decide +kernel
theorem dX12_sees_143 : decode cX12_sees 143 = .ok (.iconst 1, 1) := by decide +kernel
theorem dX12_sees_144 : decode cX12_sees 144 = .ok (.iload_n 1, 1) := by decide +kernel
theorem dX12_sees_145 : decode cX12_sees 145 = .ok (.iload 6, 2) := by decide +kernel
theorem dX12_sees_147 : decode cX12_sees 147 = .ok (.iload 7, 2) := by decide +kernel
theorem dX12_sees_149 : decode cX12_sees 149 = .ok (.iload 6, 2) := by decide +kernel
theorem dX12_sees_151 : decode cX12_sees 151 = .ok (.ifCond .ne 17, 3) := by decide +kernel
theorem dX12_sees_154 : decode cX12_sees 154 = .ok (.iload 7, 2) := by decide +kernel
theorem dX12_sees_156 : decode cX12_sees 156 = .ok (.ifCond .ne 12, 3) := by decide +kernel
theorem dX12_sees_159 : decode cX12_sees 159 = .ok (.iload 8, 2) := by decide +kernel
theorem dX12_sees_161 : decode cX12_sees 161 = .ok (.ifCond .ne 7, 3) := by decide +kernel
theorem dX12_sees_164 : decode cX12_sees 164 = .ok (.iconst 1, 1) := by decide +kernel
theorem dX12_sees_165 : decode cX12_sees 165 = .ok (.goto 5, 3) := by decide +kernel
theorem dX12_sees_168 : decode cX12_sees 168 = .ok (.iload 8, 2) := by decide +kernel
theorem dX12_sees_170 : decode cX12_sees 170 = .ok (.invokevirtual 118, 3) := by decide +kernel
theorem dX12_sees_173 : decode cX12_sees 173 = .ok (.return_, 1) := by decide +kernel
theorem dX12_see_0 : decode cX12_see 0 = .ok (.iload_n 1, 1) := by decide +kernel
theorem dX12_see_1 : decode cX12_see 1 = .ok (.i2l, 1) := by decide +kernel
theorem dX12_see_2 : decode cX12_see 2 = .ok (.lconst 0, 1) := by decide +kernel
theorem dX12_see_3 : decode cX12_see 3 = .ok (.bipush 8, 2) := by decide +kernel
theorem dX12_see_5 : decode cX12_see 5 = .ok (.aload_n 0, 1) := by decide +kernel
theorem dX12_see_6 : decode cX12_see 6 = .ok (.getfield 25, 3) := by decide +kernel
theorem dX12_see_9 : decode cX12_see 9 = .ok (.iconst 0, 1) := by decide +kernel
theorem dX12_see_10 : decode cX12_see 10 = .ok (.iaload, 1) := by decide +kernel
theorem dX12_see_11 : decode cX12_see 11 = .ok (.invokestatic 143, 3) := by decide +kernel
theorem dX12_see_14 : decode cX12_see 14 = .ok (.i2l, 1) := by decide +kernel
theorem dX12_see_15 : decode cX12_see 15 = .ok (.invokestatic 76, 3) := by decide +kernel
theorem dX12_see_18 : decode cX12_see 18 = .ok (.ifCond .eq 53, 3) := by decide +kernel
theorem dX12_see_21 : decode cX12_see 21 = .ok (.iload_n 2, 1) := by decide +kernel
theorem dX12_see_22 : decode cX12_see 22 = .ok (.i2l, 1) := by decide +kernel
theorem dX12_see_23 : decode cX12_see 23 = .ok (.lconst 0, 1) := by decide +kernel
theorem dX12_see_24 : decode cX12_see 24 = .ok (.ldc2_w 83, 3) := by decide +kernel
theorem dX12_see_27 : decode cX12_see 27 = .ok (.invokestatic 76, 3) := by decide +kernel
theorem dX12_see_30 : decode cX12_see 30 = .ok (.ifCond .eq 41, 3) := by decide +kernel
theorem dX12_see_33 : decode cX12_see 33 = .ok (.iload_n 3, 1) := by decide +kernel
theorem dX12_see_34 : decode cX12_see 34 = .ok (.i2l, 1) := by decide +kernel
theorem dX12_see_35 : decode cX12_see 35 = .ok (.lconst 0, 1) := by decide +kernel
theorem dX12_see_36 : decode cX12_see 36 = .ok (.ldc2_w 83, 3) := by decide +kernel
theorem dX12_see_39 : decode cX12_see 39 = .ok (.invokestatic 76, 3) := by decide +kernel
theorem dX12_see_42 : decode cX12_see 42 = .ok (.ifCond .eq 29, 3) := by decide +kernel
theorem dX12_see_45 : decode cX12_see 45 = .ok (.iload 4, 2) := by decide +kernel
theorem dX12_see_47 : decode cX12_see 47 = .ok (.i2l, 1) := by decide +kernel
theorem dX12_see_48 : decode cX12_see 48 = .ok (.lconst 0, 1) := by decide +kernel
theorem dX12_see_49 : decode cX12_see 49 = .ok (.ldc2_w 83, 3) := by decide +kernel
theorem dX12_see_52 : decode cX12_see 52 = .ok (.invokestatic 76, 3) := by decide +kernel
theorem dX12_see_55 : decode cX12_see 55 = .ok (.ifCond .eq 16, 3) := by decide +kernel
theorem dX12_see_58 : decode cX12_see 58 = .ok (.iload 6, 2) := by decide +kernel
theorem dX12_see_60 : decode cX12_see 60 = .ok (.i2l, 1) := by decide +kernel
theorem dX12_see_61 : decode cX12_see 61 = .ok (.lconst 0, 1) := by decide +kernel
theorem dX12_see_62 : decode cX12_see 62 = .ok (.ldc2_w 83, 3) := by decide +kernel
theorem dX12_see_65 : decode cX12_see 65 = .ok (.invokestatic 76, 3) := by decide +kernel
theorem dX12_see_68 : decode cX12_see 68 = .ok (.ifCond .ne 6, 3) := by decide +kernel
theorem dX12_see_71 : decode cX12_see 71 = .ok (.bipush (-2), 2) := by decide +kernel
theorem dX12_see_73 : decode cX12_see 73 = .ok (.ireturn, 1) := by decide +kernel
theorem dX12_see_74 : decode cX12_see 74 = .ok (.aload_n 0, 1) := by decide +kernel
theorem dX12_see_75 : decode cX12_see 75 = .ok (.iload 5, 2) := by decide +kernel
theorem dX12_see_77 : decode cX12_see 77 = .ok (.putfield 134, 3) := by decide +kernel
theorem dX12_see_80 : decode cX12_see 80 = .ok (.iconst 0, 1) := by decide +kernel
theorem dX12_see_81 : decode cX12_see 81 = .ok (.istore 7, 2) := by decide +kernel
theorem dX12_see_83 : decode cX12_see 83 = .ok (.iload 7, 2) := by decide +kernel
theorem dX12_see_85 : decode cX12_see 85 = .ok (.iload_n 1, 1) := by decide +kernel
theorem dX12_see_86 : decode cX12_see 86 = .ok (.if_icmp .ge 21, 3) := by decide +kernel
theorem dX12_see_89 : decode cX12_see 89 = .ok (.aload_n 0, 1) := by decide +kernel
theorem dX12_see_90 : decode cX12_see 90 = .ok (.iload 7, 2) := by decide +kernel
theorem dX12_see_92 : decode cX12_see 92 = .ok (.iload_n 2, 1) := by decide +kernel
theorem dX12_see_93 : decode cX12_see 93 = .ok (.iload_n 3, 1) := by decide +kernel
theorem dX12_see_94 : decode cX12_see 94 = .ok (.iload 4, 2) := by decide +kernel
theorem dX12_see_96 : decode cX12_see 96 = .ok (.iload 6, 2) := by decide +kernel
theorem dX12_see_98 : decode cX12_see 98 = .ok (.invokevirtual 149, 3) := by decide +kernel
theorem dX12_see_101 : decode cX12_see 101 = .ok (.iinc 7 1, 3) := by decide +kernel
theorem dX12_see_104 : decode cX12_see 104 = .ok (.goto (-21), 3) := by decide +kernel
theorem dX12_see_107 : decode cX12_see 107 = .ok (.aload_n 0, 1) := by decide +kernel
theorem dX12_see_108 : decode cX12_see 108 = .ok (.getfield 25, 3) := by decide +kernel
theorem dX12_see_111 : decode cX12_see 111 = .ok (.iconst 1, 1) := by decide +kernel
theorem dX12_see_112 : decode cX12_see 112 = .ok (.iload_n 1, 1) := by decide +kernel
theorem dX12_see_113 : decode cX12_see 113 = .ok (.iastore, 1) := by decide +kernel
theorem dX12_see_114 : decode cX12_see 114 = .ok (.iload_n 1, 1) := by decide +kernel
theorem dX12_see_115 : decode cX12_see 115 = .ok (.ireturn, 1) := by decide +kernel
theorem dX12_set_0 : decode cX12_set 0 = .ok (.iload_n 1, 1) := by decide +kernel
theorem dX12_set_1 : decode cX12_set 1 = .ok (.ifCond .ne 15, 3) := by decide +kernel
theorem dX12_set_4 : decode cX12_set 4 = .ok (.iload_n 2, 1) := by decide +kernel
theorem dX12_set_5 : decode cX12_set 5 = .ok (.i2l, 1) := by decide +kernel
theorem dX12_set_6 : decode cX12_set 6 = .ok (.lconst 1, 1) := by decide +kernel
theorem dX12_set_7 : decode cX12_set 7 = .ok (.ldc2_w 152, 3) := by decide +kernel
theorem dX12_set_10 : decode cX12_set 10 = .ok (.invokestatic 76, 3) := by decide +kernel
theorem dX12_set_13 : decode cX12_set 13 = .ok (.goto 59, 3) := by decide +kernel
theorem dX12_set_16 : decode cX12_set 16 = .ok (.iload_n 1, 1) := by decide +kernel
theorem dX12_set_17 : decode cX12_set 17 = .ok (.iconst 1, 1) := by decide +kernel
theorem dX12_set_18 : decode cX12_set 18 = .ok (.if_icmp .ne 15, 3) := by decide +kernel
theorem dX12_set_21 : decode cX12_set 21 = .ok (.iload_n 2, 1) := by decide +kernel
theorem dX12_set_22 : decode cX12_set 22 = .ok (.i2l, 1) := by decide +kernel
theorem dX12_set_23 : decode cX12_set 23 = .ok (.lconst 0, 1) := by decide +kernel
theorem dX12_set_24 : decode cX12_set 24 = .ok (.ldc2_w 152, 3) := by decide +kernel
theorem dX12_set_27 : decode cX12_set 27 = .ok (.invokestatic 76, 3) := by decide +kernel
theorem dX12_set_30 : decode cX12_set 30 = .ok (.goto 42, 3) := by decide +kernel
theorem dX12_set_33 : decode cX12_set 33 = .ok (.iload_n 1, 1) := by decide +kernel
theorem dX12_set_34 : decode cX12_set 34 = .ok (.iconst 2, 1) := by decide +kernel
theorem dX12_set_35 : decode cX12_set 35 = .ok (.if_icmp .ne 15, 3) := by decide +kernel
theorem dX12_set_38 : decode cX12_set 38 = .ok (.iload_n 2, 1) := by decide +kernel
theorem dX12_set_39 : decode cX12_set 39 = .ok (.i2l, 1) := by decide +kernel
theorem dX12_set_40 : decode cX12_set 40 = .ok (.lconst 1, 1) := by decide +kernel
theorem dX12_set_41 : decode cX12_set 41 = .ok (.ldc2_w 154, 3) := by decide +kernel
theorem dX12_set_44 : decode cX12_set 44 = .ok (.invokestatic 76, 3) := by decide +kernel
theorem dX12_set_47 : decode cX12_set 47 = .ok (.goto 25, 3) := by decide +kernel
theorem dX12_set_50 : decode cX12_set 50 = .ok (.iload_n 1, 1) := by decide +kernel
theorem dX12_set_51 : decode cX12_set 51 = .ok (.iconst 3, 1) := by decide +kernel
theorem dX12_set_52 : decode cX12_set 52 = .ok (.if_icmp .ne 19, 3) := by decide +kernel
theorem dX12_set_55 : decode cX12_set 55 = .ok (.iload_n 2, 1) := by decide +kernel
theorem dX12_set_56 : decode cX12_set 56 = .ok (.i2l, 1) := by decide +kernel
theorem dX12_set_57 : decode cX12_set 57 = .ok (.lconst 0, 1) := by decide +kernel
theorem dX12_set_58 : decode cX12_set 58 = .ok (.ldc2_w 156, 3) := by decide +kernel
theorem dX12_set_61 : decode cX12_set 61 = .ok (.invokestatic 76, 3) := by decide +kernel
theorem dX12_set_64 : decode cX12_set 64 = .ok (.ifCond .eq 7, 3) := by decide +kernel
theorem dX12_set_67 : decode cX12_set 67 = .ok (.iconst 1, 1) := by decide +kernel
theorem dX12_set_68 : decode cX12_set 68 = .ok (.goto 4, 3) := by decide +kernel
theorem dX12_set_71 : decode cX12_set 71 = .ok (.iconst 0, 1) := by decide +kernel
theorem dX12_set_72 : decode cX12_set 72 = .ok (.istore_n 3, 1) := by decide +kernel
theorem dX12_set_73 : decode cX12_set 73 = .ok (.iload_n 3, 1) := by decide +kernel
theorem dX12_set_74 : decode cX12_set 74 = .ok (.ifCond .ne 6, 3) := by decide +kernel
theorem dX12_set_77 : decode cX12_set 77 = .ok (.bipush (-2), 2) := by decide +kernel
theorem dX12_set_79 : decode cX12_set 79 = .ok (.ireturn, 1) := by decide +kernel
theorem dX12_set_80 : decode cX12_set 80 = .ok (.aload_n 0, 1) := by decide +kernel
theorem dX12_set_81 : decode cX12_set 81 = .ok (.getfield 28, 3) := by decide +kernel
theorem dX12_set_84 : decode cX12_set 84 = .ok (.iload_n 1, 1) := by decide +kernel
theorem dX12_set_85 : decode cX12_set 85 = .ok (.iaload, 1) := by decide +kernel
theorem dX12_set_86 : decode cX12_set 86 = .ok (.istore 4, 2) := by decide +kernel
theorem dX12_set_88 : decode cX12_set 88 = .ok (.aload_n 0, 1) := by decide +kernel
theorem dX12_set_89 : decode cX12_set 89 = .ok (.getfield 28, 3) := by decide +kernel
theorem dX12_set_92 : decode cX12_set 92 = .ok (.iload_n 1, 1) := by decide +kernel
theorem dX12_set_93 : decode cX12_set 93 = .ok (.iload_n 2, 1) := by decide +kernel
theorem dX12_set_94 : decode cX12_set 94 = .ok (.iastore, 1) := by decide +kernel
theorem dX12_set_95 : decode cX12_set 95 = .ok (.iload 4, 2) := by decide +kernel
theorem dX12_set_97 : decode cX12_set 97 = .ok (.ireturn, 1) := by decide +kernel
theorem dX12_sideOf_0 : decode cX12_sideOf 0 = .ok (.iconst 0, 1) := by decide +kernel
theorem dX12_sideOf_1 : decode cX12_sideOf 1 = .ok (.istore 4, 2) := by decide +kernel
theorem dX12_sideOf_3 : decode cX12_sideOf 3 = .ok (.iconst 0, 1) := by decide +kernel
theorem dX12_sideOf_4 : decode cX12_sideOf 4 = .ok (.istore 5, 2) := by decide +kernel
theorem dX12_sideOf_6 : decode cX12_sideOf 6 = .ok (.iload 5, 2) := by decide +kernel
theorem dX12_sideOf_8 : decode cX12_sideOf 8 = .ok (.iconst 3, 1) := by decide +kernel
theorem dX12_sideOf_9 : decode cX12_sideOf 9 = .ok (.if_icmp .ge 38, 3) := by decide +kernel
theorem dX12_sideOf_12 : decode cX12_sideOf 12 = .ok (.aload_n 0, 1) := by decide +kernel
theorem dX12_sideOf_13 : decode cX12_sideOf 13 = .ok (.iload_n 1, 1) := by decide +kernel
theorem dX12_sideOf_14 : decode cX12_sideOf 14 = .ok (.iload_n 2, 1) := by decide +kernel
theorem dX12_sideOf_15 : decode cX12_sideOf 15 = .ok (.iload 5, 2) := by decide +kernel
theorem dX12_sideOf_17 : decode cX12_sideOf 17 = .ok (.invokevirtual 126, 3) := by decide +kernel
theorem dX12_sideOf_20 : decode cX12_sideOf 20 = .ok (.aload_n 0, 1) := by decide +kernel
theorem dX12_sideOf_21 : decode cX12_sideOf 21 = .ok (.iload_n 1, 1) := by decide +kernel
theorem dX12_sideOf_22 : decode cX12_sideOf 22 = .ok (.iload_n 3, 1) := by decide +kernel
theorem dX12_sideOf_23 : decode cX12_sideOf 23 = .ok (.iload 5, 2) := by decide +kernel
theorem dX12_sideOf_25 : decode cX12_sideOf 25 = .ok (.invokevirtual 126, 3) := by decide +kernel
theorem dX12_sideOf_28 : decode cX12_sideOf 28 = .ok (.isub, 1) := by decide +kernel
theorem dX12_sideOf_29 : decode cX12_sideOf 29 = .ok (.istore 6, 2) := by decide +kernel
theorem dX12_sideOf_31 : decode cX12_sideOf 31 = .ok (.iload 4, 2) := by decide +kernel
theorem dX12_sideOf_33 : decode cX12_sideOf 33 = .ok (.iload 6, 2) := by decide +kernel
theorem dX12_sideOf_35 : decode cX12_sideOf 35 = .ok (.iload 6, 2) := by decide +kernel
theorem dX12_sideOf_37 : decode cX12_sideOf 37 = .ok (.imul, 1) := by decide +kernel
theorem dX12_sideOf_38 : decode cX12_sideOf 38 = .ok (.iadd, 1) := by decide +kernel
theorem dX12_sideOf_39 : decode cX12_sideOf 39 = .ok (.istore 4, 2) := by decide +kernel
theorem dX12_sideOf_41 : decode cX12_sideOf 41 = .ok (.iinc 5 1, 3) := by decide +kernel
theorem dX12_sideOf_44 : decode cX12_sideOf 44 = .ok (.goto (-38), 3) := by decide +kernel
theorem dX12_sideOf_47 : decode cX12_sideOf 47 = .ok (.iload 4, 2) := by decide +kernel
theorem dX12_sideOf_49 : decode cX12_sideOf 49 = .ok (.ireturn, 1) := by decide +kernel
theorem dX12_side_0 : decode cX12_side 0 = .ok (.aload_n 0, 1) := by decide +kernel
theorem dX12_side_1 : decode cX12_side 1 = .ok (.iload_n 1, 1) := by decide +kernel
theorem dX12_side_2 : decode cX12_side 2 = .ok (.iload_n 2, 1) := by decide +kernel
theorem dX12_side_3 : decode cX12_side 3 = .ok (.invokevirtual 122, 3) := by decide +kernel
theorem dX12_side_6 : decode cX12_side 6 = .ok (.ifCond .eq 22, 3) := by decide +kernel
theorem dX12_side_9 : decode cX12_side 9 = .ok (.aload_n 0, 1) := by decide +kernel
theorem dX12_side_10 : decode cX12_side 10 = .ok (.iload_n 1, 1) := by decide +kernel
theorem dX12_side_11 : decode cX12_side 11 = .ok (.iload_n 3, 1) := by decide +kernel
theorem dX12_side_12 : decode cX12_side 12 = .ok (.invokevirtual 122, 3) := by decide +kernel
theorem dX12_side_15 : decode cX12_side 15 = .ok (.ifCond .eq 13, 3) := by decide +kernel
theorem dX12_side_18 : decode cX12_side 18 = .ok (.aload_n 0, 1) := by decide +kernel
theorem dX12_side_19 : decode cX12_side 19 = .ok (.iload_n 1, 1) := by decide +kernel
theorem dX12_side_20 : decode cX12_side 20 = .ok (.iload_n 2, 1) := by decide +kernel
theorem dX12_side_21 : decode cX12_side 21 = .ok (.iload_n 3, 1) := by decide +kernel
theorem dX12_side_22 : decode cX12_side 22 = .ok (.invokevirtual 158, 3) := by decide +kernel
theorem dX12_side_25 : decode cX12_side 25 = .ok (.goto 5, 3) := by decide +kernel
theorem dX12_side_28 : decode cX12_side 28 = .ok (.bipush (-2), 2) := by decide +kernel
theorem dX12_side_30 : decode cX12_side 30 = .ok (.ireturn, 1) := by decide +kernel
theorem dX12_keyOf_0 : decode cX12_keyOf 0 = .ok (.aload_n 0, 1) := by decide +kernel
theorem dX12_keyOf_1 : decode cX12_keyOf 1 = .ok (.iload_n 1, 1) := by decide +kernel
theorem dX12_keyOf_2 : decode cX12_keyOf 2 = .ok (.iload_n 2, 1) := by decide +kernel
theorem dX12_keyOf_3 : decode cX12_keyOf 3 = .ok (.iload_n 3, 1) := by decide +kernel
theorem dX12_keyOf_4 : decode cX12_keyOf 4 = .ok (.invokevirtual 158, 3) := by decide +kernel
theorem dX12_keyOf_7 : decode cX12_keyOf 7 = .ok (.istore 6, 2) := by decide +kernel
theorem dX12_keyOf_9 : decode cX12_keyOf 9 = .ok (.aload_n 0, 1) := by decide +kernel
theorem dX12_keyOf_10 : decode cX12_keyOf 10 = .ok (.iload_n 1, 1) := by decide +kernel
theorem dX12_keyOf_11 : decode cX12_keyOf 11 = .ok (.iload_n 2, 1) := by decide +kernel
theorem dX12_keyOf_12 : decode cX12_keyOf 12 = .ok (.iload 4, 2) := by decide +kernel
theorem dX12_keyOf_14 : decode cX12_keyOf 14 = .ok (.invokevirtual 158, 3) := by decide +kernel
theorem dX12_keyOf_17 : decode cX12_keyOf 17 = .ok (.istore 7, 2) := by decide +kernel
theorem dX12_keyOf_19 : decode cX12_keyOf 19 = .ok (.aload_n 0, 1) := by decide +kernel
theorem dX12_keyOf_20 : decode cX12_keyOf 20 = .ok (.iload_n 1, 1) := by decide +kernel
theorem dX12_keyOf_21 : decode cX12_keyOf 21 = .ok (.iload_n 3, 1) := by decide +kernel
theorem dX12_keyOf_22 : decode cX12_keyOf 22 = .ok (.iload 4, 2) := by decide +kernel
theorem dX12_keyOf_24 : decode cX12_keyOf 24 = .ok (.invokevirtual 158, 3) := by decide +kernel
theorem dX12_keyOf_27 : decode cX12_keyOf 27 = .ok (.istore 8, 2) := by decide +kernel
theorem dX12_keyOf_29 : decode cX12_keyOf 29 = .ok (.iload 6, 2) := by decide +kernel
theorem dX12_keyOf_31 : decode cX12_keyOf 31 = .ok (.iload 7, 2) := by decide +kernel
theorem dX12_keyOf_33 : decode cX12_keyOf 33 = .ok (.iload 8, 2) := by decide +kernel
theorem dX12_keyOf_35 : decode cX12_keyOf 35 = .ok (.invokestatic 143, 3) := by decide +kernel
theorem dX12_keyOf_38 : decode cX12_keyOf 38 = .ok (.invokestatic 143, 3) := by decide +kernel
theorem dX12_keyOf_41 : decode cX12_keyOf 41 = .ok (.istore 9, 2) := by decide +kernel
theorem dX12_keyOf_43 : decode cX12_keyOf 43 = .ok (.iload 6, 2) := by decide +kernel
theorem dX12_keyOf_45 : decode cX12_keyOf 45 = .ok (.iload 7, 2) := by decide +kernel
theorem dX12_keyOf_47 : decode cX12_keyOf 47 = .ok (.iload 8, 2) := by decide +kernel
theorem dX12_keyOf_49 : decode cX12_keyOf 49 = .ok (.invokestatic 140, 3) := by decide +kernel
theorem dX12_keyOf_52 : decode cX12_keyOf 52 = .ok (.invokestatic 140, 3) := by decide +kernel
theorem dX12_keyOf_55 : decode cX12_keyOf 55 = .ok (.istore 10, 2) := by decide +kernel
theorem dX12_keyOf_57 : decode cX12_keyOf 57 = .ok (.iload 5, 2) := by decide +kernel
theorem dX12_keyOf_59 : decode cX12_keyOf 59 = .ok (.ifCond .ne 8, 3) := by decide +kernel
theorem dX12_keyOf_62 : decode cX12_keyOf 62 = .ok (.iload 9, 2) := by decide +kernel
theorem dX12_keyOf_64 : decode cX12_keyOf 64 = .ok (.goto 28, 3) := by decide +kernel
theorem dX12_keyOf_67 : decode cX12_keyOf 67 = .ok (.iload 5, 2) := by decide +kernel
theorem dX12_keyOf_69 : decode cX12_keyOf 69 = .ok (.iconst 2, 1) := by decide +kernel
theorem dX12_keyOf_70 : decode cX12_keyOf 70 = .ok (.if_icmp .ne 8, 3) := by decide +kernel
theorem dX12_keyOf_73 : decode cX12_keyOf 73 = .ok (.iload 10, 2) := by decide +kernel
theorem dX12_keyOf_75 : decode cX12_keyOf 75 = .ok (.goto 17, 3) := by decide +kernel
theorem dX12_keyOf_78 : decode cX12_keyOf 78 = .ok (.iload 6, 2) := by decide +kernel
theorem dX12_keyOf_80 : decode cX12_keyOf 80 = .ok (.iload 7, 2) := by decide +kernel
theorem dX12_keyOf_82 : decode cX12_keyOf 82 = .ok (.iadd, 1) := by decide +kernel
theorem dX12_keyOf_83 : decode cX12_keyOf 83 = .ok (.iload 8, 2) := by decide +kernel
theorem dX12_keyOf_85 : decode cX12_keyOf 85 = .ok (.iadd, 1) := by decide +kernel
theorem dX12_keyOf_86 : decode cX12_keyOf 86 = .ok (.iload 9, 2) := by decide +kernel
theorem dX12_keyOf_88 : decode cX12_keyOf 88 = .ok (.isub, 1) := by decide +kernel
theorem dX12_keyOf_89 : decode cX12_keyOf 89 = .ok (.iload 10, 2) := by decide +kernel
theorem dX12_keyOf_91 : decode cX12_keyOf 91 = .ok (.isub, 1) := by decide +kernel
theorem dX12_keyOf_92 : decode cX12_keyOf 92 = .ok (.aload_n 0, 1) := by decide +kernel
theorem dX12_keyOf_93 : decode cX12_keyOf 93 = .ok (.getfield 28, 3) := by decide +kernel
theorem dX12_keyOf_96 : decode cX12_keyOf 96 = .ok (.iconst 0, 1) := by decide +kernel
theorem dX12_keyOf_97 : decode cX12_keyOf 97 = .ok (.iaload, 1) := by decide +kernel
theorem dX12_keyOf_98 : decode cX12_keyOf 98 = .ok (.idiv, 1) := by decide +kernel
theorem dX12_keyOf_99 : decode cX12_keyOf 99 = .ok (.ireturn, 1) := by decide +kernel
theorem dX12_isTriangle_0 : decode cX12_isTriangle 0 = .ok (.aload_n 0, 1) := by decide +kernel
theorem dX12_isTriangle_1 : decode cX12_isTriangle 1 = .ok (.iload_n 1, 1) := by decide +kernel
theorem dX12_isTriangle_2 : decode cX12_isTriangle 2 = .ok (.iload_n 2, 1) := by decide +kernel
theorem dX12_isTriangle_3 : decode cX12_isTriangle 3 = .ok (.invokevirtual 122, 3) := by decide +kernel
theorem dX12_isTriangle_6 : decode cX12_isTriangle 6 = .ok (.ifCond .eq 43, 3) := by decide +kernel
theorem dX12_isTriangle_9 : decode cX12_isTriangle 9 = .ok (.aload_n 0, 1) := by decide +kernel
theorem dX12_isTriangle_10 : decode cX12_isTriangle 10 = .ok (.iload_n 1, 1) := by decide +kernel
theorem dX12_isTriangle_11 : decode cX12_isTriangle 11 = .ok (.iload_n 3, 1) := by decide +kernel
theorem dX12_isTriangle_12 : decode cX12_isTriangle 12 = .ok (.invokevirtual 122, 3) := by decide +kernel
theorem dX12_isTriangle_15 : decode cX12_isTriangle 15 = .ok (.ifCond .eq 34, 3) := by decide +kernel
theorem dX12_isTriangle_18 : decode cX12_isTriangle 18 = .ok (.aload_n 0, 1) := by decide +kernel
theorem dX12_isTriangle_19 : decode cX12_isTriangle 19 = .ok (.iload_n 1, 1) := by decide +kernel
theorem dX12_isTriangle_20 : decode cX12_isTriangle 20 = .ok (.iload 4, 2) := by decide +kernel
theorem dX12_isTriangle_22 : decode cX12_isTriangle 22 = .ok (.invokevirtual 122, 3) := by decide +kernel
theorem dX12_isTriangle_25 : decode cX12_isTriangle 25 = .ok (.ifCond .eq 24, 3) := by decide +kernel
theorem dX12_isTriangle_28 : decode cX12_isTriangle 28 = .ok (.iload_n 2, 1) := by decide +kernel
theorem dX12_isTriangle_29 : decode cX12_isTriangle 29 = .ok (.iload_n 3, 1) := by decide +kernel
theorem dX12_isTriangle_30 : decode cX12_isTriangle 30 = .ok (.if_icmp .eq 19, 3) := by decide +kernel
theorem dX12_isTriangle_33 : decode cX12_isTriangle 33 = .ok (.iload_n 2, 1) := by decide +kernel
theorem dX12_isTriangle_34 : decode cX12_isTriangle 34 = .ok (.iload 4, 2) := by decide +kernel
theorem dX12_isTriangle_36 : decode cX12_isTriangle 36 = .ok (.if_icmp .eq 13, 3) := by decide +kernel
theorem dX12_isTriangle_39 : decode cX12_isTriangle 39 = .ok (.iload_n 3, 1) := by decide +kernel
theorem dX12_isTriangle_40 : decode cX12_isTriangle 40 = .ok (.iload 4, 2) := by decide +kernel
theorem dX12_isTriangle_42 : decode cX12_isTriangle 42 = .ok (.if_icmp .eq 7, 3) := by decide +kernel
theorem dX12_isTriangle_45 : decode cX12_isTriangle 45 = .ok (.iconst 1, 1) := by decide +kernel
theorem dX12_isTriangle_46 : decode cX12_isTriangle 46 = .ok (.goto 4, 3) := by decide +kernel
theorem dX12_isTriangle_49 : decode cX12_isTriangle 49 = .ok (.iconst 0, 1) := by decide +kernel
theorem dX12_isTriangle_50 : decode cX12_isTriangle 50 = .ok (.ireturn, 1) := by decide +kernel
theorem dX12_key_0 : decode cX12_key 0 = .ok (.aload_n 0, 1) := by decide +kernel
theorem dX12_key_1 : decode cX12_key 1 = .ok (.iload_n 1, 1) := by decide +kernel
theorem dX12_key_2 : decode cX12_key 2 = .ok (.iload_n 2, 1) := by decide +kernel
theorem dX12_key_3 : decode cX12_key 3 = .ok (.iload_n 3, 1) := by decide +kernel
theorem dX12_key_4 : decode cX12_key 4 = .ok (.iload 4, 2) := by decide +kernel
theorem dX12_key_6 : decode cX12_key 6 = .ok (.invokevirtual 161, 3) := by decide +kernel
theorem dX12_key_9 : decode cX12_key 9 = .ok (.ifCond .eq 30, 3) := by decide +kernel
theorem dX12_key_12 : decode cX12_key 12 = .ok (.iload 5, 2) := by decide +kernel
theorem dX12_key_14 : decode cX12_key 14 = .ok (.i2l, 1) := by decide +kernel
theorem dX12_key_15 : decode cX12_key 15 = .ok (.lconst 0, 1) := by decide +kernel
theorem dX12_key_16 : decode cX12_key 16 = .ok (.ldc2_w 89, 3) := by decide +kernel
theorem dX12_key_19 : decode cX12_key 19 = .ok (.invokestatic 76, 3) := by decide +kernel
theorem dX12_key_22 : decode cX12_key 22 = .ok (.ifCond .eq 17, 3) := by decide +kernel
theorem dX12_key_25 : decode cX12_key 25 = .ok (.aload_n 0, 1) := by decide +kernel
theorem dX12_key_26 : decode cX12_key 26 = .ok (.iload_n 1, 1) := by decide +kernel
theorem dX12_key_27 : decode cX12_key 27 = .ok (.iload_n 2, 1) := by decide +kernel
theorem dX12_key_28 : decode cX12_key 28 = .ok (.iload_n 3, 1) := by decide +kernel
theorem dX12_key_29 : decode cX12_key 29 = .ok (.iload 4, 2) := by decide +kernel
theorem dX12_key_31 : decode cX12_key 31 = .ok (.iload 5, 2) := by decide +kernel
theorem dX12_key_33 : decode cX12_key 33 = .ok (.invokevirtual 165, 3) := by decide +kernel
theorem dX12_key_36 : decode cX12_key 36 = .ok (.goto 5, 3) := by decide +kernel
theorem dX12_key_39 : decode cX12_key 39 = .ok (.bipush (-2), 2) := by decide +kernel
theorem dX12_key_41 : decode cX12_key 41 = .ok (.ireturn, 1) := by decide +kernel
theorem dX12_apart_0 : decode cX12_apart 0 = .ok (.iload_n 0, 1) := by decide +kernel
theorem dX12_apart_1 : decode cX12_apart 1 = .ok (.iload_n 1, 1) := by decide +kernel
theorem dX12_apart_2 : decode cX12_apart 2 = .ok (.if_icmp .ge 9, 3) := by decide +kernel
theorem dX12_apart_5 : decode cX12_apart 5 = .ok (.iload_n 1, 1) := by decide +kernel
theorem dX12_apart_6 : decode cX12_apart 6 = .ok (.iload_n 0, 1) := by decide +kernel
theorem dX12_apart_7 : decode cX12_apart 7 = .ok (.isub, 1) := by decide +kernel
theorem dX12_apart_8 : decode cX12_apart 8 = .ok (.goto 6, 3) := by decide +kernel
theorem dX12_apart_11 : decode cX12_apart 11 = .ok (.iload_n 0, 1) := by decide +kernel
theorem dX12_apart_12 : decode cX12_apart 12 = .ok (.iload_n 1, 1) := by decide +kernel
theorem dX12_apart_13 : decode cX12_apart 13 = .ok (.isub, 1) := by decide +kernel
theorem dX12_apart_14 : decode cX12_apart 14 = .ok (.ireturn, 1) := by decide +kernel
theorem dX12_isLike_0 : decode cX12_isLike 0 = .ok (.aload_n 0, 1) := by decide +kernel
theorem dX12_isLike_1 : decode cX12_isLike 1 = .ok (.iconst 1, 1) := by decide +kernel
theorem dX12_isLike_2 : decode cX12_isLike 2 = .ok (.iload_n 1, 1) := by decide +kernel
theorem dX12_isLike_3 : decode cX12_isLike 3 = .ok (.iload_n 2, 1) := by decide +kernel
theorem dX12_isLike_4 : decode cX12_isLike 4 = .ok (.invokevirtual 158, 3) := by decide +kernel
theorem dX12_isLike_7 : decode cX12_isLike 7 = .ok (.aload_n 0, 1) := by decide +kernel
theorem dX12_isLike_8 : decode cX12_isLike 8 = .ok (.iconst 0, 1) := by decide +kernel
theorem dX12_isLike_9 : decode cX12_isLike 9 = .ok (.iload_n 3, 1) := by decide +kernel
theorem dX12_isLike_10 : decode cX12_isLike 10 = .ok (.iload 4, 2) := by decide +kernel
theorem dX12_isLike_12 : decode cX12_isLike 12 = .ok (.invokevirtual 158, 3) := by decide +kernel
theorem dX12_isLike_15 : decode cX12_isLike 15 = .ok (.invokestatic 169, 3) := by decide +kernel
theorem dX12_isLike_18 : decode cX12_isLike 18 = .ok (.aload_n 0, 1) := by decide +kernel
theorem dX12_isLike_19 : decode cX12_isLike 19 = .ok (.getfield 28, 3) := by decide +kernel
theorem dX12_isLike_22 : decode cX12_isLike 22 = .ok (.iconst 1, 1) := by decide +kernel
theorem dX12_isLike_23 : decode cX12_isLike 23 = .ok (.iaload, 1) := by decide +kernel
theorem dX12_isLike_24 : decode cX12_isLike 24 = .ok (.if_icmp .gt 7, 3) := by decide +kernel
theorem dX12_isLike_27 : decode cX12_isLike 27 = .ok (.iconst 1, 1) := by decide +kernel
theorem dX12_isLike_28 : decode cX12_isLike 28 = .ok (.goto 4, 3) := by decide +kernel
theorem dX12_isLike_31 : decode cX12_isLike 31 = .ok (.iconst 0, 1) := by decide +kernel
theorem dX12_isLike_32 : decode cX12_isLike 32 = .ok (.ireturn, 1) := by decide +kernel
theorem dX12_tries_0 : decode cX12_tries 0 = .ok (.aload_n 0, 1) := by decide +kernel
theorem dX12_tries_1 : decode cX12_tries 1 = .ok (.iload_n 1, 1) := by decide +kernel
theorem dX12_tries_2 : decode cX12_tries 2 = .ok (.iload_n 2, 1) := by decide +kernel
theorem dX12_tries_3 : decode cX12_tries 3 = .ok (.iload 4, 2) := by decide +kernel
theorem dX12_tries_5 : decode cX12_tries 5 = .ok (.iload 5, 2) := by decide +kernel
theorem dX12_tries_7 : decode cX12_tries 7 = .ok (.invokevirtual 172, 3) := by decide +kernel
theorem dX12_tries_10 : decode cX12_tries 10 = .ok (.ifCond .eq 87, 3) := by decide +kernel
theorem dX12_tries_13 : decode cX12_tries 13 = .ok (.aload_n 0, 1) := by decide +kernel
theorem dX12_tries_14 : decode cX12_tries 14 = .ok (.iload_n 2, 1) := by decide +kernel
theorem dX12_tries_15 : decode cX12_tries 15 = .ok (.iload_n 3, 1) := by decide +kernel
theorem dX12_tries_16 : decode cX12_tries 16 = .ok (.iload 5, 2) := by decide +kernel
theorem dX12_tries_18 : decode cX12_tries 18 = .ok (.iload 6, 2) := by decide +kernel
theorem dX12_tries_20 : decode cX12_tries 20 = .ok (.invokevirtual 172, 3) := by decide +kernel
theorem dX12_tries_23 : decode cX12_tries 23 = .ok (.ifCond .eq 74, 3) := by decide +kernel
theorem dX12_tries_26 : decode cX12_tries 26 = .ok (.aload_n 0, 1) := by decide +kernel
theorem dX12_tries_27 : decode cX12_tries 27 = .ok (.iload_n 1, 1) := by decide +kernel
theorem dX12_tries_28 : decode cX12_tries 28 = .ok (.iload_n 3, 1) := by decide +kernel
theorem dX12_tries_29 : decode cX12_tries 29 = .ok (.iload 4, 2) := by decide +kernel
theorem dX12_tries_31 : decode cX12_tries 31 = .ok (.iload 6, 2) := by decide +kernel
theorem dX12_tries_33 : decode cX12_tries 33 = .ok (.invokevirtual 172, 3) := by decide +kernel
theorem dX12_tries_36 : decode cX12_tries 36 = .ok (.ifCond .eq 61, 3) := by decide +kernel
theorem dX12_tries_39 : decode cX12_tries 39 = .ok (.aload_n 0, 1) := by decide +kernel
theorem dX12_tries_40 : decode cX12_tries 40 = .ok (.dup, 1) := by decide +kernel
theorem dX12_tries_41 : decode cX12_tries 41 = .ok (.getfield 175, 3) := by decide +kernel
theorem dX12_tries_44 : decode cX12_tries 44 = .ok (.iconst 1, 1) := by decide +kernel
theorem dX12_tries_45 : decode cX12_tries 45 = .ok (.iadd, 1) := by decide +kernel
theorem dX12_tries_46 : decode cX12_tries 46 = .ok (.putfield 175, 3) := by decide +kernel
theorem dX12_tries_49 : decode cX12_tries 49 = .ok (.aload_n 0, 1) := by decide +kernel
theorem dX12_tries_50 : decode cX12_tries 50 = .ok (.getfield 35, 3) := by decide +kernel
theorem dX12_tries_53 : decode cX12_tries 53 = .ok (.bipush 12, 2) := by decide +kernel
theorem dX12_tries_55 : decode cX12_tries 55 = .ok (.iload_n 1, 1) := by decide +kernel
theorem dX12_tries_56 : decode cX12_tries 56 = .ok (.imul, 1) := by decide +kernel
theorem dX12_tries_57 : decode cX12_tries 57 = .ok (.iload 4, 2) := by decide +kernel
theorem dX12_tries_59 : decode cX12_tries 59 = .ok (.iadd, 1) := by decide +kernel
theorem dX12_tries_60 : decode cX12_tries 60 = .ok (.dup2, 1) := by decide +kernel
theorem dX12_tries_61 : decode cX12_tries 61 = .ok (.iaload, 1) := by decide +kernel
theorem dX12_tries_62 : decode cX12_tries 62 = .ok (.iconst 1, 1) := by decide +kernel
theorem dX12_tries_63 : decode cX12_tries 63 = .ok (.iadd, 1) := by decide +kernel
theorem dX12_tries_64 : decode cX12_tries 64 = .ok (.iastore, 1) := by decide +kernel
theorem dX12_tries_65 : decode cX12_tries 65 = .ok (.aload_n 0, 1) := by decide +kernel
theorem dX12_tries_66 : decode cX12_tries 66 = .ok (.getfield 35, 3) := by decide +kernel
theorem dX12_tries_69 : decode cX12_tries 69 = .ok (.bipush 12, 2) := by decide +kernel
theorem dX12_tries_71 : decode cX12_tries 71 = .ok (.iload_n 2, 1) := by decide +kernel
theorem dX12_tries_72 : decode cX12_tries 72 = .ok (.imul, 1) := by decide +kernel
theorem dX12_tries_73 : decode cX12_tries 73 = .ok (.iload 5, 2) := by decide +kernel
theorem dX12_tries_75 : decode cX12_tries 75 = .ok (.iadd, 1) := by decide +kernel
theorem dX12_tries_76 : decode cX12_tries 76 = .ok (.dup2, 1) := by decide +kernel
theorem dX12_tries_77 : decode cX12_tries 77 = .ok (.iaload, 1) := by decide +kernel
theorem dX12_tries_78 : decode cX12_tries 78 = .ok (.iconst 1, 1) := by decide +kernel
theorem dX12_tries_79 : decode cX12_tries 79 = .ok (.iadd, 1) := by decide +kernel
theorem dX12_tries_80 : decode cX12_tries 80 = .ok (.iastore, 1) := by decide +kernel
theorem dX12_tries_81 : decode cX12_tries 81 = .ok (.aload_n 0, 1) := by decide +kernel
theorem dX12_tries_82 : decode cX12_tries 82 = .ok (.getfield 35, 3) := by decide +kernel
theorem dX12_tries_85 : decode cX12_tries 85 = .ok (.bipush 12, 2) := by decide +kernel
theorem dX12_tries_87 : decode cX12_tries 87 = .ok (.iload_n 3, 1) := by decide +kernel
theorem dX12_tries_88 : decode cX12_tries 88 = .ok (.imul, 1) := by decide +kernel
theorem dX12_tries_89 : decode cX12_tries 89 = .ok (.iload 6, 2) := by decide +kernel
theorem dX12_tries_91 : decode cX12_tries 91 = .ok (.iadd, 1) := by decide +kernel
theorem dX12_tries_92 : decode cX12_tries 92 = .ok (.dup2, 1) := by decide +kernel
theorem dX12_tries_93 : decode cX12_tries 93 = .ok (.iaload, 1) := by decide +kernel
theorem dX12_tries_94 : decode cX12_tries 94 = .ok (.iconst 1, 1) := by decide +kernel
theorem dX12_tries_95 : decode cX12_tries 95 = .ok (.iadd, 1) := by decide +kernel
theorem dX12_tries_96 : decode cX12_tries 96 = .ok (.iastore, 1) := by decide +kernel
theorem dX12_tries_97 : decode cX12_tries 97 = .ok (.return_, 1) := by decide +kernel
theorem dX12_meets_0 : decode cX12_meets 0 = .ok (.iconst 1, 1) := by decide +kernel
theorem dX12_meets_1 : decode cX12_meets 1 = .ok (.istore 7, 2) := by decide +kernel
theorem dX12_meets_3 : decode cX12_meets 3 = .ok (.iconst 0, 1) := by decide +kernel
theorem dX12_meets_4 : decode cX12_meets 4 = .ok (.istore 8, 2) := by decide +kernel
theorem dX12_meets_6 : decode cX12_meets 6 = .ok (.iload 8, 2) := by decide +kernel
theorem dX12_meets_8 : decode cX12_meets 8 = .ok (.iconst 3, 1) := by decide +kernel
theorem dX12_meets_9 : decode cX12_meets 9 = .ok (.if_icmp .ge 51, 3) := by decide +kernel
theorem dX12_meets_12 : decode cX12_meets 12 = .ok (.iload 7, 2) := by decide +kernel
theorem dX12_meets_14 : decode cX12_meets 14 = .ok (.ifCond .eq 37, 3) := by decide +kernel
theorem dX12_meets_17 : decode cX12_meets 17 = .ok (.aload_n 0, 1) := by decide +kernel
theorem dX12_meets_18 : decode cX12_meets 18 = .ok (.iconst 1, 1) := by decide +kernel
theorem dX12_meets_19 : decode cX12_meets 19 = .ok (.iload_n 1, 1) := by decide +kernel
theorem dX12_meets_20 : decode cX12_meets 20 = .ok (.iload_n 2, 1) := by decide +kernel
theorem dX12_meets_21 : decode cX12_meets 21 = .ok (.iload_n 3, 1) := by decide +kernel
theorem dX12_meets_22 : decode cX12_meets 22 = .ok (.iload 8, 2) := by decide +kernel
theorem dX12_meets_24 : decode cX12_meets 24 = .ok (.invokevirtual 165, 3) := by decide +kernel
theorem dX12_meets_27 : decode cX12_meets 27 = .ok (.aload_n 0, 1) := by decide +kernel
theorem dX12_meets_28 : decode cX12_meets 28 = .ok (.iconst 0, 1) := by decide +kernel
theorem dX12_meets_29 : decode cX12_meets 29 = .ok (.iload 4, 2) := by decide +kernel
theorem dX12_meets_31 : decode cX12_meets 31 = .ok (.iload 5, 2) := by decide +kernel
theorem dX12_meets_33 : decode cX12_meets 33 = .ok (.iload 6, 2) := by decide +kernel
theorem dX12_meets_35 : decode cX12_meets 35 = .ok (.iload 8, 2) := by decide +kernel
theorem dX12_meets_37 : decode cX12_meets 37 = .ok (.invokevirtual 165, 3) := by decide +kernel
theorem dX12_meets_40 : decode cX12_meets 40 = .ok (.invokestatic 169, 3) := by decide +kernel
theorem dX12_meets_43 : decode cX12_meets 43 = .ok (.iconst 1, 1) := by decide +kernel
theorem dX12_meets_44 : decode cX12_meets 44 = .ok (.if_icmp .gt 7, 3) := by decide +kernel
theorem dX12_meets_47 : decode cX12_meets 47 = .ok (.iconst 1, 1) := by decide +kernel
theorem dX12_meets_48 : decode cX12_meets 48 = .ok (.goto 4, 3) := by decide +kernel
theorem dX12_meets_51 : decode cX12_meets 51 = .ok (.iconst 0, 1) := by decide +kernel
theorem dX12_meets_52 : decode cX12_meets 52 = .ok (.istore 7, 2) := by decide +kernel
theorem dX12_meets_54 : decode cX12_meets 54 = .ok (.iinc 8 1, 3) := by decide +kernel
theorem dX12_meets_57 : decode cX12_meets 57 = .ok (.goto (-51), 3) := by decide +kernel
theorem dX12_meets_60 : decode cX12_meets 60 = .ok (.iload 7, 2) := by decide +kernel
theorem dX12_meets_62 : decode cX12_meets 62 = .ok (.ifCond .eq 91, 3) := by decide +kernel
theorem dX12_meets_65 : decode cX12_meets 65 = .ok (.aload_n 0, 1) := by decide +kernel
theorem dX12_meets_66 : decode cX12_meets 66 = .ok (.dup, 1) := by decide +kernel
theorem dX12_meets_67 : decode cX12_meets 67 = .ok (.getfield 178, 3) := by decide +kernel
theorem dX12_meets_70 : decode cX12_meets 70 = .ok (.iconst 1, 1) := by decide +kernel
theorem dX12_meets_71 : decode cX12_meets 71 = .ok (.iadd, 1) := by decide +kernel
theorem dX12_meets_72 : decode cX12_meets 72 = .ok (.putfield 178, 3) := by decide +kernel
theorem dX12_meets_75 : decode cX12_meets 75 = .ok (.aload_n 0, 1) := by decide +kernel
theorem dX12_meets_76 : decode cX12_meets 76 = .ok (.iload_n 1, 1) := by decide +kernel
theorem dX12_meets_77 : decode cX12_meets 77 = .ok (.iload_n 2, 1) := by decide +kernel
theorem dX12_meets_78 : decode cX12_meets 78 = .ok (.iload_n 3, 1) := by decide +kernel
theorem dX12_meets_79 : decode cX12_meets 79 = .ok (.iload 4, 2) := by decide +kernel
theorem dX12_meets_81 : decode cX12_meets 81 = .ok (.iload 5, 2) := by decide +kernel
theorem dX12_meets_83 : decode cX12_meets 83 = .ok (.iload 6, 2) := by decide +kernel
theorem dX12_meets_85 : decode cX12_meets 85 = .ok (.invokevirtual 181, 3) := by decide +kernel
theorem dX12_meets_88 : decode cX12_meets 88 = .ok (.aload_n 0, 1) := by decide +kernel
theorem dX12_meets_89 : decode cX12_meets 89 = .ok (.iload_n 1, 1) := by decide +kernel
theorem dX12_meets_90 : decode cX12_meets 90 = .ok (.iload_n 2, 1) := by decide +kernel
theorem dX12_meets_91 : decode cX12_meets 91 = .ok (.iload_n 3, 1) := by decide +kernel
theorem dX12_meets_92 : decode cX12_meets 92 = .ok (.iload 4, 2) := by decide +kernel
theorem dX12_meets_94 : decode cX12_meets 94 = .ok (.iload 6, 2) := by decide +kernel
theorem dX12_meets_96 : decode cX12_meets 96 = .ok (.iload 5, 2) := by decide +kernel
theorem dX12_meets_98 : decode cX12_meets 98 = .ok (.invokevirtual 181, 3) := by decide +kernel
theorem dX12_meets_101 : decode cX12_meets 101 = .ok (.aload_n 0, 1) := by decide +kernel
theorem dX12_meets_102 : decode cX12_meets 102 = .ok (.iload_n 1, 1) := by decide +kernel
theorem dX12_meets_103 : decode cX12_meets 103 = .ok (.iload_n 2, 1) := by decide +kernel
theorem dX12_meets_104 : decode cX12_meets 104 = .ok (.iload_n 3, 1) := by decide +kernel
theorem dX12_meets_105 : decode cX12_meets 105 = .ok (.iload 5, 2) := by decide +kernel
theorem dX12_meets_107 : decode cX12_meets 107 = .ok (.iload 4, 2) := by decide +kernel
theorem dX12_meets_109 : decode cX12_meets 109 = .ok (.iload 6, 2) := by decide +kernel
theorem dX12_meets_111 : decode cX12_meets 111 = .ok (.invokevirtual 181, 3) := by decide +kernel
theorem dX12_meets_114 : decode cX12_meets 114 = .ok (.aload_n 0, 1) := by decide +kernel
theorem dX12_meets_115 : decode cX12_meets 115 = .ok (.iload_n 1, 1) := by decide +kernel
theorem dX12_meets_116 : decode cX12_meets 116 = .ok (.iload_n 2, 1) := by decide +kernel
theorem dX12_meets_117 : decode cX12_meets 117 = .ok (.iload_n 3, 1) := by decide +kernel
theorem dX12_meets_118 : decode cX12_meets 118 = .ok (.iload 5, 2) := by decide +kernel
theorem dX12_meets_120 : decode cX12_meets 120 = .ok (.iload 6, 2) := by decide +kernel
theorem dX12_meets_122 : decode cX12_meets 122 = .ok (.iload 4, 2) := by decide +kernel
theorem dX12_meets_124 : decode cX12_meets 124 = .ok (.invokevirtual 181, 3) := by decide +kernel
theorem dX12_meets_127 : decode cX12_meets 127 = .ok (.aload_n 0, 1) := by decide +kernel
theorem dX12_meets_128 : decode cX12_meets 128 = .ok (.iload_n 1, 1) := by decide +kernel
theorem dX12_meets_129 : decode cX12_meets 129 = .ok (.iload_n 2, 1) := by decide +kernel
theorem dX12_meets_130 : decode cX12_meets 130 = .ok (.iload_n 3, 1) := by decide +kernel
theorem dX12_meets_131 : decode cX12_meets 131 = .ok (.iload 6, 2) := by decide +kernel
theorem dX12_meets_133 : decode cX12_meets 133 = .ok (.iload 4, 2) := by decide +kernel
theorem dX12_meets_135 : decode cX12_meets 135 = .ok (.iload 5, 2) := by decide +kernel
theorem dX12_meets_137 : decode cX12_meets 137 = .ok (.invokevirtual 181, 3) := by decide +kernel
theorem dX12_meets_140 : decode cX12_meets 140 = .ok (.aload_n 0, 1) := by decide +kernel
theorem dX12_meets_141 : decode cX12_meets 141 = .ok (.iload_n 1, 1) := by decide +kernel
theorem dX12_meets_142 : decode cX12_meets 142 = .ok (.iload_n 2, 1) := by decide +kernel
theorem dX12_meets_143 : decode cX12_meets 143 = .ok (.iload_n 3, 1) := by decide +kernel
theorem dX12_meets_144 : decode cX12_meets 144 = .ok (.iload 6, 2) := by decide +kernel
theorem dX12_meets_146 : decode cX12_meets 146 = .ok (.iload 5, 2) := by decide +kernel
theorem dX12_meets_148 : decode cX12_meets 148 = .ok (.iload 4, 2) := by decide +kernel
theorem dX12_meets_150 : decode cX12_meets 150 = .ok (.invokevirtual 181, 3) := by decide +kernel
theorem dX12_meets_153 : decode cX12_meets 153 = .ok (.return_, 1) := by decide +kernel
theorem dX12_looksAt_0 : decode cX12_looksAt 0 = .ok (.iconst 0, 1) := by decide +kernel
theorem dX12_looksAt_1 : decode cX12_looksAt 1 = .ok (.istore 4, 2) := by decide +kernel
theorem dX12_looksAt_3 : decode cX12_looksAt 3 = .ok (.iload 4, 2) := by decide +kernel
theorem dX12_looksAt_5 : decode cX12_looksAt 5 = .ok (.aload_n 0, 1) := by decide +kernel
theorem dX12_looksAt_6 : decode cX12_looksAt 6 = .ok (.getfield 25, 3) := by decide +kernel
theorem dX12_looksAt_9 : decode cX12_looksAt 9 = .ok (.iconst 0, 1) := by decide +kernel
theorem dX12_looksAt_10 : decode cX12_looksAt 10 = .ok (.iaload, 1) := by decide +kernel
theorem dX12_looksAt_11 : decode cX12_looksAt 11 = .ok (.if_icmp .ge 68, 3) := by decide +kernel
theorem dX12_looksAt_14 : decode cX12_looksAt 14 = .ok (.iload 4, 2) := by decide +kernel
theorem dX12_looksAt_16 : decode cX12_looksAt 16 = .ok (.iconst 1, 1) := by decide +kernel
theorem dX12_looksAt_17 : decode cX12_looksAt 17 = .ok (.iadd, 1) := by decide +kernel
theorem dX12_looksAt_18 : decode cX12_looksAt 18 = .ok (.istore 5, 2) := by decide +kernel
theorem dX12_looksAt_20 : decode cX12_looksAt 20 = .ok (.iload 5, 2) := by decide +kernel
theorem dX12_looksAt_22 : decode cX12_looksAt 22 = .ok (.aload_n 0, 1) := by decide +kernel
theorem dX12_looksAt_23 : decode cX12_looksAt 23 = .ok (.getfield 25, 3) := by decide +kernel
theorem dX12_looksAt_26 : decode cX12_looksAt 26 = .ok (.iconst 0, 1) := by decide +kernel
theorem dX12_looksAt_27 : decode cX12_looksAt 27 = .ok (.iaload, 1) := by decide +kernel
theorem dX12_looksAt_28 : decode cX12_looksAt 28 = .ok (.if_icmp .ge 45, 3) := by decide +kernel
theorem dX12_looksAt_31 : decode cX12_looksAt 31 = .ok (.iload 5, 2) := by decide +kernel
theorem dX12_looksAt_33 : decode cX12_looksAt 33 = .ok (.iconst 1, 1) := by decide +kernel
theorem dX12_looksAt_34 : decode cX12_looksAt 34 = .ok (.iadd, 1) := by decide +kernel
theorem dX12_looksAt_35 : decode cX12_looksAt 35 = .ok (.istore 6, 2) := by decide +kernel
theorem dX12_looksAt_37 : decode cX12_looksAt 37 = .ok (.iload 6, 2) := by decide +kernel
theorem dX12_looksAt_39 : decode cX12_looksAt 39 = .ok (.aload_n 0, 1) := by decide +kernel
theorem dX12_looksAt_40 : decode cX12_looksAt 40 = .ok (.getfield 25, 3) := by decide +kernel
theorem dX12_looksAt_43 : decode cX12_looksAt 43 = .ok (.iconst 0, 1) := by decide +kernel
theorem dX12_looksAt_44 : decode cX12_looksAt 44 = .ok (.iaload, 1) := by decide +kernel
theorem dX12_looksAt_45 : decode cX12_looksAt 45 = .ok (.if_icmp .ge 22, 3) := by decide +kernel
theorem dX12_looksAt_48 : decode cX12_looksAt 48 = .ok (.aload_n 0, 1) := by decide +kernel
theorem dX12_looksAt_49 : decode cX12_looksAt 49 = .ok (.iload_n 1, 1) := by decide +kernel
theorem dX12_looksAt_50 : decode cX12_looksAt 50 = .ok (.iload_n 2, 1) := by decide +kernel
theorem dX12_looksAt_51 : decode cX12_looksAt 51 = .ok (.iload_n 3, 1) := by decide +kernel
theorem dX12_looksAt_52 : decode cX12_looksAt 52 = .ok (.iload 4, 2) := by decide +kernel
theorem dX12_looksAt_54 : decode cX12_looksAt 54 = .ok (.iload 5, 2) := by decide +kernel
theorem dX12_looksAt_56 : decode cX12_looksAt 56 = .ok (.iload 6, 2) := by decide +kernel
theorem dX12_looksAt_58 : decode cX12_looksAt 58 = .ok (.invokevirtual 185, 3) := by decide +kernel
theorem dX12_looksAt_61 : decode cX12_looksAt 61 = .ok (.iinc 6 1, 3) := by decide +kernel
theorem dX12_looksAt_64 : decode cX12_looksAt 64 = .ok (.goto (-27), 3) := by decide +kernel
theorem dX12_looksAt_67 : decode cX12_looksAt 67 = .ok (.iinc 5 1, 3) := by decide +kernel
theorem dX12_looksAt_70 : decode cX12_looksAt 70 = .ok (.goto (-50), 3) := by decide +kernel
theorem dX12_looksAt_73 : decode cX12_looksAt 73 = .ok (.iinc 4 1, 3) := by decide +kernel
theorem dX12_looksAt_76 : decode cX12_looksAt 76 = .ok (.goto (-73), 3) := by decide +kernel
theorem dX12_looksAt_79 : decode cX12_looksAt 79 = .ok (.return_, 1) := by decide +kernel
theorem dX12_votesAll_0 : decode cX12_votesAll 0 = .ok (.aload_n 0, 1) := by decide +kernel
theorem dX12_votesAll_1 : decode cX12_votesAll 1 = .ok (.iconst 0, 1) := by decide +kernel
theorem dX12_votesAll_2 : decode cX12_votesAll 2 = .ok (.putfield 178, 3) := by decide +kernel
theorem dX12_votesAll_5 : decode cX12_votesAll 5 = .ok (.aload_n 0, 1) := by decide +kernel
theorem dX12_votesAll_6 : decode cX12_votesAll 6 = .ok (.iconst 0, 1) := by decide +kernel
theorem dX12_votesAll_7 : decode cX12_votesAll 7 = .ok (.putfield 175, 3) := by decide +kernel
theorem dX12_votesAll_10 : decode cX12_votesAll 10 = .ok (.iconst 0, 1) := by decide +kernel
theorem dX12_votesAll_11 : decode cX12_votesAll 11 = .ok (.istore_n 1, 1) := by decide +kernel
theorem dX12_votesAll_12 : decode cX12_votesAll 12 = .ok (.iload_n 1, 1) := by decide +kernel
theorem dX12_votesAll_13 : decode cX12_votesAll 13 = .ok (.bipush 96, 2) := by decide +kernel
theorem dX12_votesAll_15 : decode cX12_votesAll 15 = .ok (.if_icmp .ge 16, 3) := by decide +kernel
theorem dX12_votesAll_18 : decode cX12_votesAll 18 = .ok (.aload_n 0, 1) := by decide +kernel
theorem dX12_votesAll_19 : decode cX12_votesAll 19 = .ok (.getfield 35, 3) := by decide +kernel
theorem dX12_votesAll_22 : decode cX12_votesAll 22 = .ok (.iload_n 1, 1) := by decide +kernel
theorem dX12_votesAll_23 : decode cX12_votesAll 23 = .ok (.iconst 0, 1) := by decide +kernel
theorem dX12_votesAll_24 : decode cX12_votesAll 24 = .ok (.iastore, 1) := by decide +kernel
theorem dX12_votesAll_25 : decode cX12_votesAll 25 = .ok (.iinc 1 1, 3) := by decide +kernel
theorem dX12_votesAll_28 : decode cX12_votesAll 28 = .ok (.goto (-16), 3) := by decide +kernel
theorem dX12_votesAll_31 : decode cX12_votesAll 31 = .ok (.iconst 0, 1) := by decide +kernel
theorem dX12_votesAll_32 : decode cX12_votesAll 32 = .ok (.istore_n 1, 1) := by decide +kernel
theorem dX12_votesAll_33 : decode cX12_votesAll 33 = .ok (.iload_n 1, 1) := by decide +kernel
theorem dX12_votesAll_34 : decode cX12_votesAll 34 = .ok (.aload_n 0, 1) := by decide +kernel
theorem dX12_votesAll_35 : decode cX12_votesAll 35 = .ok (.getfield 25, 3) := by decide +kernel
theorem dX12_votesAll_38 : decode cX12_votesAll 38 = .ok (.iconst 1, 1) := by decide +kernel
theorem dX12_votesAll_39 : decode cX12_votesAll 39 = .ok (.iaload, 1) := by decide +kernel
theorem dX12_votesAll_40 : decode cX12_votesAll 40 = .ok (.if_icmp .ge 80, 3) := by decide +kernel
theorem dX12_votesAll_43 : decode cX12_votesAll 43 = .ok (.iload_n 1, 1) := by decide +kernel
theorem dX12_votesAll_44 : decode cX12_votesAll 44 = .ok (.iconst 1, 1) := by decide +kernel
theorem dX12_votesAll_45 : decode cX12_votesAll 45 = .ok (.iadd, 1) := by decide +kernel
theorem dX12_votesAll_46 : decode cX12_votesAll 46 = .ok (.istore_n 2, 1) := by decide +kernel
theorem dX12_votesAll_47 : decode cX12_votesAll 47 = .ok (.iload_n 2, 1) := by decide +kernel
theorem dX12_votesAll_48 : decode cX12_votesAll 48 = .ok (.aload_n 0, 1) := by decide +kernel
theorem dX12_votesAll_49 : decode cX12_votesAll 49 = .ok (.getfield 25, 3) := by decide +kernel
theorem dX12_votesAll_52 : decode cX12_votesAll 52 = .ok (.iconst 1, 1) := by decide +kernel
theorem dX12_votesAll_53 : decode cX12_votesAll 53 = .ok (.iaload, 1) := by decide +kernel
theorem dX12_votesAll_54 : decode cX12_votesAll 54 = .ok (.if_icmp .ge 60, 3) := by decide +kernel
theorem dX12_votesAll_57 : decode cX12_votesAll 57 = .ok (.iload_n 2, 1) := by decide +kernel
theorem dX12_votesAll_58 : decode cX12_votesAll 58 = .ok (.iconst 1, 1) := by decide +kernel
theorem dX12_votesAll_59 : decode cX12_votesAll 59 = .ok (.iadd, 1) := by decide +kernel
theorem dX12_votesAll_60 : decode cX12_votesAll 60 = .ok (.istore_n 3, 1) := by decide +kernel
theorem dX12_votesAll_61 : decode cX12_votesAll 61 = .ok (.iload_n 3, 1) := by decide +kernel
theorem dX12_votesAll_62 : decode cX12_votesAll 62 = .ok (.aload_n 0, 1) := by decide +kernel
theorem dX12_votesAll_63 : decode cX12_votesAll 63 = .ok (.getfield 25, 3) := by decide +kernel
theorem dX12_votesAll_66 : decode cX12_votesAll 66 = .ok (.iconst 1, 1) := by decide +kernel
theorem dX12_votesAll_67 : decode cX12_votesAll 67 = .ok (.iaload, 1) := by decide +kernel
theorem dX12_votesAll_68 : decode cX12_votesAll 68 = .ok (.if_icmp .ge 40, 3) := by decide +kernel
theorem dX12_votesAll_71 : decode cX12_votesAll 71 = .ok (.iload_n 1, 1) := by decide +kernel
theorem dX12_votesAll_72 : decode cX12_votesAll 72 = .ok (.aload_n 0, 1) := by decide +kernel
theorem dX12_votesAll_73 : decode cX12_votesAll 73 = .ok (.getfield 31, 3) := by decide +kernel
theorem dX12_votesAll_76 : decode cX12_votesAll 76 = .ok (.if_icmp .eq 26, 3) := by decide +kernel
theorem dX12_votesAll_79 : decode cX12_votesAll 79 = .ok (.iload_n 2, 1) := by decide +kernel
theorem dX12_votesAll_80 : decode cX12_votesAll 80 = .ok (.aload_n 0, 1) := by decide +kernel
theorem dX12_votesAll_81 : decode cX12_votesAll 81 = .ok (.getfield 31, 3) := by decide +kernel
theorem dX12_votesAll_84 : decode cX12_votesAll 84 = .ok (.if_icmp .eq 18, 3) := by decide +kernel
theorem dX12_votesAll_87 : decode cX12_votesAll 87 = .ok (.iload_n 3, 1) := by decide +kernel
theorem dX12_votesAll_88 : decode cX12_votesAll 88 = .ok (.aload_n 0, 1) := by decide +kernel
theorem dX12_votesAll_89 : decode cX12_votesAll 89 = .ok (.getfield 31, 3) := by decide +kernel
theorem dX12_votesAll_92 : decode cX12_votesAll 92 = .ok (.if_icmp .eq 10, 3) := by decide +kernel
theorem dX12_votesAll_95 : decode cX12_votesAll 95 = .ok (.aload_n 0, 1) := by decide +kernel
theorem dX12_votesAll_96 : decode cX12_votesAll 96 = .ok (.iload_n 1, 1) := by decide +kernel
theorem dX12_votesAll_97 : decode cX12_votesAll 97 = .ok (.iload_n 2, 1) := by decide +kernel
theorem dX12_votesAll_98 : decode cX12_votesAll 98 = .ok (.iload_n 3, 1) := by decide +kernel
theorem dX12_votesAll_99 : decode cX12_votesAll 99 = .ok (.invokevirtual 188, 3) := by decide +kernel
theorem dX12_votesAll_102 : decode cX12_votesAll 102 = .ok (.iinc 3 1, 3) := by decide +kernel
theorem dX12_votesAll_105 : decode cX12_votesAll 105 = .ok (.goto (-44), 3) := by decide +kernel
theorem dX12_votesAll_108 : decode cX12_votesAll 108 = .ok (.iinc 2 1, 3) := by decide +kernel
theorem dX12_votesAll_111 : decode cX12_votesAll 111 = .ok (.goto (-64), 3) := by decide +kernel
theorem dX12_votesAll_114 : decode cX12_votesAll 114 = .ok (.iinc 1 1, 3) := by decide +kernel
theorem dX12_votesAll_117 : decode cX12_votesAll 117 = .ok (.goto (-84), 3) := by decide +kernel
theorem dX12_votesAll_120 : decode cX12_votesAll 120 = .ok (.return_, 1) := by decide +kernel
theorem dX12_takes_0 : decode cX12_takes 0 = .ok (.iconst 0, 1) := by decide +kernel
theorem dX12_takes_1 : decode cX12_takes 1 = .ok (.istore_n 1, 1) := by decide +kernel
theorem dX12_takes_2 : decode cX12_takes 2 = .ok (.iload_n 1, 1) := by decide +kernel
theorem dX12_takes_3 : decode cX12_takes 3 = .ok (.bipush 8, 2) := by decide +kernel
theorem dX12_takes_5 : decode cX12_takes 5 = .ok (.if_icmp .ge 23, 3) := by decide +kernel
theorem dX12_takes_8 : decode cX12_takes 8 = .ok (.aload_n 0, 1) := by decide +kernel
theorem dX12_takes_9 : decode cX12_takes 9 = .ok (.getfield 38, 3) := by decide +kernel
theorem dX12_takes_12 : decode cX12_takes 12 = .ok (.iload_n 1, 1) := by decide +kernel
theorem dX12_takes_13 : decode cX12_takes 13 = .ok (.iconst (-1), 1) := by decide +kernel
theorem dX12_takes_14 : decode cX12_takes 14 = .ok (.iastore, 1) := by decide +kernel
theorem dX12_takes_15 : decode cX12_takes 15 = .ok (.aload_n 0, 1) := by decide +kernel
theorem dX12_takes_16 : decode cX12_takes 16 = .ok (.getfield 41, 3) := by decide +kernel
theorem dX12_takes_19 : decode cX12_takes 19 = .ok (.iload_n 1, 1) := by decide +kernel
theorem dX12_takes_20 : decode cX12_takes 20 = .ok (.iconst (-1), 1) := by decide +kernel
theorem dX12_takes_21 : decode cX12_takes 21 = .ok (.iastore, 1) := by decide +kernel
theorem dX12_takes_22 : decode cX12_takes 22 = .ok (.iinc 1 1, 3) := by decide +kernel
theorem dX12_takes_25 : decode cX12_takes 25 = .ok (.goto (-23), 3) := by decide +kernel
theorem dX12_takes_28 : decode cX12_takes 28 = .ok (.iconst 0, 1) := by decide +kernel
theorem dX12_takes_29 : decode cX12_takes 29 = .ok (.istore_n 1, 1) := by decide +kernel
theorem dX12_takes_30 : decode cX12_takes 30 = .ok (.iload_n 1, 1) := by decide +kernel
theorem dX12_takes_31 : decode cX12_takes 31 = .ok (.bipush 12, 2) := by decide +kernel
theorem dX12_takes_33 : decode cX12_takes 33 = .ok (.if_icmp .ge 16, 3) := by decide +kernel
theorem dX12_takes_36 : decode cX12_takes 36 = .ok (.aload_n 0, 1) := by decide +kernel
theorem dX12_takes_37 : decode cX12_takes 37 = .ok (.getfield 44, 3) := by decide +kernel
theorem dX12_takes_40 : decode cX12_takes 40 = .ok (.iload_n 1, 1) := by decide +kernel
theorem dX12_takes_41 : decode cX12_takes 41 = .ok (.iconst 0, 1) := by decide +kernel
theorem dX12_takes_42 : decode cX12_takes 42 = .ok (.bastore, 1) := by decide +kernel
theorem dX12_takes_43 : decode cX12_takes 43 = .ok (.iinc 1 1, 3) := by decide +kernel
theorem dX12_takes_46 : decode cX12_takes 46 = .ok (.goto (-16), 3) := by decide +kernel
theorem dX12_takes_49 : decode cX12_takes 49 = .ok (.aload_n 0, 1) := by decide +kernel
theorem dX12_takes_50 : decode cX12_takes 50 = .ok (.iconst 0, 1) := by decide +kernel
theorem dX12_takes_51 : decode cX12_takes 51 = .ok (.putfield 192, 3) := by decide +kernel
theorem dX12_takes_54 : decode cX12_takes 54 = .ok (.iconst 0, 1) := by decide +kernel
theorem dX12_takes_55 : decode cX12_takes 55 = .ok (.istore_n 1, 1) := by decide +kernel
theorem dX12_takes_56 : decode cX12_takes 56 = .ok (.iload_n 1, 1) := by decide +kernel
theorem dX12_takes_57 : decode cX12_takes 57 = .ok (.iconst (-1), 1) := by decide +kernel
theorem dX12_takes_58 : decode cX12_takes 58 = .ok (.if_icmp .eq 149, 3) := by decide +kernel
theorem dX12_takes_61 : decode cX12_takes 61 = .ok (.iconst (-1), 1) := by decide +kernel
theorem dX12_takes_62 : decode cX12_takes 62 = .ok (.istore_n 1, 1) := by decide +kernel
theorem dX12_takes_63 : decode cX12_takes 63 = .ok (.iconst 0, 1) := by decide +kernel
theorem dX12_takes_64 : decode cX12_takes 64 = .ok (.istore_n 2, 1) := by decide +kernel
theorem dX12_takes_65 : decode cX12_takes 65 = .ok (.iload_n 2, 1) := by decide +kernel
theorem dX12_takes_66 : decode cX12_takes 66 = .ok (.bipush 96, 2) := by decide +kernel
theorem dX12_takes_68 : decode cX12_takes 68 = .ok (.if_icmp .ge 85, 3) := by decide +kernel
theorem dX12_takes_71 : decode cX12_takes 71 = .ok (.aload_n 0, 1) := by decide +kernel
theorem dX12_takes_72 : decode cX12_takes 72 = .ok (.getfield 38, 3) := by decide +kernel
theorem dX12_takes_75 : decode cX12_takes 75 = .ok (.iload_n 2, 1) := by decide +kernel
theorem dX12_takes_76 : decode cX12_takes 76 = .ok (.bipush 12, 2) := by decide +kernel
theorem dX12_takes_78 : decode cX12_takes 78 = .ok (.idiv, 1) := by decide +kernel
theorem dX12_takes_79 : decode cX12_takes 79 = .ok (.iaload, 1) := by decide +kernel
theorem dX12_takes_80 : decode cX12_takes 80 = .ok (.iconst (-1), 1) := by decide +kernel
theorem dX12_takes_81 : decode cX12_takes 81 = .ok (.if_icmp .ne 34, 3) := by decide +kernel
theorem dX12_takes_84 : decode cX12_takes 84 = .ok (.aload_n 0, 1) := by decide +kernel
theorem dX12_takes_85 : decode cX12_takes 85 = .ok (.getfield 44, 3) := by decide +kernel
theorem dX12_takes_88 : decode cX12_takes 88 = .ok (.iload_n 2, 1) := by decide +kernel
theorem dX12_takes_89 : decode cX12_takes 89 = .ok (.bipush 12, 2) := by decide +kernel
theorem dX12_takes_91 : decode cX12_takes 91 = .ok (.irem, 1) := by decide +kernel
theorem dX12_takes_92 : decode cX12_takes 92 = .ok (.baload, 1) := by decide +kernel
theorem dX12_takes_93 : decode cX12_takes 93 = .ok (.ifCond .ne 22, 3) := by decide +kernel
theorem dX12_takes_96 : decode cX12_takes 96 = .ok (.aload_n 0, 1) := by decide +kernel
theorem dX12_takes_97 : decode cX12_takes 97 = .ok (.getfield 35, 3) := by decide +kernel
theorem dX12_takes_100 : decode cX12_takes 100 = .ok (.iload_n 2, 1) := by decide +kernel
theorem dX12_takes_101 : decode cX12_takes 101 = .ok (.iaload, 1) := by decide +kernel
theorem dX12_takes_102 : decode cX12_takes 102 = .ok (.aload_n 0, 1) := by decide +kernel
theorem dX12_takes_103 : decode cX12_takes 103 = .ok (.getfield 28, 3) := by decide +kernel
theorem dX12_takes_106 : decode cX12_takes 106 = .ok (.iconst 2, 1) := by decide +kernel
theorem dX12_takes_107 : decode cX12_takes 107 = .ok (.iaload, 1) := by decide +kernel
theorem dX12_takes_108 : decode cX12_takes 108 = .ok (.if_icmp .lt 7, 3) := by decide +kernel
theorem dX12_takes_111 : decode cX12_takes 111 = .ok (.iconst 1, 1) := by decide +kernel
theorem dX12_takes_112 : decode cX12_takes 112 = .ok (.goto 4, 3) := by decide +kernel
theorem dX12_takes_115 : decode cX12_takes 115 = .ok (.iconst 0, 1) := by decide +kernel
theorem dX12_takes_116 : decode cX12_takes 116 = .ok (.istore_n 3, 1) := by decide +kernel
theorem dX12_takes_117 : decode cX12_takes 117 = .ok (.iload_n 3, 1) := by decide +kernel
theorem dX12_takes_118 : decode cX12_takes 118 = .ok (.ifCond .eq 27, 3) := by decide +kernel
theorem dX12_takes_121 : decode cX12_takes 121 = .ok (.iload_n 1, 1) := by decide +kernel
theorem dX12_takes_122 : decode cX12_takes 122 = .ok (.iconst (-1), 1) := by decide +kernel
theorem dX12_takes_123 : decode cX12_takes 123 = .ok (.if_icmp .eq 18, 3) := by decide +kernel
theorem dX12_takes_126 : decode cX12_takes 126 = .ok (.aload_n 0, 1) := by decide +kernel
theorem dX12_takes_127 : decode cX12_takes 127 = .ok (.getfield 35, 3) := by decide +kernel
theorem dX12_takes_130 : decode cX12_takes 130 = .ok (.iload_n 2, 1) := by decide +kernel
theorem dX12_takes_131 : decode cX12_takes 131 = .ok (.iaload, 1) := by decide +kernel
theorem dX12_takes_132 : decode cX12_takes 132 = .ok (.aload_n 0, 1) := by decide +kernel
theorem dX12_takes_133 : decode cX12_takes 133 = .ok (.getfield 35, 3) := by decide +kernel
theorem dX12_takes_136 : decode cX12_takes 136 = .ok (.iload_n 1, 1) := by decide +kernel
theorem dX12_takes_137 : decode cX12_takes 137 = .ok (.iaload, 1) := by decide +kernel
theorem dX12_takes_138 : decode cX12_takes 138 = .ok (.if_icmp .le 7, 3) := by decide +kernel
theorem dX12_takes_141 : decode cX12_takes 141 = .ok (.iload_n 2, 1) := by decide +kernel
theorem dX12_takes_142 : decode cX12_takes 142 = .ok (.goto 4, 3) := by decide +kernel
theorem dX12_takes_145 : decode cX12_takes 145 = .ok (.iload_n 1, 1) := by decide +kernel
theorem dX12_takes_146 : decode cX12_takes 146 = .ok (.istore_n 1, 1) := by decide +kernel
theorem dX12_takes_147 : decode cX12_takes 147 = .ok (.iinc 2 1, 3) := by decide +kernel
theorem dX12_takes_150 : decode cX12_takes 150 = .ok (.goto (-85), 3) := by decide +kernel
theorem dX12_takes_153 : decode cX12_takes 153 = .ok (.iload_n 1, 1) := by decide +kernel
theorem dX12_takes_154 : decode cX12_takes 154 = .ok (.iconst (-1), 1) := by decide +kernel
theorem dX12_takes_155 : decode cX12_takes 155 = .ok (.if_icmp .eq (-99), 3) := by decide +kernel
theorem dX12_takes_158 : decode cX12_takes 158 = .ok (.aload_n 0, 1) := by decide +kernel
theorem dX12_takes_159 : decode cX12_takes 159 = .ok (.getfield 38, 3) := by decide +kernel
theorem dX12_takes_162 : decode cX12_takes 162 = .ok (.iload_n 1, 1) := by decide +kernel
theorem dX12_takes_163 : decode cX12_takes 163 = .ok (.bipush 12, 2) := by decide +kernel
theorem dX12_takes_165 : decode cX12_takes 165 = .ok (.idiv, 1) := by decide +kernel
theorem dX12_takes_166 : decode cX12_takes 166 = .ok (.iload_n 1, 1) := by decide +kernel
theorem dX12_takes_167 : decode cX12_takes 167 = .ok (.bipush 12, 2) := by decide +kernel
theorem dX12_takes_169 : decode cX12_takes 169 = .ok (.irem, 1) := by decide +kernel
theorem dX12_takes_170 : decode cX12_takes 170 = .ok (.iastore, 1) := by decide +kernel
theorem dX12_takes_171 : decode cX12_takes 171 = .ok (.aload_n 0, 1) := by decide +kernel
theorem dX12_takes_172 : decode cX12_takes 172 = .ok (.getfield 41, 3) := by decide +kernel
theorem dX12_takes_175 : decode cX12_takes 175 = .ok (.iload_n 1, 1) := by decide +kernel
theorem dX12_takes_176 : decode cX12_takes 176 = .ok (.bipush 12, 2) := by decide +kernel
theorem dX12_takes_178 : decode cX12_takes 178 = .ok (.idiv, 1) := by decide +kernel
theorem dX12_takes_179 : decode cX12_takes 179 = .ok (.aload_n 0, 1) := by decide +kernel
theorem dX12_takes_180 : decode cX12_takes 180 = .ok (.getfield 192, 3) := by decide +kernel
theorem dX12_takes_183 : decode cX12_takes 183 = .ok (.iastore, 1) := by decide +kernel
theorem dX12_takes_184 : decode cX12_takes 184 = .ok (.aload_n 0, 1) := by decide +kernel
theorem dX12_takes_185 : decode cX12_takes 185 = .ok (.getfield 44, 3) := by decide +kernel
theorem dX12_takes_188 : decode cX12_takes 188 = .ok (.iload_n 1, 1) := by decide +kernel
theorem dX12_takes_189 : decode cX12_takes 189 = .ok (.bipush 12, 2) := by decide +kernel
theorem dX12_takes_191 : decode cX12_takes 191 = .ok (.irem, 1) := by decide +kernel
theorem dX12_takes_192 : decode cX12_takes 192 = .ok (.iconst 1, 1) := by decide +kernel
theorem dX12_takes_193 : decode cX12_takes 193 = .ok (.bastore, 1) := by decide +kernel
theorem dX12_takes_194 : decode cX12_takes 194 = .ok (.aload_n 0, 1) := by decide +kernel
theorem dX12_takes_195 : decode cX12_takes 195 = .ok (.dup, 1) := by decide +kernel
theorem dX12_takes_196 : decode cX12_takes 196 = .ok (.getfield 192, 3) := by decide +kernel
theorem dX12_takes_199 : decode cX12_takes 199 = .ok (.iconst 1, 1) := by decide +kernel
theorem dX12_takes_200 : decode cX12_takes 200 = .ok (.iadd, 1) := by decide +kernel
theorem dX12_takes_201 : decode cX12_takes 201 = .ok (.putfield 192, 3) := by decide +kernel
theorem dX12_takes_204 : decode cX12_takes 204 = .ok (.goto (-148), 3) := by decide +kernel
theorem dX12_takes_207 : decode cX12_takes 207 = .ok (.return_, 1) := by decide +kernel
theorem dX12_multiplies_0 : decode cX12_multiplies 0 = .ok (.aload_n 0, 1) := by decide +kernel
theorem dX12_multiplies_1 : decode cX12_multiplies 1 = .ok (.iload_n 3, 1) := by decide +kernel
theorem dX12_multiplies_2 : decode cX12_multiplies 2 = .ok (.aload_n 0, 1) := by decide +kernel
theorem dX12_multiplies_3 : decode cX12_multiplies 3 = .ok (.iload_n 1, 1) := by decide +kernel
theorem dX12_multiplies_4 : decode cX12_multiplies 4 = .ok (.iconst 1, 1) := by decide +kernel
theorem dX12_multiplies_5 : decode cX12_multiplies 5 = .ok (.iadd, 1) := by decide +kernel
theorem dX12_multiplies_6 : decode cX12_multiplies 6 = .ok (.laload, 1) := by decide +kernel
theorem dX12_multiplies_7 : decode cX12_multiplies 7 = .ok (.aload_n 0, 1) := by decide +kernel
theorem dX12_multiplies_8 : decode cX12_multiplies 8 = .ok (.iload_n 2, 1) := by decide +kernel
theorem dX12_multiplies_9 : decode cX12_multiplies 9 = .ok (.iconst 2, 1) := by decide +kernel
theorem dX12_multiplies_10 : decode cX12_multiplies 10 = .ok (.iadd, 1) := by decide +kernel
theorem dX12_multiplies_11 : decode cX12_multiplies 11 = .ok (.laload, 1) := by decide +kernel
theorem dX12_multiplies_12 : decode cX12_multiplies 12 = .ok (.lmul, 1) := by decide +kernel
theorem dX12_multiplies_13 : decode cX12_multiplies 13 = .ok (.aload_n 0, 1) := by decide +kernel
theorem dX12_multiplies_14 : decode cX12_multiplies 14 = .ok (.iload_n 1, 1) := by decide +kernel
theorem dX12_multiplies_15 : decode cX12_multiplies 15 = .ok (.iconst 2, 1) := by decide +kernel
theorem dX12_multiplies_16 : decode cX12_multiplies 16 = .ok (.iadd, 1) := by decide +kernel
theorem dX12_multiplies_17 : decode cX12_multiplies 17 = .ok (.laload, 1) := by decide +kernel
theorem dX12_multiplies_18 : decode cX12_multiplies 18 = .ok (.aload_n 0, 1) := by decide +kernel
theorem dX12_multiplies_19 : decode cX12_multiplies 19 = .ok (.iload_n 2, 1) := by decide +kernel
theorem dX12_multiplies_20 : decode cX12_multiplies 20 = .ok (.iconst 1, 1) := by decide +kernel
theorem dX12_multiplies_21 : decode cX12_multiplies 21 = .ok (.iadd, 1) := by decide +kernel
theorem dX12_multiplies_22 : decode cX12_multiplies 22 = .ok (.laload, 1) := by decide +kernel
theorem dX12_multiplies_23 : decode cX12_multiplies 23 = .ok (.lmul, 1) := by decide +kernel
theorem dX12_multiplies_24 : decode cX12_multiplies 24 = .ok (.lsub, 1) := by decide +kernel
theorem dX12_multiplies_25 : decode cX12_multiplies 25 = .ok (.lastore, 1) := by decide +kernel
theorem dX12_multiplies_26 : decode cX12_multiplies 26 = .ok (.aload_n 0, 1) := by decide +kernel
theorem dX12_multiplies_27 : decode cX12_multiplies 27 = .ok (.iload_n 3, 1) := by decide +kernel
theorem dX12_multiplies_28 : decode cX12_multiplies 28 = .ok (.iconst 1, 1) := by decide +kernel
theorem dX12_multiplies_29 : decode cX12_multiplies 29 = .ok (.iadd, 1) := by decide +kernel
theorem dX12_multiplies_30 : decode cX12_multiplies 30 = .ok (.aload_n 0, 1) := by decide +kernel
theorem dX12_multiplies_31 : decode cX12_multiplies 31 = .ok (.iload_n 1, 1) := by decide +kernel
theorem dX12_multiplies_32 : decode cX12_multiplies 32 = .ok (.iconst 2, 1) := by decide +kernel
theorem dX12_multiplies_33 : decode cX12_multiplies 33 = .ok (.iadd, 1) := by decide +kernel
theorem dX12_multiplies_34 : decode cX12_multiplies 34 = .ok (.laload, 1) := by decide +kernel
theorem dX12_multiplies_35 : decode cX12_multiplies 35 = .ok (.aload_n 0, 1) := by decide +kernel
theorem dX12_multiplies_36 : decode cX12_multiplies 36 = .ok (.iload_n 2, 1) := by decide +kernel
theorem dX12_multiplies_37 : decode cX12_multiplies 37 = .ok (.laload, 1) := by decide +kernel
theorem dX12_multiplies_38 : decode cX12_multiplies 38 = .ok (.lmul, 1) := by decide +kernel
theorem dX12_multiplies_39 : decode cX12_multiplies 39 = .ok (.aload_n 0, 1) := by decide +kernel
theorem dX12_multiplies_40 : decode cX12_multiplies 40 = .ok (.iload_n 1, 1) := by decide +kernel
theorem dX12_multiplies_41 : decode cX12_multiplies 41 = .ok (.laload, 1) := by decide +kernel
theorem dX12_multiplies_42 : decode cX12_multiplies 42 = .ok (.aload_n 0, 1) := by decide +kernel
theorem dX12_multiplies_43 : decode cX12_multiplies 43 = .ok (.iload_n 2, 1) := by decide +kernel
theorem dX12_multiplies_44 : decode cX12_multiplies 44 = .ok (.iconst 2, 1) := by decide +kernel
theorem dX12_multiplies_45 : decode cX12_multiplies 45 = .ok (.iadd, 1) := by decide +kernel
theorem dX12_multiplies_46 : decode cX12_multiplies 46 = .ok (.laload, 1) := by decide +kernel
theorem dX12_multiplies_47 : decode cX12_multiplies 47 = .ok (.lmul, 1) := by decide +kernel
theorem dX12_multiplies_48 : decode cX12_multiplies 48 = .ok (.lsub, 1) := by decide +kernel
theorem dX12_multiplies_49 : decode cX12_multiplies 49 = .ok (.lastore, 1) := by decide +kernel
theorem dX12_multiplies_50 : decode cX12_multiplies 50 = .ok (.aload_n 0, 1) := by decide +kernel
theorem dX12_multiplies_51 : decode cX12_multiplies 51 = .ok (.iload_n 3, 1) := by decide +kernel
theorem dX12_multiplies_52 : decode cX12_multiplies 52 = .ok (.iconst 2, 1) := by decide +kernel
theorem dX12_multiplies_53 : decode cX12_multiplies 53 = .ok (.iadd, 1) := by decide +kernel
theorem dX12_multiplies_54 : decode cX12_multiplies 54 = .ok (.aload_n 0, 1) := by decide +kernel
theorem dX12_multiplies_55 : decode cX12_multiplies 55 = .ok (.iload_n 1, 1) := by decide +kernel
theorem dX12_multiplies_56 : decode cX12_multiplies 56 = .ok (.laload, 1) := by decide +kernel
theorem dX12_multiplies_57 : decode cX12_multiplies 57 = .ok (.aload_n 0, 1) := by decide +kernel
theorem dX12_multiplies_58 : decode cX12_multiplies 58 = .ok (.iload_n 2, 1) := by decide +kernel
theorem dX12_multiplies_59 : decode cX12_multiplies 59 = .ok (.iconst 1, 1) := by decide +kernel
theorem dX12_multiplies_60 : decode cX12_multiplies 60 = .ok (.iadd, 1) := by decide +kernel
theorem dX12_multiplies_61 : decode cX12_multiplies 61 = .ok (.laload, 1) := by decide +kernel
theorem dX12_multiplies_62 : decode cX12_multiplies 62 = .ok (.lmul, 1) := by decide +kernel
theorem dX12_multiplies_63 : decode cX12_multiplies 63 = .ok (.aload_n 0, 1) := by decide +kernel
theorem dX12_multiplies_64 : decode cX12_multiplies 64 = .ok (.iload_n 1, 1) := by decide +kernel
theorem dX12_multiplies_65 : decode cX12_multiplies 65 = .ok (.iconst 1, 1) := by decide +kernel
theorem dX12_multiplies_66 : decode cX12_multiplies 66 = .ok (.iadd, 1) := by decide +kernel
theorem dX12_multiplies_67 : decode cX12_multiplies 67 = .ok (.laload, 1) := by decide +kernel
theorem dX12_multiplies_68 : decode cX12_multiplies 68 = .ok (.aload_n 0, 1) := by decide +kernel
theorem dX12_multiplies_69 : decode cX12_multiplies 69 = .ok (.iload_n 2, 1) := by decide +kernel
theorem dX12_multiplies_70 : decode cX12_multiplies 70 = .ok (.laload, 1) := by decide +kernel
theorem dX12_multiplies_71 : decode cX12_multiplies 71 = .ok (.lmul, 1) := by decide +kernel
theorem dX12_multiplies_72 : decode cX12_multiplies 72 = .ok (.lsub, 1) := by decide +kernel
theorem dX12_multiplies_73 : decode cX12_multiplies 73 = .ok (.lastore, 1) := by decide +kernel
theorem dX12_multiplies_74 : decode cX12_multiplies 74 = .ok (.return_, 1) := by decide +kernel
theorem dX12_arms_0 : decode cX12_arms 0 = .ok (.iconst 0, 1) := by decide +kernel
theorem dX12_arms_1 : decode cX12_arms 1 = .ok (.istore 5, 2) := by decide +kernel
theorem dX12_arms_3 : decode cX12_arms 3 = .ok (.iload 5, 2) := by decide +kernel
theorem dX12_arms_5 : decode cX12_arms 5 = .ok (.iconst 3, 1) := by decide +kernel
theorem dX12_arms_6 : decode cX12_arms 6 = .ok (.if_icmp .ge 39, 3) := by decide +kernel
theorem dX12_arms_9 : decode cX12_arms 9 = .ok (.aload_n 1, 1) := by decide +kernel
theorem dX12_arms_10 : decode cX12_arms 10 = .ok (.iload 5, 2) := by decide +kernel
theorem dX12_arms_12 : decode cX12_arms 12 = .ok (.aload_n 0, 1) := by decide +kernel
theorem dX12_arms_13 : decode cX12_arms 13 = .ok (.iload_n 2, 1) := by decide +kernel
theorem dX12_arms_14 : decode cX12_arms 14 = .ok (.iload_n 3, 1) := by decide +kernel
theorem dX12_arms_15 : decode cX12_arms 15 = .ok (.iload 5, 2) := by decide +kernel
theorem dX12_arms_17 : decode cX12_arms 17 = .ok (.invokevirtual 126, 3) := by decide +kernel
theorem dX12_arms_20 : decode cX12_arms 20 = .ok (.i2l, 1) := by decide +kernel
theorem dX12_arms_21 : decode cX12_arms 21 = .ok (.lastore, 1) := by decide +kernel
theorem dX12_arms_22 : decode cX12_arms 22 = .ok (.aload_n 1, 1) := by decide +kernel
theorem dX12_arms_23 : decode cX12_arms 23 = .ok (.bipush 6, 2) := by decide +kernel
theorem dX12_arms_25 : decode cX12_arms 25 = .ok (.iload 5, 2) := by decide +kernel
theorem dX12_arms_27 : decode cX12_arms 27 = .ok (.iadd, 1) := by decide +kernel
theorem dX12_arms_28 : decode cX12_arms 28 = .ok (.aload_n 0, 1) := by decide +kernel
theorem dX12_arms_29 : decode cX12_arms 29 = .ok (.iload_n 2, 1) := by decide +kernel
theorem dX12_arms_30 : decode cX12_arms 30 = .ok (.iload 4, 2) := by decide +kernel
theorem dX12_arms_32 : decode cX12_arms 32 = .ok (.iload 5, 2) := by decide +kernel
theorem dX12_arms_34 : decode cX12_arms 34 = .ok (.invokevirtual 126, 3) := by decide +kernel
theorem dX12_arms_37 : decode cX12_arms 37 = .ok (.i2l, 1) := by decide +kernel
theorem dX12_arms_38 : decode cX12_arms 38 = .ok (.lastore, 1) := by decide +kernel
theorem dX12_arms_39 : decode cX12_arms 39 = .ok (.iinc 5 1, 3) := by decide +kernel
theorem dX12_arms_42 : decode cX12_arms 42 = .ok (.goto (-39), 3) := by decide +kernel
theorem dX12_arms_45 : decode cX12_arms 45 = .ok (.aload_n 1, 1) := by decide +kernel
theorem dX12_arms_46 : decode cX12_arms 46 = .ok (.iconst 0, 1) := by decide +kernel
theorem dX12_arms_47 : decode cX12_arms 47 = .ok (.bipush 6, 2) := by decide +kernel
theorem dX12_arms_49 : decode cX12_arms 49 = .ok (.iconst 3, 1) := by decide +kernel
theorem dX12_arms_50 : decode cX12_arms 50 = .ok (.invokestatic 195, 3) := by decide +kernel
theorem dX12_arms_53 : decode cX12_arms 53 = .ok (.aload_n 1, 1) := by decide +kernel
theorem dX12_arms_54 : decode cX12_arms 54 = .ok (.iconst 0, 1) := by decide +kernel
theorem dX12_arms_55 : decode cX12_arms 55 = .ok (.iconst 3, 1) := by decide +kernel
theorem dX12_arms_56 : decode cX12_arms 56 = .ok (.bipush 6, 2) := by decide +kernel
theorem dX12_arms_58 : decode cX12_arms 58 = .ok (.invokestatic 195, 3) := by decide +kernel
theorem dX12_arms_61 : decode cX12_arms 61 = .ok (.return_, 1) := by decide +kernel
theorem dX12_nearest_0 : decode cX12_nearest 0 = .ok (.ldc2_w 89, 3) := by decide +kernel
theorem dX12_nearest_3 : decode cX12_nearest 3 = .ok (.lload_n 0, 1) := by decide +kernel
theorem dX12_nearest_4 : decode cX12_nearest 4 = .ok (.lmul, 1) := by decide +kernel
theorem dX12_nearest_5 : decode cX12_nearest 5 = .ok (.lload_n 2, 1) := by decide +kernel
theorem dX12_nearest_6 : decode cX12_nearest 6 = .ok (.ladd, 1) := by decide +kernel
theorem dX12_nearest_7 : decode cX12_nearest 7 = .ok (.lstore 4, 2) := by decide +kernel
theorem dX12_nearest_9 : decode cX12_nearest 9 = .ok (.ldc2_w 89, 3) := by decide +kernel
theorem dX12_nearest_12 : decode cX12_nearest 12 = .ok (.lload_n 2, 1) := by decide +kernel
theorem dX12_nearest_13 : decode cX12_nearest 13 = .ok (.lmul, 1) := by decide +kernel
theorem dX12_nearest_14 : decode cX12_nearest 14 = .ok (.lstore 6, 2) := by decide +kernel
theorem dX12_nearest_16 : decode cX12_nearest 16 = .ok (.lload 4, 2) := by decide +kernel
theorem dX12_nearest_18 : decode cX12_nearest 18 = .ok (.lload 6, 2) := by decide +kernel
theorem dX12_nearest_20 : decode cX12_nearest 20 = .ok (.ldiv, 1) := by decide +kernel
theorem dX12_nearest_21 : decode cX12_nearest 21 = .ok (.lstore 8, 2) := by decide +kernel
theorem dX12_nearest_23 : decode cX12_nearest 23 = .ok (.lload 4, 2) := by decide +kernel
theorem dX12_nearest_25 : decode cX12_nearest 25 = .ok (.lload 6, 2) := by decide +kernel
theorem dX12_nearest_27 : decode cX12_nearest 27 = .ok (.lrem, 1) := by decide +kernel
theorem dX12_nearest_28 : decode cX12_nearest 28 = .ok (.lconst 0, 1) := by decide +kernel
theorem dX12_nearest_29 : decode cX12_nearest 29 = .ok (.lcmp, 1) := by decide +kernel
theorem dX12_nearest_30 : decode cX12_nearest 30 = .ok (.ifCond .ge 10, 3) := by decide +kernel
theorem dX12_nearest_33 : decode cX12_nearest 33 = .ok (.lload 8, 2) := by decide +kernel
theorem dX12_nearest_35 : decode cX12_nearest 35 = .ok (.lconst 1, 1) := by decide +kernel
theorem dX12_nearest_36 : decode cX12_nearest 36 = .ok (.lsub, 1) := by decide +kernel
theorem dX12_nearest_37 : decode cX12_nearest 37 = .ok (.goto 5, 3) := by decide +kernel
theorem dX12_nearest_40 : decode cX12_nearest 40 = .ok (.lload 8, 2) := by decide +kernel
theorem dX12_nearest_42 : decode cX12_nearest 42 = .ok (.lreturn, 1) := by decide +kernel
theorem dX12_coordinate_0 : decode cX12_coordinate 0 = .ok (.lconst 0, 1) := by decide +kernel
theorem dX12_coordinate_1 : decode cX12_coordinate 1 = .ok (.lstore_n 3, 1) := by decide +kernel
theorem dX12_coordinate_2 : decode cX12_coordinate 2 = .ok (.iconst 0, 1) := by decide +kernel
theorem dX12_coordinate_3 : decode cX12_coordinate 3 = .ok (.istore 5, 2) := by decide +kernel
theorem dX12_coordinate_5 : decode cX12_coordinate 5 = .ok (.iload 5, 2) := by decide +kernel
theorem dX12_coordinate_7 : decode cX12_coordinate 7 = .ok (.iconst 3, 1) := by decide +kernel
theorem dX12_coordinate_8 : decode cX12_coordinate 8 = .ok (.if_icmp .ge 102, 3) := by decide +kernel
theorem dX12_coordinate_11 : decode cX12_coordinate 11 = .ok (.lconst 0, 1) := by decide +kernel
theorem dX12_coordinate_12 : decode cX12_coordinate 12 = .ok (.lstore 6, 2) := by decide +kernel
theorem dX12_coordinate_14 : decode cX12_coordinate 14 = .ok (.iconst 0, 1) := by decide +kernel
theorem dX12_coordinate_15 : decode cX12_coordinate 15 = .ok (.istore 8, 2) := by decide +kernel
theorem dX12_coordinate_17 : decode cX12_coordinate 17 = .ok (.iload 8, 2) := by decide +kernel
theorem dX12_coordinate_19 : decode cX12_coordinate 19 = .ok (.iconst 3, 1) := by decide +kernel
theorem dX12_coordinate_20 : decode cX12_coordinate 20 = .ok (.if_icmp .ge 36, 3) := by decide +kernel
theorem dX12_coordinate_23 : decode cX12_coordinate 23 = .ok (.lload 6, 2) := by decide +kernel
theorem dX12_coordinate_25 : decode cX12_coordinate 25 = .ok (.aload_n 0, 1) := by decide +kernel
theorem dX12_coordinate_26 : decode cX12_coordinate 26 = .ok (.iconst 0, 1) := by decide +kernel
theorem dX12_coordinate_27 : decode cX12_coordinate 27 = .ok (.iload_n 1, 1) := by decide +kernel
theorem dX12_coordinate_28 : decode cX12_coordinate 28 = .ok (.iload 8, 2) := by decide +kernel
theorem dX12_coordinate_30 : decode cX12_coordinate 30 = .ok (.invokevirtual 126, 3) := by decide +kernel
theorem dX12_coordinate_33 : decode cX12_coordinate 33 = .ok (.i2l, 1) := by decide +kernel
theorem dX12_coordinate_34 : decode cX12_coordinate 34 = .ok (.aload_n 0, 1) := by decide +kernel
theorem dX12_coordinate_35 : decode cX12_coordinate 35 = .ok (.getfield 48, 3) := by decide +kernel
theorem dX12_coordinate_38 : decode cX12_coordinate 38 = .ok (.iconst 3, 1) := by decide +kernel
theorem dX12_coordinate_39 : decode cX12_coordinate 39 = .ok (.iload 5, 2) := by decide +kernel
theorem dX12_coordinate_41 : decode cX12_coordinate 41 = .ok (.imul, 1) := by decide +kernel
theorem dX12_coordinate_42 : decode cX12_coordinate 42 = .ok (.iload 8, 2) := by decide +kernel
theorem dX12_coordinate_44 : decode cX12_coordinate 44 = .ok (.iadd, 1) := by decide +kernel
theorem dX12_coordinate_45 : decode cX12_coordinate 45 = .ok (.laload, 1) := by decide +kernel
theorem dX12_coordinate_46 : decode cX12_coordinate 46 = .ok (.lmul, 1) := by decide +kernel
theorem dX12_coordinate_47 : decode cX12_coordinate 47 = .ok (.ladd, 1) := by decide +kernel
theorem dX12_coordinate_48 : decode cX12_coordinate 48 = .ok (.lstore 6, 2) := by decide +kernel
theorem dX12_coordinate_50 : decode cX12_coordinate 50 = .ok (.iinc 8 1, 3) := by decide +kernel
theorem dX12_coordinate_53 : decode cX12_coordinate 53 = .ok (.goto (-36), 3) := by decide +kernel
theorem dX12_coordinate_56 : decode cX12_coordinate 56 = .ok (.lload_n 3, 1) := by decide +kernel
theorem dX12_coordinate_57 : decode cX12_coordinate 57 = .ok (.lload 6, 2) := by decide +kernel
theorem dX12_coordinate_59 : decode cX12_coordinate 59 = .ok (.aload_n 0, 1) := by decide +kernel
theorem dX12_coordinate_60 : decode cX12_coordinate 60 = .ok (.getfield 52, 3) := by decide +kernel
theorem dX12_coordinate_63 : decode cX12_coordinate 63 = .ok (.iconst 3, 1) := by decide +kernel
theorem dX12_coordinate_64 : decode cX12_coordinate 64 = .ok (.iload 5, 2) := by decide +kernel
theorem dX12_coordinate_66 : decode cX12_coordinate 66 = .ok (.imul, 1) := by decide +kernel
theorem dX12_coordinate_67 : decode cX12_coordinate 67 = .ok (.iload_n 2, 1) := by decide +kernel
theorem dX12_coordinate_68 : decode cX12_coordinate 68 = .ok (.iadd, 1) := by decide +kernel
theorem dX12_coordinate_69 : decode cX12_coordinate 69 = .ok (.laload, 1) := by decide +kernel
theorem dX12_coordinate_70 : decode cX12_coordinate 70 = .ok (.lmul, 1) := by decide +kernel
theorem dX12_coordinate_71 : decode cX12_coordinate 71 = .ok (.iload 5, 2) := by decide +kernel
theorem dX12_coordinate_73 : decode cX12_coordinate 73 = .ok (.ifCond .ne 12, 3) := by decide +kernel
theorem dX12_coordinate_76 : decode cX12_coordinate 76 = .ok (.aload_n 0, 1) := by decide +kernel
theorem dX12_coordinate_77 : decode cX12_coordinate 77 = .ok (.getfield 55, 3) := by decide +kernel
theorem dX12_coordinate_80 : decode cX12_coordinate 80 = .ok (.iconst 1, 1) := by decide +kernel
theorem dX12_coordinate_81 : decode cX12_coordinate 81 = .ok (.laload, 1) := by decide +kernel
theorem dX12_coordinate_82 : decode cX12_coordinate 82 = .ok (.goto 19, 3) := by decide +kernel
theorem dX12_coordinate_85 : decode cX12_coordinate 85 = .ok (.iload 5, 2) := by decide +kernel
theorem dX12_coordinate_87 : decode cX12_coordinate 87 = .ok (.iconst 1, 1) := by decide +kernel
theorem dX12_coordinate_88 : decode cX12_coordinate 88 = .ok (.if_icmp .ne 12, 3) := by decide +kernel
theorem dX12_coordinate_91 : decode cX12_coordinate 91 = .ok (.aload_n 0, 1) := by decide +kernel
theorem dX12_coordinate_92 : decode cX12_coordinate 92 = .ok (.getfield 55, 3) := by decide +kernel
theorem dX12_coordinate_95 : decode cX12_coordinate 95 = .ok (.iconst 0, 1) := by decide +kernel
theorem dX12_coordinate_96 : decode cX12_coordinate 96 = .ok (.laload, 1) := by decide +kernel
theorem dX12_coordinate_97 : decode cX12_coordinate 97 = .ok (.goto 4, 3) := by decide +kernel
theorem dX12_coordinate_100 : decode cX12_coordinate 100 = .ok (.lconst 1, 1) := by decide +kernel
theorem dX12_coordinate_101 : decode cX12_coordinate 101 = .ok (.lmul, 1) := by decide +kernel
theorem dX12_coordinate_102 : decode cX12_coordinate 102 = .ok (.ladd, 1) := by decide +kernel
theorem dX12_coordinate_103 : decode cX12_coordinate 103 = .ok (.lstore_n 3, 1) := by decide +kernel
theorem dX12_coordinate_104 : decode cX12_coordinate 104 = .ok (.iinc 5 1, 3) := by decide +kernel
theorem dX12_coordinate_107 : decode cX12_coordinate 107 = .ok (.goto (-102), 3) := by decide +kernel
theorem dX12_coordinate_110 : decode cX12_coordinate 110 = .ok (.lload_n 3, 1) := by decide +kernel
theorem dX12_coordinate_111 : decode cX12_coordinate 111 = .ok (.aload_n 0, 1) := by decide +kernel
theorem dX12_coordinate_112 : decode cX12_coordinate 112 = .ok (.getfield 55, 3) := by decide +kernel
theorem dX12_coordinate_115 : decode cX12_coordinate 115 = .ok (.iconst 2, 1) := by decide +kernel
theorem dX12_coordinate_116 : decode cX12_coordinate 116 = .ok (.laload, 1) := by decide +kernel
theorem dX12_coordinate_117 : decode cX12_coordinate 117 = .ok (.invokestatic 199, 3) := by decide +kernel
theorem dX12_coordinate_120 : decode cX12_coordinate 120 = .ok (.l2i, 1) := by decide +kernel
theorem dX12_coordinate_121 : decode cX12_coordinate 121 = .ok (.ireturn, 1) := by decide +kernel
theorem dX12_spotOf_0 : decode cX12_spotOf 0 = .ok (.iconst (-1), 1) := by decide +kernel
theorem dX12_spotOf_1 : decode cX12_spotOf 1 = .ok (.istore_n 2, 1) := by decide +kernel
theorem dX12_spotOf_2 : decode cX12_spotOf 2 = .ok (.iconst 0, 1) := by decide +kernel
theorem dX12_spotOf_3 : decode cX12_spotOf 3 = .ok (.istore_n 3, 1) := by decide +kernel
theorem dX12_spotOf_4 : decode cX12_spotOf 4 = .ok (.iload_n 3, 1) := by decide +kernel
theorem dX12_spotOf_5 : decode cX12_spotOf 5 = .ok (.bipush 8, 2) := by decide +kernel
theorem dX12_spotOf_7 : decode cX12_spotOf 7 = .ok (.if_icmp .ge 25, 3) := by decide +kernel
theorem dX12_spotOf_10 : decode cX12_spotOf 10 = .ok (.aload_n 0, 1) := by decide +kernel
theorem dX12_spotOf_11 : decode cX12_spotOf 11 = .ok (.getfield 41, 3) := by decide +kernel
theorem dX12_spotOf_14 : decode cX12_spotOf 14 = .ok (.iload_n 3, 1) := by decide +kernel
theorem dX12_spotOf_15 : decode cX12_spotOf 15 = .ok (.iaload, 1) := by decide +kernel
theorem dX12_spotOf_16 : decode cX12_spotOf 16 = .ok (.iload_n 1, 1) := by decide +kernel
theorem dX12_spotOf_17 : decode cX12_spotOf 17 = .ok (.if_icmp .ne 7, 3) := by decide +kernel
theorem dX12_spotOf_20 : decode cX12_spotOf 20 = .ok (.iload_n 3, 1) := by decide +kernel
theorem dX12_spotOf_21 : decode cX12_spotOf 21 = .ok (.goto 4, 3) := by decide +kernel
theorem dX12_spotOf_24 : decode cX12_spotOf 24 = .ok (.iload_n 2, 1) := by decide +kernel
theorem dX12_spotOf_25 : decode cX12_spotOf 25 = .ok (.istore_n 2, 1) := by decide +kernel
theorem dX12_spotOf_26 : decode cX12_spotOf 26 = .ok (.iinc 3 1, 3) := by decide +kernel
theorem dX12_spotOf_29 : decode cX12_spotOf 29 = .ok (.goto (-25), 3) := by decide +kernel
theorem dX12_spotOf_32 : decode cX12_spotOf 32 = .ok (.iload_n 2, 1) := by decide +kernel
theorem dX12_spotOf_33 : decode cX12_spotOf 33 = .ok (.ireturn, 1) := by decide +kernel
theorem dX12_isNone_0 : decode cX12_isNone 0 = .ok (.aload_n 0, 1) := by decide +kernel
theorem dX12_isNone_1 : decode cX12_isNone 1 = .ok (.iconst 3, 1) := by decide +kernel
theorem dX12_isNone_2 : decode cX12_isNone 2 = .ok (.laload, 1) := by decide +kernel
theorem dX12_isNone_3 : decode cX12_isNone 3 = .ok (.lconst 0, 1) := by decide +kernel
theorem dX12_isNone_4 : decode cX12_isNone 4 = .ok (.lcmp, 1) := by decide +kernel
theorem dX12_isNone_5 : decode cX12_isNone 5 = .ok (.ifCond .ne 23, 3) := by decide +kernel
theorem dX12_isNone_8 : decode cX12_isNone 8 = .ok (.aload_n 0, 1) := by decide +kernel
theorem dX12_isNone_9 : decode cX12_isNone 9 = .ok (.iconst 4, 1) := by decide +kernel
theorem dX12_isNone_10 : decode cX12_isNone 10 = .ok (.laload, 1) := by decide +kernel
theorem dX12_isNone_11 : decode cX12_isNone 11 = .ok (.lconst 0, 1) := by decide +kernel
theorem dX12_isNone_12 : decode cX12_isNone 12 = .ok (.lcmp, 1) := by decide +kernel
theorem dX12_isNone_13 : decode cX12_isNone 13 = .ok (.ifCond .ne 15, 3) := by decide +kernel
theorem dX12_isNone_16 : decode cX12_isNone 16 = .ok (.aload_n 0, 1) := by decide +kernel
theorem dX12_isNone_17 : decode cX12_isNone 17 = .ok (.iconst 5, 1) := by decide +kernel
theorem dX12_isNone_18 : decode cX12_isNone 18 = .ok (.laload, 1) := by decide +kernel
theorem dX12_isNone_19 : decode cX12_isNone 19 = .ok (.lconst 0, 1) := by decide +kernel
theorem dX12_isNone_20 : decode cX12_isNone 20 = .ok (.lcmp, 1) := by decide +kernel
theorem dX12_isNone_21 : decode cX12_isNone 21 = .ok (.ifCond .ne 7, 3) := by decide +kernel
theorem dX12_isNone_24 : decode cX12_isNone 24 = .ok (.iconst 1, 1) := by decide +kernel
theorem dX12_isNone_25 : decode cX12_isNone 25 = .ok (.goto 4, 3) := by decide +kernel
theorem dX12_isNone_28 : decode cX12_isNone 28 = .ok (.iconst 0, 1) := by decide +kernel
theorem dX12_isNone_29 : decode cX12_isNone 29 = .ok (.ireturn, 1) := by decide +kernel
theorem dX12_turning_0 : decode cX12_turning 0 = .ok (.aload_n 0, 1) := by decide +kernel
theorem dX12_turning_1 : decode cX12_turning 1 = .ok (.aload_n 0, 1) := by decide +kernel
theorem dX12_turning_2 : decode cX12_turning 2 = .ok (.getfield 192, 3) := by decide +kernel
theorem dX12_turning_5 : decode cX12_turning 5 = .ok (.iconst 1, 1) := by decide +kernel
theorem dX12_turning_6 : decode cX12_turning 6 = .ok (.if_icmp .le 7, 3) := by decide +kernel
theorem dX12_turning_9 : decode cX12_turning 9 = .ok (.iconst 1, 1) := by decide +kernel
theorem dX12_turning_10 : decode cX12_turning 10 = .ok (.goto 4, 3) := by decide +kernel
theorem dX12_turning_13 : decode cX12_turning 13 = .ok (.iconst 0, 1) := by decide +kernel
theorem dX12_turning_14 : decode cX12_turning 14 = .ok (.putfield 203, 3) := by decide +kernel
theorem dX12_turning_17 : decode cX12_turning 17 = .ok (.aload_n 0, 1) := by decide +kernel
theorem dX12_turning_18 : decode cX12_turning 18 = .ok (.getfield 203, 3) := by decide +kernel
theorem dX12_turning_21 : decode cX12_turning 21 = .ok (.ifCond .ne 4, 3) := by decide +kernel
theorem dX12_turning_24 : decode cX12_turning 24 = .ok (.return_, 1) := by decide +kernel
theorem dX12_turning_25 : decode cX12_turning 25 = .ok (.aload_n 0, 1) := by decide +kernel
theorem dX12_turning_26 : decode cX12_turning 26 = .ok (.iconst 0, 1) := by decide +kernel
theorem dX12_turning_27 : decode cX12_turning 27 = .ok (.invokevirtual 207, 3) := by decide +kernel
theorem dX12_turning_30 : decode cX12_turning 30 = .ok (.istore_n 1, 1) := by decide +kernel
theorem dX12_turning_31 : decode cX12_turning 31 = .ok (.aload_n 0, 1) := by decide +kernel
theorem dX12_turning_32 : decode cX12_turning 32 = .ok (.iconst 1, 1) := by decide +kernel
theorem dX12_turning_33 : decode cX12_turning 33 = .ok (.invokevirtual 207, 3) := by decide +kernel
theorem dX12_turning_36 : decode cX12_turning 36 = .ok (.istore_n 2, 1) := by decide +kernel
theorem dX12_turning_37 : decode cX12_turning 37 = .ok (.aload_n 0, 1) := by decide +kernel
theorem dX12_turning_38 : decode cX12_turning 38 = .ok (.aload_n 0, 1) := by decide +kernel
theorem dX12_turning_39 : decode cX12_turning 39 = .ok (.getfield 52, 3) := by decide +kernel
theorem dX12_turning_42 : decode cX12_turning 42 = .ok (.iconst 1, 1) := by decide +kernel
theorem dX12_turning_43 : decode cX12_turning 43 = .ok (.iload_n 1, 1) := by decide +kernel
theorem dX12_turning_44 : decode cX12_turning 44 = .ok (.iload_n 2, 1) := by decide +kernel
theorem dX12_turning_45 : decode cX12_turning 45 = .ok (.invokevirtual 210, 3) := by decide +kernel
theorem dX12_turning_48 : decode cX12_turning 48 = .ok (.aload_n 0, 1) := by decide +kernel
theorem dX12_turning_49 : decode cX12_turning 49 = .ok (.aload_n 0, 1) := by decide +kernel
theorem dX12_turning_50 : decode cX12_turning 50 = .ok (.getfield 48, 3) := by decide +kernel
theorem dX12_turning_53 : decode cX12_turning 53 = .ok (.iconst 0, 1) := by decide +kernel
theorem dX12_turning_54 : decode cX12_turning 54 = .ok (.aload_n 0, 1) := by decide +kernel
theorem dX12_turning_55 : decode cX12_turning 55 = .ok (.getfield 38, 3) := by decide +kernel
theorem dX12_turning_58 : decode cX12_turning 58 = .ok (.iload_n 1, 1) := by decide +kernel
theorem dX12_turning_59 : decode cX12_turning 59 = .ok (.iaload, 1) := by decide +kernel
theorem dX12_turning_60 : decode cX12_turning 60 = .ok (.aload_n 0, 1) := by decide +kernel
theorem dX12_turning_61 : decode cX12_turning 61 = .ok (.getfield 38, 3) := by decide +kernel
theorem dX12_turning_64 : decode cX12_turning 64 = .ok (.iload_n 2, 1) := by decide +kernel
theorem dX12_turning_65 : decode cX12_turning 65 = .ok (.iaload, 1) := by decide +kernel
theorem dX12_turning_66 : decode cX12_turning 66 = .ok (.invokevirtual 210, 3) := by decide +kernel
theorem dX12_turning_69 : decode cX12_turning 69 = .ok (.aload_n 0, 1) := by decide +kernel
theorem dX12_turning_70 : decode cX12_turning 70 = .ok (.aload_n 0, 1) := by decide +kernel
theorem dX12_turning_71 : decode cX12_turning 71 = .ok (.getfield 52, 3) := by decide +kernel
theorem dX12_turning_74 : decode cX12_turning 74 = .ok (.invokestatic 213, 3) := by decide +kernel
theorem dX12_turning_77 : decode cX12_turning 77 = .ok (.ifCond .ne 17, 3) := by decide +kernel
theorem dX12_turning_80 : decode cX12_turning 80 = .ok (.aload_n 0, 1) := by decide +kernel
theorem dX12_turning_81 : decode cX12_turning 81 = .ok (.getfield 48, 3) := by decide +kernel
theorem dX12_turning_84 : decode cX12_turning 84 = .ok (.invokestatic 213, 3) := by decide +kernel
theorem dX12_turning_87 : decode cX12_turning 87 = .ok (.ifCond .ne 7, 3) := by decide +kernel
theorem dX12_turning_90 : decode cX12_turning 90 = .ok (.iconst 1, 1) := by decide +kernel
theorem dX12_turning_91 : decode cX12_turning 91 = .ok (.goto 4, 3) := by decide +kernel
theorem dX12_turning_94 : decode cX12_turning 94 = .ok (.iconst 0, 1) := by decide +kernel
theorem dX12_turning_95 : decode cX12_turning 95 = .ok (.putfield 203, 3) := by decide +kernel
theorem dX12_turning_98 : decode cX12_turning 98 = .ok (.iconst 0, 1) := by decide +kernel
theorem dX12_turning_99 : decode cX12_turning 99 = .ok (.istore_n 3, 1) := by decide +kernel
theorem dX12_turning_100 : decode cX12_turning 100 = .ok (.iload_n 3, 1) := by decide +kernel
theorem dX12_turning_101 : decode cX12_turning 101 = .ok (.iconst 3, 1) := by decide +kernel
theorem dX12_turning_102 : decode cX12_turning 102 = .ok (.if_icmp .ge 63, 3) := by decide +kernel
theorem dX12_turning_105 : decode cX12_turning 105 = .ok (.aload_n 0, 1) := by decide +kernel
theorem dX12_turning_106 : decode cX12_turning 106 = .ok (.getfield 55, 3) := by decide +kernel
theorem dX12_turning_109 : decode cX12_turning 109 = .ok (.iload_n 3, 1) := by decide +kernel
theorem dX12_turning_110 : decode cX12_turning 110 = .ok (.lconst 0, 1) := by decide +kernel
theorem dX12_turning_111 : decode cX12_turning 111 = .ok (.lastore, 1) := by decide +kernel
theorem dX12_turning_112 : decode cX12_turning 112 = .ok (.iconst 0, 1) := by decide +kernel
theorem dX12_turning_113 : decode cX12_turning 113 = .ok (.istore 4, 2) := by decide +kernel
theorem dX12_turning_115 : decode cX12_turning 115 = .ok (.iload 4, 2) := by decide +kernel
theorem dX12_turning_117 : decode cX12_turning 117 = .ok (.iconst 3, 1) := by decide +kernel
theorem dX12_turning_118 : decode cX12_turning 118 = .ok (.if_icmp .ge 41, 3) := by decide +kernel
theorem dX12_turning_121 : decode cX12_turning 121 = .ok (.aload_n 0, 1) := by decide +kernel
theorem dX12_turning_122 : decode cX12_turning 122 = .ok (.getfield 55, 3) := by decide +kernel
theorem dX12_turning_125 : decode cX12_turning 125 = .ok (.iload_n 3, 1) := by decide +kernel
theorem dX12_turning_126 : decode cX12_turning 126 = .ok (.dup2, 1) := by decide +kernel
theorem dX12_turning_127 : decode cX12_turning 127 = .ok (.laload, 1) := by decide +kernel
theorem dX12_turning_128 : decode cX12_turning 128 = .ok (.aload_n 0, 1) := by decide +kernel
theorem dX12_turning_129 : decode cX12_turning 129 = .ok (.getfield 48, 3) := by decide +kernel
theorem dX12_turning_132 : decode cX12_turning 132 = .ok (.iconst 3, 1) := by decide +kernel
theorem dX12_turning_133 : decode cX12_turning 133 = .ok (.iload_n 3, 1) := by decide +kernel
theorem dX12_turning_134 : decode cX12_turning 134 = .ok (.imul, 1) := by decide +kernel
theorem dX12_turning_135 : decode cX12_turning 135 = .ok (.iload 4, 2) := by decide +kernel
theorem dX12_turning_137 : decode cX12_turning 137 = .ok (.iadd, 1) := by decide +kernel
theorem dX12_turning_138 : decode cX12_turning 138 = .ok (.laload, 1) := by decide +kernel
theorem dX12_turning_139 : decode cX12_turning 139 = .ok (.aload_n 0, 1) := by decide +kernel
theorem dX12_turning_140 : decode cX12_turning 140 = .ok (.getfield 48, 3) := by decide +kernel
theorem dX12_turning_143 : decode cX12_turning 143 = .ok (.iconst 3, 1) := by decide +kernel
theorem dX12_turning_144 : decode cX12_turning 144 = .ok (.iload_n 3, 1) := by decide +kernel
theorem dX12_turning_145 : decode cX12_turning 145 = .ok (.imul, 1) := by decide +kernel
theorem dX12_turning_146 : decode cX12_turning 146 = .ok (.iload 4, 2) := by decide +kernel
theorem dX12_turning_148 : decode cX12_turning 148 = .ok (.iadd, 1) := by decide +kernel
theorem dX12_turning_149 : decode cX12_turning 149 = .ok (.laload, 1) := by decide +kernel
theorem dX12_turning_150 : decode cX12_turning 150 = .ok (.lmul, 1) := by decide +kernel
theorem dX12_turning_151 : decode cX12_turning 151 = .ok (.ladd, 1) := by decide +kernel
theorem dX12_turning_152 : decode cX12_turning 152 = .ok (.lastore, 1) := by decide +kernel
theorem dX12_turning_153 : decode cX12_turning 153 = .ok (.iinc 4 1, 3) := by decide +kernel
theorem dX12_turning_156 : decode cX12_turning 156 = .ok (.goto (-41), 3) := by decide +kernel
theorem dX12_turning_159 : decode cX12_turning 159 = .ok (.iinc 3 1, 3) := by decide +kernel
theorem dX12_turning_162 : decode cX12_turning 162 = .ok (.goto (-62), 3) := by decide +kernel
theorem dX12_turning_165 : decode cX12_turning 165 = .ok (.iconst 0, 1) := by decide +kernel
theorem dX12_turning_166 : decode cX12_turning 166 = .ok (.istore_n 3, 1) := by decide +kernel
theorem dX12_turning_167 : decode cX12_turning 167 = .ok (.iload_n 3, 1) := by decide +kernel
theorem dX12_turning_168 : decode cX12_turning 168 = .ok (.iconst 3, 1) := by decide +kernel
theorem dX12_turning_169 : decode cX12_turning 169 = .ok (.aload_n 0, 1) := by decide +kernel
theorem dX12_turning_170 : decode cX12_turning 170 = .ok (.getfield 25, 3) := by decide +kernel
theorem dX12_turning_173 : decode cX12_turning 173 = .ok (.iconst 0, 1) := by decide +kernel
theorem dX12_turning_174 : decode cX12_turning 174 = .ok (.iaload, 1) := by decide +kernel
theorem dX12_turning_175 : decode cX12_turning 175 = .ok (.imul, 1) := by decide +kernel
theorem dX12_turning_176 : decode cX12_turning 176 = .ok (.if_icmp .ge 32, 3) := by decide +kernel
theorem dX12_turning_179 : decode cX12_turning 179 = .ok (.aload_n 0, 1) := by decide +kernel
theorem dX12_turning_180 : decode cX12_turning 180 = .ok (.getfield 203, 3) := by decide +kernel
theorem dX12_turning_183 : decode cX12_turning 183 = .ok (.ifCond .eq 25, 3) := by decide +kernel
theorem dX12_turning_186 : decode cX12_turning 186 = .ok (.aload_n 0, 1) := by decide +kernel
theorem dX12_turning_187 : decode cX12_turning 187 = .ok (.getfield 58, 3) := by decide +kernel
theorem dX12_turning_190 : decode cX12_turning 190 = .ok (.iload_n 3, 1) := by decide +kernel
theorem dX12_turning_191 : decode cX12_turning 191 = .ok (.aload_n 0, 1) := by decide +kernel
theorem dX12_turning_192 : decode cX12_turning 192 = .ok (.iload_n 3, 1) := by decide +kernel
theorem dX12_turning_193 : decode cX12_turning 193 = .ok (.iconst 3, 1) := by decide +kernel
theorem dX12_turning_194 : decode cX12_turning 194 = .ok (.idiv, 1) := by decide +kernel
theorem dX12_turning_195 : decode cX12_turning 195 = .ok (.iload_n 3, 1) := by decide +kernel
theorem dX12_turning_196 : decode cX12_turning 196 = .ok (.iconst 3, 1) := by decide +kernel
theorem dX12_turning_197 : decode cX12_turning 197 = .ok (.irem, 1) := by decide +kernel
theorem dX12_turning_198 : decode cX12_turning 198 = .ok (.invokevirtual 217, 3) := by decide +kernel
theorem dX12_turning_201 : decode cX12_turning 201 = .ok (.iastore, 1) := by decide +kernel
theorem dX12_turning_202 : decode cX12_turning 202 = .ok (.iinc 3 1, 3) := by decide +kernel
theorem dX12_turning_205 : decode cX12_turning 205 = .ok (.goto (-38), 3) := by decide +kernel
theorem dX12_turning_208 : decode cX12_turning 208 = .ok (.return_, 1) := by decide +kernel
theorem dX12_farOf_0 : decode cX12_farOf 0 = .ok (.iconst 0, 1) := by decide +kernel
theorem dX12_farOf_1 : decode cX12_farOf 1 = .ok (.istore_n 3, 1) := by decide +kernel
theorem dX12_farOf_2 : decode cX12_farOf 2 = .ok (.iconst 0, 1) := by decide +kernel
theorem dX12_farOf_3 : decode cX12_farOf 3 = .ok (.istore 4, 2) := by decide +kernel
theorem dX12_farOf_5 : decode cX12_farOf 5 = .ok (.iload 4, 2) := by decide +kernel
theorem dX12_farOf_7 : decode cX12_farOf 7 = .ok (.iconst 3, 1) := by decide +kernel
theorem dX12_farOf_8 : decode cX12_farOf 8 = .ok (.if_icmp .ge 34, 3) := by decide +kernel
theorem dX12_farOf_11 : decode cX12_farOf 11 = .ok (.iload_n 3, 1) := by decide +kernel
theorem dX12_farOf_12 : decode cX12_farOf 12 = .ok (.aload_n 0, 1) := by decide +kernel
theorem dX12_farOf_13 : decode cX12_farOf 13 = .ok (.iconst 1, 1) := by decide +kernel
theorem dX12_farOf_14 : decode cX12_farOf 14 = .ok (.iload_n 1, 1) := by decide +kernel
theorem dX12_farOf_15 : decode cX12_farOf 15 = .ok (.iload 4, 2) := by decide +kernel
theorem dX12_farOf_17 : decode cX12_farOf 17 = .ok (.invokevirtual 126, 3) := by decide +kernel
theorem dX12_farOf_20 : decode cX12_farOf 20 = .ok (.aload_n 0, 1) := by decide +kernel
theorem dX12_farOf_21 : decode cX12_farOf 21 = .ok (.getfield 58, 3) := by decide +kernel
theorem dX12_farOf_24 : decode cX12_farOf 24 = .ok (.iconst 3, 1) := by decide +kernel
theorem dX12_farOf_25 : decode cX12_farOf 25 = .ok (.iload_n 2, 1) := by decide +kernel
theorem dX12_farOf_26 : decode cX12_farOf 26 = .ok (.imul, 1) := by decide +kernel
theorem dX12_farOf_27 : decode cX12_farOf 27 = .ok (.iload 4, 2) := by decide +kernel
theorem dX12_farOf_29 : decode cX12_farOf 29 = .ok (.iadd, 1) := by decide +kernel
theorem dX12_farOf_30 : decode cX12_farOf 30 = .ok (.iaload, 1) := by decide +kernel
theorem dX12_farOf_31 : decode cX12_farOf 31 = .ok (.invokestatic 169, 3) := by decide +kernel
theorem dX12_farOf_34 : decode cX12_farOf 34 = .ok (.iadd, 1) := by decide +kernel
theorem dX12_farOf_35 : decode cX12_farOf 35 = .ok (.istore_n 3, 1) := by decide +kernel
theorem dX12_farOf_36 : decode cX12_farOf 36 = .ok (.iinc 4 1, 3) := by decide +kernel
theorem dX12_farOf_39 : decode cX12_farOf 39 = .ok (.goto (-34), 3) := by decide +kernel
theorem dX12_farOf_42 : decode cX12_farOf 42 = .ok (.iload_n 3, 1) := by decide +kernel
theorem dX12_farOf_43 : decode cX12_farOf 43 = .ok (.ireturn, 1) := by decide +kernel
theorem dX12_confirms_0 : decode cX12_confirms 0 = .ok (.aload_n 0, 1) := by decide +kernel
theorem dX12_confirms_1 : decode cX12_confirms 1 = .ok (.iconst 0, 1) := by decide +kernel
theorem dX12_confirms_2 : decode cX12_confirms 2 = .ok (.putfield 220, 3) := by decide +kernel
theorem dX12_confirms_5 : decode cX12_confirms 5 = .ok (.iconst 0, 1) := by decide +kernel
theorem dX12_confirms_6 : decode cX12_confirms 6 = .ok (.istore_n 1, 1) := by decide +kernel
theorem dX12_confirms_7 : decode cX12_confirms 7 = .ok (.iload_n 1, 1) := by decide +kernel
theorem dX12_confirms_8 : decode cX12_confirms 8 = .ok (.bipush 12, 2) := by decide +kernel
theorem dX12_confirms_10 : decode cX12_confirms 10 = .ok (.if_icmp .ge 16, 3) := by decide +kernel
theorem dX12_confirms_13 : decode cX12_confirms 13 = .ok (.aload_n 0, 1) := by decide +kernel
theorem dX12_confirms_14 : decode cX12_confirms 14 = .ok (.getfield 44, 3) := by decide +kernel
theorem dX12_confirms_17 : decode cX12_confirms 17 = .ok (.iload_n 1, 1) := by decide +kernel
theorem dX12_confirms_18 : decode cX12_confirms 18 = .ok (.iconst 0, 1) := by decide +kernel
theorem dX12_confirms_19 : decode cX12_confirms 19 = .ok (.bastore, 1) := by decide +kernel
theorem dX12_confirms_20 : decode cX12_confirms 20 = .ok (.iinc 1 1, 3) := by decide +kernel
theorem dX12_confirms_23 : decode cX12_confirms 23 = .ok (.goto (-16), 3) := by decide +kernel
theorem dX12_confirms_26 : decode cX12_confirms 26 = .ok (.iconst 0, 1) := by decide +kernel
theorem dX12_confirms_27 : decode cX12_confirms 27 = .ok (.istore_n 1, 1) := by decide +kernel
theorem dX12_confirms_28 : decode cX12_confirms 28 = .ok (.iload_n 1, 1) := by decide +kernel
theorem dX12_confirms_29 : decode cX12_confirms 29 = .ok (.bipush 8, 2) := by decide +kernel
theorem dX12_confirms_31 : decode cX12_confirms 31 = .ok (.if_icmp .ge 158, 3) := by decide +kernel
theorem dX12_confirms_34 : decode cX12_confirms 34 = .ok (.aload_n 0, 1) := by decide +kernel
theorem dX12_confirms_35 : decode cX12_confirms 35 = .ok (.getfield 61, 3) := by decide +kernel
theorem dX12_confirms_38 : decode cX12_confirms 38 = .ok (.iload_n 1, 1) := by decide +kernel
theorem dX12_confirms_39 : decode cX12_confirms 39 = .ok (.iconst (-1), 1) := by decide +kernel
theorem dX12_confirms_40 : decode cX12_confirms 40 = .ok (.iastore, 1) := by decide +kernel
theorem dX12_confirms_41 : decode cX12_confirms 41 = .ok (.aload_n 0, 1) := by decide +kernel
theorem dX12_confirms_42 : decode cX12_confirms 42 = .ok (.getfield 64, 3) := by decide +kernel
theorem dX12_confirms_45 : decode cX12_confirms 45 = .ok (.iload_n 1, 1) := by decide +kernel
theorem dX12_confirms_46 : decode cX12_confirms 46 = .ok (.iconst (-1), 1) := by decide +kernel
theorem dX12_confirms_47 : decode cX12_confirms 47 = .ok (.iastore, 1) := by decide +kernel
theorem dX12_confirms_48 : decode cX12_confirms 48 = .ok (.iconst 0, 1) := by decide +kernel
theorem dX12_confirms_49 : decode cX12_confirms 49 = .ok (.istore_n 2, 1) := by decide +kernel
theorem dX12_confirms_50 : decode cX12_confirms 50 = .ok (.iload_n 2, 1) := by decide +kernel
theorem dX12_confirms_51 : decode cX12_confirms 51 = .ok (.aload_n 0, 1) := by decide +kernel
theorem dX12_confirms_52 : decode cX12_confirms 52 = .ok (.getfield 25, 3) := by decide +kernel
theorem dX12_confirms_55 : decode cX12_confirms 55 = .ok (.iconst 0, 1) := by decide +kernel
theorem dX12_confirms_56 : decode cX12_confirms 56 = .ok (.iaload, 1) := by decide +kernel
theorem dX12_confirms_57 : decode cX12_confirms 57 = .ok (.if_icmp .ge 94, 3) := by decide +kernel
theorem dX12_confirms_60 : decode cX12_confirms 60 = .ok (.aload_n 0, 1) := by decide +kernel
theorem dX12_confirms_61 : decode cX12_confirms 61 = .ok (.getfield 203, 3) := by decide +kernel
theorem dX12_confirms_64 : decode cX12_confirms 64 = .ok (.ifCond .eq 87, 3) := by decide +kernel
theorem dX12_confirms_67 : decode cX12_confirms 67 = .ok (.iload_n 1, 1) := by decide +kernel
theorem dX12_confirms_68 : decode cX12_confirms 68 = .ok (.aload_n 0, 1) := by decide +kernel
theorem dX12_confirms_69 : decode cX12_confirms 69 = .ok (.getfield 25, 3) := by decide +kernel
theorem dX12_confirms_72 : decode cX12_confirms 72 = .ok (.iconst 1, 1) := by decide +kernel
theorem dX12_confirms_73 : decode cX12_confirms 73 = .ok (.iaload, 1) := by decide +kernel
theorem dX12_confirms_74 : decode cX12_confirms 74 = .ok (.if_icmp .ge 77, 3) := by decide +kernel
theorem dX12_confirms_77 : decode cX12_confirms 77 = .ok (.iload_n 1, 1) := by decide +kernel
theorem dX12_confirms_78 : decode cX12_confirms 78 = .ok (.aload_n 0, 1) := by decide +kernel
theorem dX12_confirms_79 : decode cX12_confirms 79 = .ok (.getfield 31, 3) := by decide +kernel
theorem dX12_confirms_82 : decode cX12_confirms 82 = .ok (.if_icmp .eq 69, 3) := by decide +kernel
theorem dX12_confirms_85 : decode cX12_confirms 85 = .ok (.aload_n 0, 1) := by decide +kernel
theorem dX12_confirms_86 : decode cX12_confirms 86 = .ok (.iload_n 1, 1) := by decide +kernel
theorem dX12_confirms_87 : decode cX12_confirms 87 = .ok (.iload_n 2, 1) := by decide +kernel
theorem dX12_confirms_88 : decode cX12_confirms 88 = .ok (.invokevirtual 223, 3) := by decide +kernel
theorem dX12_confirms_91 : decode cX12_confirms 91 = .ok (.istore_n 3, 1) := by decide +kernel
theorem dX12_confirms_92 : decode cX12_confirms 92 = .ok (.aload_n 0, 1) := by decide +kernel
theorem dX12_confirms_93 : decode cX12_confirms 93 = .ok (.getfield 44, 3) := by decide +kernel
theorem dX12_confirms_96 : decode cX12_confirms 96 = .ok (.iload_n 2, 1) := by decide +kernel
theorem dX12_confirms_97 : decode cX12_confirms 97 = .ok (.baload, 1) := by decide +kernel
theorem dX12_confirms_98 : decode cX12_confirms 98 = .ok (.ifCond .ne 47, 3) := by decide +kernel
theorem dX12_confirms_101 : decode cX12_confirms 101 = .ok (.iload_n 3, 1) := by decide +kernel
theorem dX12_confirms_102 : decode cX12_confirms 102 = .ok (.aload_n 0, 1) := by decide +kernel
theorem dX12_confirms_103 : decode cX12_confirms 103 = .ok (.getfield 28, 3) := by decide +kernel
theorem dX12_confirms_106 : decode cX12_confirms 106 = .ok (.iconst 3, 1) := by decide +kernel
theorem dX12_confirms_107 : decode cX12_confirms 107 = .ok (.iaload, 1) := by decide +kernel
theorem dX12_confirms_108 : decode cX12_confirms 108 = .ok (.if_icmp .gt 37, 3) := by decide +kernel
theorem dX12_confirms_111 : decode cX12_confirms 111 = .ok (.aload_n 0, 1) := by decide +kernel
theorem dX12_confirms_112 : decode cX12_confirms 112 = .ok (.getfield 61, 3) := by decide +kernel
theorem dX12_confirms_115 : decode cX12_confirms 115 = .ok (.iload_n 1, 1) := by decide +kernel
theorem dX12_confirms_116 : decode cX12_confirms 116 = .ok (.iaload, 1) := by decide +kernel
theorem dX12_confirms_117 : decode cX12_confirms 117 = .ok (.iconst (-1), 1) := by decide +kernel
theorem dX12_confirms_118 : decode cX12_confirms 118 = .ok (.if_icmp .eq 13, 3) := by decide +kernel
theorem dX12_confirms_121 : decode cX12_confirms 121 = .ok (.iload_n 3, 1) := by decide +kernel
theorem dX12_confirms_122 : decode cX12_confirms 122 = .ok (.aload_n 0, 1) := by decide +kernel
theorem dX12_confirms_123 : decode cX12_confirms 123 = .ok (.getfield 64, 3) := by decide +kernel
theorem dX12_confirms_126 : decode cX12_confirms 126 = .ok (.iload_n 1, 1) := by decide +kernel
theorem dX12_confirms_127 : decode cX12_confirms 127 = .ok (.iaload, 1) := by decide +kernel
theorem dX12_confirms_128 : decode cX12_confirms 128 = .ok (.if_icmp .ge 17, 3) := by decide +kernel
theorem dX12_confirms_131 : decode cX12_confirms 131 = .ok (.aload_n 0, 1) := by decide +kernel
theorem dX12_confirms_132 : decode cX12_confirms 132 = .ok (.getfield 61, 3) := by decide +kernel
theorem dX12_confirms_135 : decode cX12_confirms 135 = .ok (.iload_n 1, 1) := by decide +kernel
theorem dX12_confirms_136 : decode cX12_confirms 136 = .ok (.iload_n 2, 1) := by decide +kernel
theorem dX12_confirms_137 : decode cX12_confirms 137 = .ok (.iastore, 1) := by decide +kernel
theorem dX12_confirms_138 : decode cX12_confirms 138 = .ok (.aload_n 0, 1) := by decide +kernel
theorem dX12_confirms_139 : decode cX12_confirms 139 = .ok (.getfield 64, 3) := by decide +kernel
theorem dX12_confirms_142 : decode cX12_confirms 142 = .ok (.iload_n 1, 1) := by decide +kernel
theorem dX12_confirms_143 : decode cX12_confirms 143 = .ok (.iload_n 3, 1) := by decide +kernel
theorem dX12_confirms_144 : decode cX12_confirms 144 = .ok (.iastore, 1) := by decide +kernel
theorem dX12_confirms_145 : decode cX12_confirms 145 = .ok (.iinc 2 1, 3) := by decide +kernel
theorem dX12_confirms_148 : decode cX12_confirms 148 = .ok (.goto (-98), 3) := by decide +kernel
theorem dX12_confirms_151 : decode cX12_confirms 151 = .ok (.aload_n 0, 1) := by decide +kernel
theorem dX12_confirms_152 : decode cX12_confirms 152 = .ok (.getfield 61, 3) := by decide +kernel
theorem dX12_confirms_155 : decode cX12_confirms 155 = .ok (.iload_n 1, 1) := by decide +kernel
theorem dX12_confirms_156 : decode cX12_confirms 156 = .ok (.iaload, 1) := by decide +kernel
theorem dX12_confirms_157 : decode cX12_confirms 157 = .ok (.iconst (-1), 1) := by decide +kernel
theorem dX12_confirms_158 : decode cX12_confirms 158 = .ok (.if_icmp .eq 25, 3) := by decide +kernel
theorem dX12_confirms_161 : decode cX12_confirms 161 = .ok (.aload_n 0, 1) := by decide +kernel
theorem dX12_confirms_162 : decode cX12_confirms 162 = .ok (.getfield 44, 3) := by decide +kernel
theorem dX12_confirms_165 : decode cX12_confirms 165 = .ok (.aload_n 0, 1) := by decide +kernel
theorem dX12_confirms_166 : decode cX12_confirms 166 = .ok (.getfield 61, 3) := by decide +kernel
theorem dX12_confirms_169 : decode cX12_confirms 169 = .ok (.iload_n 1, 1) := by decide +kernel
theorem dX12_confirms_170 : decode cX12_confirms 170 = .ok (.iaload, 1) := by decide +kernel
theorem dX12_confirms_171 : decode cX12_confirms 171 = .ok (.iconst 1, 1) := by decide +kernel
theorem dX12_confirms_172 : decode cX12_confirms 172 = .ok (.bastore, 1) := by decide +kernel
theorem dX12_confirms_173 : decode cX12_confirms 173 = .ok (.aload_n 0, 1) := by decide +kernel
theorem dX12_confirms_174 : decode cX12_confirms 174 = .ok (.dup, 1) := by decide +kernel
theorem dX12_confirms_175 : decode cX12_confirms 175 = .ok (.getfield 220, 3) := by decide +kernel
theorem dX12_confirms_178 : decode cX12_confirms 178 = .ok (.iconst 1, 1) := by decide +kernel
theorem dX12_confirms_179 : decode cX12_confirms 179 = .ok (.iadd, 1) := by decide +kernel
theorem dX12_confirms_180 : decode cX12_confirms 180 = .ok (.putfield 220, 3) := by decide +kernel
theorem dX12_confirms_183 : decode cX12_confirms 183 = .ok (.iinc 1 1, 3) := by decide +kernel
theorem dX12_confirms_186 : decode cX12_confirms 186 = .ok (.goto (-158), 3) := by decide +kernel
theorem dX12_confirms_189 : decode cX12_confirms 189 = .ok (.return_, 1) := by decide +kernel
theorem dX12_find_0 : decode cX12_find 0 = .ok (.aload_n 0, 1) := by decide +kernel
theorem dX12_find_1 : decode cX12_find 1 = .ok (.invokevirtual 226, 3) := by decide +kernel
theorem dX12_find_4 : decode cX12_find 4 = .ok (.aload_n 0, 1) := by decide +kernel
theorem dX12_find_5 : decode cX12_find 5 = .ok (.invokevirtual 229, 3) := by decide +kernel
theorem dX12_find_8 : decode cX12_find 8 = .ok (.aload_n 0, 1) := by decide +kernel
theorem dX12_find_9 : decode cX12_find 9 = .ok (.invokevirtual 232, 3) := by decide +kernel
theorem dX12_find_12 : decode cX12_find 12 = .ok (.aload_n 0, 1) := by decide +kernel
theorem dX12_find_13 : decode cX12_find 13 = .ok (.invokevirtual 235, 3) := by decide +kernel
theorem dX12_find_16 : decode cX12_find 16 = .ok (.return_, 1) := by decide +kernel
theorem dX12_threes_0 : decode cX12_threes 0 = .ok (.iload_n 0, 1) := by decide +kernel
theorem dX12_threes_1 : decode cX12_threes 1 = .ok (.iload_n 0, 1) := by decide +kernel
theorem dX12_threes_2 : decode cX12_threes 2 = .ok (.iconst 1, 1) := by decide +kernel
theorem dX12_threes_3 : decode cX12_threes 3 = .ok (.isub, 1) := by decide +kernel
theorem dX12_threes_4 : decode cX12_threes 4 = .ok (.imul, 1) := by decide +kernel
theorem dX12_threes_5 : decode cX12_threes 5 = .ok (.iload_n 0, 1) := by decide +kernel
theorem dX12_threes_6 : decode cX12_threes 6 = .ok (.iconst 2, 1) := by decide +kernel
theorem dX12_threes_7 : decode cX12_threes 7 = .ok (.isub, 1) := by decide +kernel
theorem dX12_threes_8 : decode cX12_threes 8 = .ok (.imul, 1) := by decide +kernel
theorem dX12_threes_9 : decode cX12_threes 9 = .ok (.bipush 6, 2) := by decide +kernel
theorem dX12_threes_11 : decode cX12_threes 11 = .ok (.idiv, 1) := by decide +kernel
theorem dX12_threes_12 : decode cX12_threes 12 = .ok (.ireturn, 1) := by decide +kernel
theorem dX12_looksBy_0 : decode cX12_looksBy 0 = .ok (.iload_n 1, 1) := by decide +kernel
theorem dX12_looksBy_1 : decode cX12_looksBy 1 = .ok (.ifCond .ne 15, 3) := by decide +kernel
theorem dX12_looksBy_4 : decode cX12_looksBy 4 = .ok (.aload_n 0, 1) := by decide +kernel
theorem dX12_looksBy_5 : decode cX12_looksBy 5 = .ok (.getfield 25, 3) := by decide +kernel
theorem dX12_looksBy_8 : decode cX12_looksBy 8 = .ok (.iconst 0, 1) := by decide +kernel
theorem dX12_looksBy_9 : decode cX12_looksBy 9 = .ok (.iaload, 1) := by decide +kernel
theorem dX12_looksBy_10 : decode cX12_looksBy 10 = .ok (.invokestatic 238, 3) := by decide +kernel
theorem dX12_looksBy_13 : decode cX12_looksBy 13 = .ok (.goto 36, 3) := by decide +kernel
theorem dX12_looksBy_16 : decode cX12_looksBy 16 = .ok (.iload_n 1, 1) := by decide +kernel
theorem dX12_looksBy_17 : decode cX12_looksBy 17 = .ok (.iconst 1, 1) := by decide +kernel
theorem dX12_looksBy_18 : decode cX12_looksBy 18 = .ok (.if_icmp .ne 15, 3) := by decide +kernel
theorem dX12_looksBy_21 : decode cX12_looksBy 21 = .ok (.aload_n 0, 1) := by decide +kernel
theorem dX12_looksBy_22 : decode cX12_looksBy 22 = .ok (.getfield 25, 3) := by decide +kernel
theorem dX12_looksBy_25 : decode cX12_looksBy 25 = .ok (.iconst 1, 1) := by decide +kernel
theorem dX12_looksBy_26 : decode cX12_looksBy 26 = .ok (.iaload, 1) := by decide +kernel
theorem dX12_looksBy_27 : decode cX12_looksBy 27 = .ok (.invokestatic 238, 3) := by decide +kernel
theorem dX12_looksBy_30 : decode cX12_looksBy 30 = .ok (.goto 19, 3) := by decide +kernel
theorem dX12_looksBy_33 : decode cX12_looksBy 33 = .ok (.iload_n 1, 1) := by decide +kernel
theorem dX12_looksBy_34 : decode cX12_looksBy 34 = .ok (.iconst 2, 1) := by decide +kernel
theorem dX12_looksBy_35 : decode cX12_looksBy 35 = .ok (.if_icmp .ne 10, 3) := by decide +kernel
theorem dX12_looksBy_38 : decode cX12_looksBy 38 = .ok (.aload_n 0, 1) := by decide +kernel
theorem dX12_looksBy_39 : decode cX12_looksBy 39 = .ok (.getfield 178, 3) := by decide +kernel
theorem dX12_looksBy_42 : decode cX12_looksBy 42 = .ok (.goto 7, 3) := by decide +kernel
theorem dX12_looksBy_45 : decode cX12_looksBy 45 = .ok (.aload_n 0, 1) := by decide +kernel
theorem dX12_looksBy_46 : decode cX12_looksBy 46 = .ok (.getfield 175, 3) := by decide +kernel
theorem dX12_looksBy_49 : decode cX12_looksBy 49 = .ok (.ireturn, 1) := by decide +kernel
theorem dX12_looks_0 : decode cX12_looks 0 = .ok (.aload_n 0, 1) := by decide +kernel
theorem dX12_looks_1 : decode cX12_looks 1 = .ok (.invokevirtual 241, 3) := by decide +kernel
theorem dX12_looks_4 : decode cX12_looks 4 = .ok (.iload_n 1, 1) := by decide +kernel
theorem dX12_looks_5 : decode cX12_looks 5 = .ok (.i2l, 1) := by decide +kernel
theorem dX12_looks_6 : decode cX12_looks 6 = .ok (.lconst 0, 1) := by decide +kernel
theorem dX12_looks_7 : decode cX12_looks 7 = .ok (.ldc2_w 83, 3) := by decide +kernel
theorem dX12_looks_10 : decode cX12_looks 10 = .ok (.invokestatic 76, 3) := by decide +kernel
theorem dX12_looks_13 : decode cX12_looks 13 = .ok (.ifCond .eq 11, 3) := by decide +kernel
theorem dX12_looks_16 : decode cX12_looks 16 = .ok (.aload_n 0, 1) := by decide +kernel
theorem dX12_looks_17 : decode cX12_looks 17 = .ok (.iload_n 1, 1) := by decide +kernel
theorem dX12_looks_18 : decode cX12_looks 18 = .ok (.invokevirtual 244, 3) := by decide +kernel
theorem dX12_looks_21 : decode cX12_looks 21 = .ok (.goto 5, 3) := by decide +kernel
theorem dX12_looks_24 : decode cX12_looks 24 = .ok (.bipush (-2), 2) := by decide +kernel
theorem dX12_looks_26 : decode cX12_looks 26 = .ok (.ireturn, 1) := by decide +kernel
theorem dX12_votes_0 : decode cX12_votes 0 = .ok (.aload_n 0, 1) := by decide +kernel
theorem dX12_votes_1 : decode cX12_votes 1 = .ok (.invokevirtual 241, 3) := by decide +kernel
theorem dX12_votes_4 : decode cX12_votes 4 = .ok (.aload_n 0, 1) := by decide +kernel
theorem dX12_votes_5 : decode cX12_votes 5 = .ok (.iconst 1, 1) := by decide +kernel
theorem dX12_votes_6 : decode cX12_votes 6 = .ok (.iload_n 1, 1) := by decide +kernel
theorem dX12_votes_7 : decode cX12_votes 7 = .ok (.invokevirtual 122, 3) := by decide +kernel
theorem dX12_votes_10 : decode cX12_votes 10 = .ok (.ifCond .eq 26, 3) := by decide +kernel
theorem dX12_votes_13 : decode cX12_votes 13 = .ok (.aload_n 0, 1) := by decide +kernel
theorem dX12_votes_14 : decode cX12_votes 14 = .ok (.iconst 0, 1) := by decide +kernel
theorem dX12_votes_15 : decode cX12_votes 15 = .ok (.iload_n 2, 1) := by decide +kernel
theorem dX12_votes_16 : decode cX12_votes 16 = .ok (.invokevirtual 122, 3) := by decide +kernel
theorem dX12_votes_19 : decode cX12_votes 19 = .ok (.ifCond .eq 17, 3) := by decide +kernel
theorem dX12_votes_22 : decode cX12_votes 22 = .ok (.aload_n 0, 1) := by decide +kernel
theorem dX12_votes_23 : decode cX12_votes 23 = .ok (.getfield 35, 3) := by decide +kernel
theorem dX12_votes_26 : decode cX12_votes 26 = .ok (.bipush 12, 2) := by decide +kernel
theorem dX12_votes_28 : decode cX12_votes 28 = .ok (.iload_n 1, 1) := by decide +kernel
theorem dX12_votes_29 : decode cX12_votes 29 = .ok (.imul, 1) := by decide +kernel
theorem dX12_votes_30 : decode cX12_votes 30 = .ok (.iload_n 2, 1) := by decide +kernel
theorem dX12_votes_31 : decode cX12_votes 31 = .ok (.iadd, 1) := by decide +kernel
theorem dX12_votes_32 : decode cX12_votes 32 = .ok (.iaload, 1) := by decide +kernel
theorem dX12_votes_33 : decode cX12_votes 33 = .ok (.goto 5, 3) := by decide +kernel
theorem dX12_votes_36 : decode cX12_votes 36 = .ok (.bipush (-2), 2) := by decide +kernel
theorem dX12_votes_38 : decode cX12_votes 38 = .ok (.ireturn, 1) := by decide +kernel
theorem dX12_takenBy_0 : decode cX12_takenBy 0 = .ok (.iload_n 2, 1) := by decide +kernel
theorem dX12_takenBy_1 : decode cX12_takenBy 1 = .ok (.ifCond .ne 12, 3) := by decide +kernel
theorem dX12_takenBy_4 : decode cX12_takenBy 4 = .ok (.aload_n 0, 1) := by decide +kernel
theorem dX12_takenBy_5 : decode cX12_takenBy 5 = .ok (.getfield 38, 3) := by decide +kernel
theorem dX12_takenBy_8 : decode cX12_takenBy 8 = .ok (.iload_n 1, 1) := by decide +kernel
theorem dX12_takenBy_9 : decode cX12_takenBy 9 = .ok (.iaload, 1) := by decide +kernel
theorem dX12_takenBy_10 : decode cX12_takenBy 10 = .ok (.goto 9, 3) := by decide +kernel
theorem dX12_takenBy_13 : decode cX12_takenBy 13 = .ok (.aload_n 0, 1) := by decide +kernel
theorem dX12_takenBy_14 : decode cX12_takenBy 14 = .ok (.getfield 41, 3) := by decide +kernel
theorem dX12_takenBy_17 : decode cX12_takenBy 17 = .ok (.iload_n 1, 1) := by decide +kernel
theorem dX12_takenBy_18 : decode cX12_takenBy 18 = .ok (.iaload, 1) := by decide +kernel
theorem dX12_takenBy_19 : decode cX12_takenBy 19 = .ok (.ireturn, 1) := by decide +kernel
theorem dX12_taken_0 : decode cX12_taken 0 = .ok (.aload_n 0, 1) := by decide +kernel
theorem dX12_taken_1 : decode cX12_taken 1 = .ok (.invokevirtual 241, 3) := by decide +kernel
theorem dX12_taken_4 : decode cX12_taken 4 = .ok (.aload_n 0, 1) := by decide +kernel
theorem dX12_taken_5 : decode cX12_taken 5 = .ok (.iconst 1, 1) := by decide +kernel
theorem dX12_taken_6 : decode cX12_taken 6 = .ok (.iload_n 1, 1) := by decide +kernel
theorem dX12_taken_7 : decode cX12_taken 7 = .ok (.invokevirtual 122, 3) := by decide +kernel
theorem dX12_taken_10 : decode cX12_taken 10 = .ok (.ifCond .eq 19, 3) := by decide +kernel
theorem dX12_taken_13 : decode cX12_taken 13 = .ok (.iload_n 2, 1) := by decide +kernel
theorem dX12_taken_14 : decode cX12_taken 14 = .ok (.invokestatic 108, 3) := by decide +kernel
theorem dX12_taken_17 : decode cX12_taken 17 = .ok (.ifCond .eq 12, 3) := by decide +kernel
theorem dX12_taken_20 : decode cX12_taken 20 = .ok (.aload_n 0, 1) := by decide +kernel
theorem dX12_taken_21 : decode cX12_taken 21 = .ok (.iload_n 1, 1) := by decide +kernel
theorem dX12_taken_22 : decode cX12_taken 22 = .ok (.iload_n 2, 1) := by decide +kernel
theorem dX12_taken_23 : decode cX12_taken 23 = .ok (.invokevirtual 247, 3) := by decide +kernel
theorem dX12_taken_26 : decode cX12_taken 26 = .ok (.goto 5, 3) := by decide +kernel
theorem dX12_taken_29 : decode cX12_taken 29 = .ok (.bipush (-2), 2) := by decide +kernel
theorem dX12_taken_31 : decode cX12_taken 31 = .ok (.ireturn, 1) := by decide +kernel
theorem dX12_turn_0 : decode cX12_turn 0 = .ok (.aload_n 0, 1) := by decide +kernel
theorem dX12_turn_1 : decode cX12_turn 1 = .ok (.invokevirtual 241, 3) := by decide +kernel
theorem dX12_turn_4 : decode cX12_turn 4 = .ok (.aload_n 0, 1) := by decide +kernel
theorem dX12_turn_5 : decode cX12_turn 5 = .ok (.getfield 203, 3) := by decide +kernel
theorem dX12_turn_8 : decode cX12_turn 8 = .ok (.ifCond .eq 7, 3) := by decide +kernel
theorem dX12_turn_11 : decode cX12_turn 11 = .ok (.iconst 1, 1) := by decide +kernel
theorem dX12_turn_12 : decode cX12_turn 12 = .ok (.goto 4, 3) := by decide +kernel
theorem dX12_turn_15 : decode cX12_turn 15 = .ok (.iconst 0, 1) := by decide +kernel
theorem dX12_turn_16 : decode cX12_turn 16 = .ok (.ireturn, 1) := by decide +kernel
theorem dX12_placeBy_0 : decode cX12_placeBy 0 = .ok (.aload_n 0, 1) := by decide +kernel
theorem dX12_placeBy_1 : decode cX12_placeBy 1 = .ok (.getfield 203, 3) := by decide +kernel
theorem dX12_placeBy_4 : decode cX12_placeBy 4 = .ok (.ifCond .eq 16, 3) := by decide +kernel
theorem dX12_placeBy_7 : decode cX12_placeBy 7 = .ok (.aload_n 0, 1) := by decide +kernel
theorem dX12_placeBy_8 : decode cX12_placeBy 8 = .ok (.getfield 58, 3) := by decide +kernel
theorem dX12_placeBy_11 : decode cX12_placeBy 11 = .ok (.iconst 3, 1) := by decide +kernel
theorem dX12_placeBy_12 : decode cX12_placeBy 12 = .ok (.iload_n 1, 1) := by decide +kernel
theorem dX12_placeBy_13 : decode cX12_placeBy 13 = .ok (.imul, 1) := by decide +kernel
theorem dX12_placeBy_14 : decode cX12_placeBy 14 = .ok (.iload_n 2, 1) := by decide +kernel
theorem dX12_placeBy_15 : decode cX12_placeBy 15 = .ok (.iadd, 1) := by decide +kernel
theorem dX12_placeBy_16 : decode cX12_placeBy 16 = .ok (.iaload, 1) := by decide +kernel
theorem dX12_placeBy_17 : decode cX12_placeBy 17 = .ok (.goto 5, 3) := by decide +kernel
theorem dX12_placeBy_20 : decode cX12_placeBy 20 = .ok (.ldc 103, 2) := by decide +kernel
theorem dX12_placeBy_22 : decode cX12_placeBy 22 = .ok (.ireturn, 1) := by decide +kernel
theorem dX12_place_0 : decode cX12_place 0 = .ok (.aload_n 0, 1) := by decide +kernel
theorem dX12_place_1 : decode cX12_place 1 = .ok (.invokevirtual 241, 3) := by decide +kernel
theorem dX12_place_4 : decode cX12_place 4 = .ok (.aload_n 0, 1) := by decide +kernel
theorem dX12_place_5 : decode cX12_place 5 = .ok (.iconst 0, 1) := by decide +kernel
theorem dX12_place_6 : decode cX12_place 6 = .ok (.iload_n 1, 1) := by decide +kernel
theorem dX12_place_7 : decode cX12_place 7 = .ok (.invokevirtual 122, 3) := by decide +kernel
theorem dX12_place_10 : decode cX12_place 10 = .ok (.ifCond .eq 24, 3) := by decide +kernel
theorem dX12_place_13 : decode cX12_place 13 = .ok (.iload_n 2, 1) := by decide +kernel
theorem dX12_place_14 : decode cX12_place 14 = .ok (.i2l, 1) := by decide +kernel
theorem dX12_place_15 : decode cX12_place 15 = .ok (.lconst 0, 1) := by decide +kernel
theorem dX12_place_16 : decode cX12_place 16 = .ok (.ldc2_w 89, 3) := by decide +kernel
theorem dX12_place_19 : decode cX12_place 19 = .ok (.invokestatic 76, 3) := by decide +kernel
theorem dX12_place_22 : decode cX12_place 22 = .ok (.ifCond .eq 12, 3) := by decide +kernel
theorem dX12_place_25 : decode cX12_place 25 = .ok (.aload_n 0, 1) := by decide +kernel
theorem dX12_place_26 : decode cX12_place 26 = .ok (.iload_n 1, 1) := by decide +kernel
theorem dX12_place_27 : decode cX12_place 27 = .ok (.iload_n 2, 1) := by decide +kernel
theorem dX12_place_28 : decode cX12_place 28 = .ok (.invokevirtual 250, 3) := by decide +kernel
theorem dX12_place_31 : decode cX12_place 31 = .ok (.goto 5, 3) := by decide +kernel
theorem dX12_place_34 : decode cX12_place 34 = .ok (.ldc 103, 2) := by decide +kernel
theorem dX12_place_36 : decode cX12_place 36 = .ok (.ireturn, 1) := by decide +kernel
theorem dX12_confirmedBy_0 : decode cX12_confirmedBy 0 = .ok (.iload_n 2, 1) := by decide +kernel
theorem dX12_confirmedBy_1 : decode cX12_confirmedBy 1 = .ok (.ifCond .ne 12, 3) := by decide +kernel
theorem dX12_confirmedBy_4 : decode cX12_confirmedBy 4 = .ok (.aload_n 0, 1) := by decide +kernel
theorem dX12_confirmedBy_5 : decode cX12_confirmedBy 5 = .ok (.getfield 61, 3) := by decide +kernel
theorem dX12_confirmedBy_8 : decode cX12_confirmedBy 8 = .ok (.iload_n 1, 1) := by decide +kernel
theorem dX12_confirmedBy_9 : decode cX12_confirmedBy 9 = .ok (.iaload, 1) := by decide +kernel
theorem dX12_confirmedBy_10 : decode cX12_confirmedBy 10 = .ok (.goto 9, 3) := by decide +kernel
theorem dX12_confirmedBy_13 : decode cX12_confirmedBy 13 = .ok (.aload_n 0, 1) := by decide +kernel
theorem dX12_confirmedBy_14 : decode cX12_confirmedBy 14 = .ok (.getfield 64, 3) := by decide +kernel
theorem dX12_confirmedBy_17 : decode cX12_confirmedBy 17 = .ok (.iload_n 1, 1) := by decide +kernel
theorem dX12_confirmedBy_18 : decode cX12_confirmedBy 18 = .ok (.iaload, 1) := by decide +kernel
theorem dX12_confirmedBy_19 : decode cX12_confirmedBy 19 = .ok (.ireturn, 1) := by decide +kernel
theorem dX12_confirmed_0 : decode cX12_confirmed 0 = .ok (.aload_n 0, 1) := by decide +kernel
theorem dX12_confirmed_1 : decode cX12_confirmed 1 = .ok (.invokevirtual 241, 3) := by decide +kernel
theorem dX12_confirmed_4 : decode cX12_confirmed 4 = .ok (.aload_n 0, 1) := by decide +kernel
theorem dX12_confirmed_5 : decode cX12_confirmed 5 = .ok (.iconst 1, 1) := by decide +kernel
theorem dX12_confirmed_6 : decode cX12_confirmed 6 = .ok (.iload_n 1, 1) := by decide +kernel
theorem dX12_confirmed_7 : decode cX12_confirmed 7 = .ok (.invokevirtual 122, 3) := by decide +kernel
theorem dX12_confirmed_10 : decode cX12_confirmed 10 = .ok (.ifCond .eq 19, 3) := by decide +kernel
theorem dX12_confirmed_13 : decode cX12_confirmed 13 = .ok (.iload_n 2, 1) := by decide +kernel
theorem dX12_confirmed_14 : decode cX12_confirmed 14 = .ok (.invokestatic 108, 3) := by decide +kernel
theorem dX12_confirmed_17 : decode cX12_confirmed 17 = .ok (.ifCond .eq 12, 3) := by decide +kernel
theorem dX12_confirmed_20 : decode cX12_confirmed 20 = .ok (.aload_n 0, 1) := by decide +kernel
theorem dX12_confirmed_21 : decode cX12_confirmed 21 = .ok (.iload_n 1, 1) := by decide +kernel
theorem dX12_confirmed_22 : decode cX12_confirmed 22 = .ok (.iload_n 2, 1) := by decide +kernel
theorem dX12_confirmed_23 : decode cX12_confirmed 23 = .ok (.invokevirtual 253, 3) := by decide +kernel
theorem dX12_confirmed_26 : decode cX12_confirmed 26 = .ok (.goto 5, 3) := by decide +kernel
theorem dX12_confirmed_29 : decode cX12_confirmed 29 = .ok (.bipush (-2), 2) := by decide +kernel
theorem dX12_confirmed_31 : decode cX12_confirmed 31 = .ok (.ireturn, 1) := by decide +kernel
theorem dX12_wrongNow_0 : decode cX12_wrongNow 0 = .ok (.iconst 0, 1) := by decide +kernel
theorem dX12_wrongNow_1 : decode cX12_wrongNow 1 = .ok (.istore_n 1, 1) := by decide +kernel
theorem dX12_wrongNow_2 : decode cX12_wrongNow 2 = .ok (.iconst 0, 1) := by decide +kernel
theorem dX12_wrongNow_3 : decode cX12_wrongNow 3 = .ok (.istore_n 2, 1) := by decide +kernel
theorem dX12_wrongNow_4 : decode cX12_wrongNow 4 = .ok (.iload_n 2, 1) := by decide +kernel
theorem dX12_wrongNow_5 : decode cX12_wrongNow 5 = .ok (.bipush 8, 2) := by decide +kernel
theorem dX12_wrongNow_7 : decode cX12_wrongNow 7 = .ok (.if_icmp .ge 44, 3) := by decide +kernel
theorem dX12_wrongNow_10 : decode cX12_wrongNow 10 = .ok (.iload_n 1, 1) := by decide +kernel
theorem dX12_wrongNow_11 : decode cX12_wrongNow 11 = .ok (.aload_n 0, 1) := by decide +kernel
theorem dX12_wrongNow_12 : decode cX12_wrongNow 12 = .ok (.getfield 38, 3) := by decide +kernel
theorem dX12_wrongNow_15 : decode cX12_wrongNow 15 = .ok (.iload_n 2, 1) := by decide +kernel
theorem dX12_wrongNow_16 : decode cX12_wrongNow 16 = .ok (.iaload, 1) := by decide +kernel
theorem dX12_wrongNow_17 : decode cX12_wrongNow 17 = .ok (.iconst (-1), 1) := by decide +kernel
theorem dX12_wrongNow_18 : decode cX12_wrongNow 18 = .ok (.if_icmp .eq 24, 3) := by decide +kernel
theorem dX12_wrongNow_21 : decode cX12_wrongNow 21 = .ok (.aload_n 0, 1) := by decide +kernel
theorem dX12_wrongNow_22 : decode cX12_wrongNow 22 = .ok (.getfield 38, 3) := by decide +kernel
theorem dX12_wrongNow_25 : decode cX12_wrongNow 25 = .ok (.iload_n 2, 1) := by decide +kernel
theorem dX12_wrongNow_26 : decode cX12_wrongNow 26 = .ok (.iaload, 1) := by decide +kernel
theorem dX12_wrongNow_27 : decode cX12_wrongNow 27 = .ok (.aload_n 0, 1) := by decide +kernel
theorem dX12_wrongNow_28 : decode cX12_wrongNow 28 = .ok (.getfield 61, 3) := by decide +kernel
theorem dX12_wrongNow_31 : decode cX12_wrongNow 31 = .ok (.iload_n 2, 1) := by decide +kernel
theorem dX12_wrongNow_32 : decode cX12_wrongNow 32 = .ok (.iaload, 1) := by decide +kernel
theorem dX12_wrongNow_33 : decode cX12_wrongNow 33 = .ok (.if_icmp .eq 9, 3) := by decide +kernel
theorem dX12_wrongNow_36 : decode cX12_wrongNow 36 = .ok (.iconst 1, 1) := by decide +kernel
theorem dX12_wrongNow_37 : decode cX12_wrongNow 37 = .ok (.iload_n 2, 1) := by decide +kernel
theorem dX12_wrongNow_38 : decode cX12_wrongNow 38 = .ok (.ishl, 1) := by decide +kernel
theorem dX12_wrongNow_39 : decode cX12_wrongNow 39 = .ok (.goto 4, 3) := by decide +kernel
theorem dX12_wrongNow_42 : decode cX12_wrongNow 42 = .ok (.iconst 0, 1) := by decide +kernel
theorem dX12_wrongNow_43 : decode cX12_wrongNow 43 = .ok (.ior, 1) := by decide +kernel
theorem dX12_wrongNow_44 : decode cX12_wrongNow 44 = .ok (.istore_n 1, 1) := by decide +kernel
theorem dX12_wrongNow_45 : decode cX12_wrongNow 45 = .ok (.iinc 2 1, 3) := by decide +kernel
theorem dX12_wrongNow_48 : decode cX12_wrongNow 48 = .ok (.goto (-44), 3) := by decide +kernel
theorem dX12_wrongNow_51 : decode cX12_wrongNow 51 = .ok (.iload_n 1, 1) := by decide +kernel
theorem dX12_wrongNow_52 : decode cX12_wrongNow 52 = .ok (.ireturn, 1) := by decide +kernel
theorem dX12_wrong_0 : decode cX12_wrong 0 = .ok (.aload_n 0, 1) := by decide +kernel
theorem dX12_wrong_1 : decode cX12_wrong 1 = .ok (.invokevirtual 241, 3) := by decide +kernel
theorem dX12_wrong_4 : decode cX12_wrong 4 = .ok (.aload_n 0, 1) := by decide +kernel
theorem dX12_wrong_5 : decode cX12_wrong 5 = .ok (.invokevirtual 256, 3) := by decide +kernel
theorem dX12_wrong_8 : decode cX12_wrong 8 = .ok (.ireturn, 1) := by decide +kernel
theorem dX12_betterBy_0 : decode cX12_betterBy 0 = .ok (.aload_n 0, 1) := by decide +kernel
theorem dX12_betterBy_1 : decode cX12_betterBy 1 = .ok (.getfield 28, 3) := by decide +kernel
theorem dX12_betterBy_4 : decode cX12_betterBy 4 = .ok (.iconst 1, 1) := by decide +kernel
theorem dX12_betterBy_5 : decode cX12_betterBy 5 = .ok (.iaload, 1) := by decide +kernel
theorem dX12_betterBy_6 : decode cX12_betterBy 6 = .ok (.istore_n 2, 1) := by decide +kernel
theorem dX12_betterBy_7 : decode cX12_betterBy 7 = .ok (.iconst (-1), 1) := by decide +kernel
theorem dX12_betterBy_8 : decode cX12_betterBy 8 = .ok (.istore_n 3, 1) := by decide +kernel
theorem dX12_betterBy_9 : decode cX12_betterBy 9 = .ok (.iconst (-1), 1) := by decide +kernel
theorem dX12_betterBy_10 : decode cX12_betterBy 10 = .ok (.istore 4, 2) := by decide +kernel
theorem dX12_betterBy_12 : decode cX12_betterBy 12 = .ok (.iconst 0, 1) := by decide +kernel
theorem dX12_betterBy_13 : decode cX12_betterBy 13 = .ok (.istore 5, 2) := by decide +kernel
theorem dX12_betterBy_15 : decode cX12_betterBy 15 = .ok (.iload 5, 2) := by decide +kernel
theorem dX12_betterBy_17 : decode cX12_betterBy 17 = .ok (.sipush 1000, 3) := by decide +kernel
theorem dX12_betterBy_20 : decode cX12_betterBy 20 = .ok (.if_icmp .gt 48, 3) := by decide +kernel
theorem dX12_betterBy_23 : decode cX12_betterBy 23 = .ok (.aload_n 0, 1) := by decide +kernel
theorem dX12_betterBy_24 : decode cX12_betterBy 24 = .ok (.getfield 28, 3) := by decide +kernel
theorem dX12_betterBy_27 : decode cX12_betterBy 27 = .ok (.iconst 1, 1) := by decide +kernel
theorem dX12_betterBy_28 : decode cX12_betterBy 28 = .ok (.iload 5, 2) := by decide +kernel
theorem dX12_betterBy_30 : decode cX12_betterBy 30 = .ok (.iastore, 1) := by decide +kernel
theorem dX12_betterBy_31 : decode cX12_betterBy 31 = .ok (.aload_n 0, 1) := by decide +kernel
theorem dX12_betterBy_32 : decode cX12_betterBy 32 = .ok (.invokevirtual 241, 3) := by decide +kernel
theorem dX12_betterBy_35 : decode cX12_betterBy 35 = .ok (.aload_n 0, 1) := by decide +kernel
theorem dX12_betterBy_36 : decode cX12_betterBy 36 = .ok (.getfield 220, 3) := by decide +kernel
theorem dX12_betterBy_39 : decode cX12_betterBy 39 = .ok (.iload 4, 2) := by decide +kernel
theorem dX12_betterBy_41 : decode cX12_betterBy 41 = .ok (.if_icmp .le 8, 3) := by decide +kernel
theorem dX12_betterBy_44 : decode cX12_betterBy 44 = .ok (.iload 5, 2) := by decide +kernel
theorem dX12_betterBy_46 : decode cX12_betterBy 46 = .ok (.goto 4, 3) := by decide +kernel
theorem dX12_betterBy_49 : decode cX12_betterBy 49 = .ok (.iload_n 3, 1) := by decide +kernel
theorem dX12_betterBy_50 : decode cX12_betterBy 50 = .ok (.istore_n 3, 1) := by decide +kernel
theorem dX12_betterBy_51 : decode cX12_betterBy 51 = .ok (.aload_n 0, 1) := by decide +kernel
theorem dX12_betterBy_52 : decode cX12_betterBy 52 = .ok (.getfield 220, 3) := by decide +kernel
theorem dX12_betterBy_55 : decode cX12_betterBy 55 = .ok (.iload 4, 2) := by decide +kernel
theorem dX12_betterBy_57 : decode cX12_betterBy 57 = .ok (.invokestatic 140, 3) := by decide +kernel
theorem dX12_betterBy_60 : decode cX12_betterBy 60 = .ok (.istore 4, 2) := by decide +kernel
theorem dX12_betterBy_62 : decode cX12_betterBy 62 = .ok (.iinc 5 50, 3) := by decide +kernel
theorem dX12_betterBy_65 : decode cX12_betterBy 65 = .ok (.goto (-50), 3) := by decide +kernel
theorem dX12_betterBy_68 : decode cX12_betterBy 68 = .ok (.aload_n 0, 1) := by decide +kernel
theorem dX12_betterBy_69 : decode cX12_betterBy 69 = .ok (.getfield 28, 3) := by decide +kernel
theorem dX12_betterBy_72 : decode cX12_betterBy 72 = .ok (.iconst 1, 1) := by decide +kernel
theorem dX12_betterBy_73 : decode cX12_betterBy 73 = .ok (.iload_n 2, 1) := by decide +kernel
theorem dX12_betterBy_74 : decode cX12_betterBy 74 = .ok (.iastore, 1) := by decide +kernel
theorem dX12_betterBy_75 : decode cX12_betterBy 75 = .ok (.aload_n 0, 1) := by decide +kernel
theorem dX12_betterBy_76 : decode cX12_betterBy 76 = .ok (.invokevirtual 241, 3) := by decide +kernel
theorem dX12_betterBy_79 : decode cX12_betterBy 79 = .ok (.iload_n 1, 1) := by decide +kernel
theorem dX12_betterBy_80 : decode cX12_betterBy 80 = .ok (.ifCond .ne 7, 3) := by decide +kernel
theorem dX12_betterBy_83 : decode cX12_betterBy 83 = .ok (.iload_n 3, 1) := by decide +kernel
theorem dX12_betterBy_84 : decode cX12_betterBy 84 = .ok (.goto 5, 3) := by decide +kernel
theorem dX12_betterBy_87 : decode cX12_betterBy 87 = .ok (.iload 4, 2) := by decide +kernel
theorem dX12_betterBy_89 : decode cX12_betterBy 89 = .ok (.ireturn, 1) := by decide +kernel
theorem dX12_better_0 : decode cX12_better 0 = .ok (.iload_n 1, 1) := by decide +kernel
theorem dX12_better_1 : decode cX12_better 1 = .ok (.invokestatic 108, 3) := by decide +kernel
theorem dX12_better_4 : decode cX12_better 4 = .ok (.ifCond .eq 11, 3) := by decide +kernel
theorem dX12_better_7 : decode cX12_better 7 = .ok (.aload_n 0, 1) := by decide +kernel
theorem dX12_better_8 : decode cX12_better 8 = .ok (.iload_n 1, 1) := by decide +kernel
theorem dX12_better_9 : decode cX12_better 9 = .ok (.invokevirtual 260, 3) := by decide +kernel
theorem dX12_better_12 : decode cX12_better 12 = .ok (.goto 5, 3) := by decide +kernel
theorem dX12_better_15 : decode cX12_better 15 = .ok (.bipush (-2), 2) := by decide +kernel
theorem dX12_better_17 : decode cX12_better 17 = .ok (.ireturn, 1) := by decide +kernel
theorem dX12_spareBy_0 : decode cX12_spareBy 0 = .ok (.iconst (-1), 1) := by decide +kernel
theorem dX12_spareBy_1 : decode cX12_spareBy 1 = .ok (.istore_n 2, 1) := by decide +kernel
theorem dX12_spareBy_2 : decode cX12_spareBy 2 = .ok (.iconst (-1), 1) := by decide +kernel
theorem dX12_spareBy_3 : decode cX12_spareBy 3 = .ok (.istore_n 3, 1) := by decide +kernel
theorem dX12_spareBy_4 : decode cX12_spareBy 4 = .ok (.iconst 0, 1) := by decide +kernel
theorem dX12_spareBy_5 : decode cX12_spareBy 5 = .ok (.istore 4, 2) := by decide +kernel
theorem dX12_spareBy_7 : decode cX12_spareBy 7 = .ok (.iload 4, 2) := by decide +kernel
theorem dX12_spareBy_9 : decode cX12_spareBy 9 = .ok (.aload_n 0, 1) := by decide +kernel
theorem dX12_spareBy_10 : decode cX12_spareBy 10 = .ok (.getfield 25, 3) := by decide +kernel
theorem dX12_spareBy_13 : decode cX12_spareBy 13 = .ok (.iconst 1, 1) := by decide +kernel
theorem dX12_spareBy_14 : decode cX12_spareBy 14 = .ok (.iaload, 1) := by decide +kernel
theorem dX12_spareBy_15 : decode cX12_spareBy 15 = .ok (.if_icmp .ge 43, 3) := by decide +kernel
theorem dX12_spareBy_18 : decode cX12_spareBy 18 = .ok (.aload_n 0, 1) := by decide +kernel
theorem dX12_spareBy_19 : decode cX12_spareBy 19 = .ok (.iload 4, 2) := by decide +kernel
theorem dX12_spareBy_21 : decode cX12_spareBy 21 = .ok (.putfield 31, 3) := by decide +kernel
theorem dX12_spareBy_24 : decode cX12_spareBy 24 = .ok (.aload_n 0, 1) := by decide +kernel
theorem dX12_spareBy_25 : decode cX12_spareBy 25 = .ok (.invokevirtual 241, 3) := by decide +kernel
theorem dX12_spareBy_28 : decode cX12_spareBy 28 = .ok (.aload_n 0, 1) := by decide +kernel
theorem dX12_spareBy_29 : decode cX12_spareBy 29 = .ok (.getfield 220, 3) := by decide +kernel
theorem dX12_spareBy_32 : decode cX12_spareBy 32 = .ok (.iload_n 3, 1) := by decide +kernel
theorem dX12_spareBy_33 : decode cX12_spareBy 33 = .ok (.if_icmp .le 8, 3) := by decide +kernel
theorem dX12_spareBy_36 : decode cX12_spareBy 36 = .ok (.iload 4, 2) := by decide +kernel
theorem dX12_spareBy_38 : decode cX12_spareBy 38 = .ok (.goto 4, 3) := by decide +kernel
theorem dX12_spareBy_41 : decode cX12_spareBy 41 = .ok (.iload_n 2, 1) := by decide +kernel
theorem dX12_spareBy_42 : decode cX12_spareBy 42 = .ok (.istore_n 2, 1) := by decide +kernel
theorem dX12_spareBy_43 : decode cX12_spareBy 43 = .ok (.aload_n 0, 1) := by decide +kernel
theorem dX12_spareBy_44 : decode cX12_spareBy 44 = .ok (.getfield 220, 3) := by decide +kernel
theorem dX12_spareBy_47 : decode cX12_spareBy 47 = .ok (.iload_n 3, 1) := by decide +kernel
theorem dX12_spareBy_48 : decode cX12_spareBy 48 = .ok (.invokestatic 140, 3) := by decide +kernel
theorem dX12_spareBy_51 : decode cX12_spareBy 51 = .ok (.istore_n 3, 1) := by decide +kernel
theorem dX12_spareBy_52 : decode cX12_spareBy 52 = .ok (.iinc 4 1, 3) := by decide +kernel
theorem dX12_spareBy_55 : decode cX12_spareBy 55 = .ok (.goto (-48), 3) := by decide +kernel
theorem dX12_spareBy_58 : decode cX12_spareBy 58 = .ok (.aload_n 0, 1) := by decide +kernel
theorem dX12_spareBy_59 : decode cX12_spareBy 59 = .ok (.iconst (-1), 1) := by decide +kernel
theorem dX12_spareBy_60 : decode cX12_spareBy 60 = .ok (.putfield 31, 3) := by decide +kernel
theorem dX12_spareBy_63 : decode cX12_spareBy 63 = .ok (.aload_n 0, 1) := by decide +kernel
theorem dX12_spareBy_64 : decode cX12_spareBy 64 = .ok (.invokevirtual 241, 3) := by decide +kernel
theorem dX12_spareBy_67 : decode cX12_spareBy 67 = .ok (.iload_n 1, 1) := by decide +kernel
theorem dX12_spareBy_68 : decode cX12_spareBy 68 = .ok (.ifCond .ne 7, 3) := by decide +kernel
theorem dX12_spareBy_71 : decode cX12_spareBy 71 = .ok (.iload_n 2, 1) := by decide +kernel
theorem dX12_spareBy_72 : decode cX12_spareBy 72 = .ok (.goto 4, 3) := by decide +kernel
theorem dX12_spareBy_75 : decode cX12_spareBy 75 = .ok (.iload_n 3, 1) := by decide +kernel
theorem dX12_spareBy_76 : decode cX12_spareBy 76 = .ok (.ireturn, 1) := by decide +kernel
theorem dX12_spare_0 : decode cX12_spare 0 = .ok (.iload_n 1, 1) := by decide +kernel
theorem dX12_spare_1 : decode cX12_spare 1 = .ok (.invokestatic 108, 3) := by decide +kernel
theorem dX12_spare_4 : decode cX12_spare 4 = .ok (.ifCond .eq 11, 3) := by decide +kernel
theorem dX12_spare_7 : decode cX12_spare 7 = .ok (.aload_n 0, 1) := by decide +kernel
theorem dX12_spare_8 : decode cX12_spare 8 = .ok (.iload_n 1, 1) := by decide +kernel
theorem dX12_spare_9 : decode cX12_spare 9 = .ok (.invokevirtual 263, 3) := by decide +kernel
theorem dX12_spare_12 : decode cX12_spare 12 = .ok (.goto 5, 3) := by decide +kernel
theorem dX12_spare_15 : decode cX12_spare 15 = .ok (.bipush (-2), 2) := by decide +kernel
theorem dX12_spare_17 : decode cX12_spare 17 = .ok (.ireturn, 1) := by decide +kernel
theorem dX12_isTray_0 : decode cX12_isTray 0 = .ok (.iload_n 0, 1) := by decide +kernel
theorem dX12_isTray_1 : decode cX12_isTray 1 = .ok (.i2l, 1) := by decide +kernel
theorem dX12_isTray_2 : decode cX12_isTray 2 = .ok (.lconst 0, 1) := by decide +kernel
theorem dX12_isTray_3 : decode cX12_isTray 3 = .ok (.ldc2_w 83, 3) := by decide +kernel
theorem dX12_isTray_6 : decode cX12_isTray 6 = .ok (.invokestatic 76, 3) := by decide +kernel
theorem dX12_isTray_9 : decode cX12_isTray 9 = .ok (.ireturn, 1) := by decide +kernel
theorem dX12_put_0 : decode cX12_put 0 = .ok (.iload_n 1, 1) := by decide +kernel
theorem dX12_put_1 : decode cX12_put 1 = .ok (.invokestatic 266, 3) := by decide +kernel
theorem dX12_put_4 : decode cX12_put 4 = .ok (.ifCond .eq 12, 3) := by decide +kernel
theorem dX12_put_7 : decode cX12_put 7 = .ok (.aload_n 0, 1) := by decide +kernel
theorem dX12_put_8 : decode cX12_put 8 = .ok (.iload_n 2, 1) := by decide +kernel
theorem dX12_put_9 : decode cX12_put 9 = .ok (.iload_n 3, 1) := by decide +kernel
theorem dX12_put_10 : decode cX12_put 10 = .ok (.invokevirtual 122, 3) := by decide +kernel
theorem dX12_put_13 : decode cX12_put 13 = .ok (.ifCond .ne 6, 3) := by decide +kernel
theorem dX12_put_16 : decode cX12_put 16 = .ok (.bipush (-2), 2) := by decide +kernel
theorem dX12_put_18 : decode cX12_put 18 = .ok (.ireturn, 1) := by decide +kernel
theorem dX12_put_19 : decode cX12_put 19 = .ok (.aload_n 0, 1) := by decide +kernel
theorem dX12_put_20 : decode cX12_put 20 = .ok (.getfield 70, 3) := by decide +kernel
theorem dX12_put_23 : decode cX12_put 23 = .ok (.iload_n 1, 1) := by decide +kernel
theorem dX12_put_24 : decode cX12_put 24 = .ok (.iaload, 1) := by decide +kernel
theorem dX12_put_25 : decode cX12_put 25 = .ok (.bipush 8, 2) := by decide +kernel
theorem dX12_put_27 : decode cX12_put 27 = .ok (.if_icmp .ne 6, 3) := by decide +kernel
theorem dX12_put_30 : decode cX12_put 30 = .ok (.bipush (-4), 2) := by decide +kernel
theorem dX12_put_32 : decode cX12_put 32 = .ok (.ireturn, 1) := by decide +kernel
theorem dX12_put_33 : decode cX12_put 33 = .ok (.aload_n 0, 1) := by decide +kernel
theorem dX12_put_34 : decode cX12_put 34 = .ok (.getfield 73, 3) := by decide +kernel
theorem dX12_put_37 : decode cX12_put 37 = .ok (.iload_n 1, 1) := by decide +kernel
theorem dX12_put_38 : decode cX12_put 38 = .ok (.iaload, 1) := by decide +kernel
theorem dX12_put_39 : decode cX12_put 39 = .ok (.iconst 2, 1) := by decide +kernel
theorem dX12_put_40 : decode cX12_put 40 = .ok (.if_icmp .ge 19, 3) := by decide +kernel
theorem dX12_put_43 : decode cX12_put 43 = .ok (.aload_n 0, 1) := by decide +kernel
theorem dX12_put_44 : decode cX12_put 44 = .ok (.getfield 73, 3) := by decide +kernel
theorem dX12_put_47 : decode cX12_put 47 = .ok (.iload_n 1, 1) := by decide +kernel
theorem dX12_put_48 : decode cX12_put 48 = .ok (.iaload, 1) := by decide +kernel
theorem dX12_put_49 : decode cX12_put 49 = .ok (.iload_n 2, 1) := by decide +kernel
theorem dX12_put_50 : decode cX12_put 50 = .ok (.if_icmp .eq 9, 3) := by decide +kernel
theorem dX12_put_53 : decode cX12_put 53 = .ok (.aload_n 0, 1) := by decide +kernel
theorem dX12_put_54 : decode cX12_put 54 = .ok (.iconst 4, 1) := by decide +kernel
theorem dX12_put_55 : decode cX12_put 55 = .ok (.invokevirtual 91, 3) := by decide +kernel
theorem dX12_put_58 : decode cX12_put 58 = .ok (.ireturn, 1) := by decide +kernel
theorem dX12_put_59 : decode cX12_put 59 = .ok (.bipush 32, 2) := by decide +kernel
theorem dX12_put_61 : decode cX12_put 61 = .ok (.iload_n 1, 1) := by decide +kernel
theorem dX12_put_62 : decode cX12_put 62 = .ok (.imul, 1) := by decide +kernel
theorem dX12_put_63 : decode cX12_put 63 = .ok (.iconst 4, 1) := by decide +kernel
theorem dX12_put_64 : decode cX12_put 64 = .ok (.aload_n 0, 1) := by decide +kernel
theorem dX12_put_65 : decode cX12_put 65 = .ok (.getfield 70, 3) := by decide +kernel
theorem dX12_put_68 : decode cX12_put 68 = .ok (.iload_n 1, 1) := by decide +kernel
theorem dX12_put_69 : decode cX12_put 69 = .ok (.iaload, 1) := by decide +kernel
theorem dX12_put_70 : decode cX12_put 70 = .ok (.imul, 1) := by decide +kernel
theorem dX12_put_71 : decode cX12_put 71 = .ok (.iadd, 1) := by decide +kernel
theorem dX12_put_72 : decode cX12_put 72 = .ok (.istore 4, 2) := by decide +kernel
theorem dX12_put_74 : decode cX12_put 74 = .ok (.aload_n 0, 1) := by decide +kernel
theorem dX12_put_75 : decode cX12_put 75 = .ok (.getfield 67, 3) := by decide +kernel
theorem dX12_put_78 : decode cX12_put 78 = .ok (.iload 4, 2) := by decide +kernel
theorem dX12_put_80 : decode cX12_put 80 = .ok (.iload_n 2, 1) := by decide +kernel
theorem dX12_put_81 : decode cX12_put 81 = .ok (.iastore, 1) := by decide +kernel
theorem dX12_put_82 : decode cX12_put 82 = .ok (.iconst 0, 1) := by decide +kernel
theorem dX12_put_83 : decode cX12_put 83 = .ok (.istore 5, 2) := by decide +kernel
theorem dX12_put_85 : decode cX12_put 85 = .ok (.iload 5, 2) := by decide +kernel
theorem dX12_put_87 : decode cX12_put 87 = .ok (.iconst 3, 1) := by decide +kernel
theorem dX12_put_88 : decode cX12_put 88 = .ok (.if_icmp .ge 29, 3) := by decide +kernel
theorem dX12_put_91 : decode cX12_put 91 = .ok (.aload_n 0, 1) := by decide +kernel
theorem dX12_put_92 : decode cX12_put 92 = .ok (.getfield 67, 3) := by decide +kernel
theorem dX12_put_95 : decode cX12_put 95 = .ok (.iload 4, 2) := by decide +kernel
theorem dX12_put_97 : decode cX12_put 97 = .ok (.iconst 1, 1) := by decide +kernel
theorem dX12_put_98 : decode cX12_put 98 = .ok (.iadd, 1) := by decide +kernel
theorem dX12_put_99 : decode cX12_put 99 = .ok (.iload 5, 2) := by decide +kernel
theorem dX12_put_101 : decode cX12_put 101 = .ok (.iadd, 1) := by decide +kernel
theorem dX12_put_102 : decode cX12_put 102 = .ok (.aload_n 0, 1) := by decide +kernel
theorem dX12_put_103 : decode cX12_put 103 = .ok (.iload_n 2, 1) := by decide +kernel
theorem dX12_put_104 : decode cX12_put 104 = .ok (.iload_n 3, 1) := by decide +kernel
theorem dX12_put_105 : decode cX12_put 105 = .ok (.iload 5, 2) := by decide +kernel
theorem dX12_put_107 : decode cX12_put 107 = .ok (.invokevirtual 126, 3) := by decide +kernel
theorem dX12_put_110 : decode cX12_put 110 = .ok (.iastore, 1) := by decide +kernel
theorem dX12_put_111 : decode cX12_put 111 = .ok (.iinc 5 1, 3) := by decide +kernel
theorem dX12_put_114 : decode cX12_put 114 = .ok (.goto (-29), 3) := by decide +kernel
theorem dX12_put_117 : decode cX12_put 117 = .ok (.aload_n 0, 1) := by decide +kernel
theorem dX12_put_118 : decode cX12_put 118 = .ok (.getfield 70, 3) := by decide +kernel
theorem dX12_put_121 : decode cX12_put 121 = .ok (.iload_n 1, 1) := by decide +kernel
theorem dX12_put_122 : decode cX12_put 122 = .ok (.dup2, 1) := by decide +kernel
theorem dX12_put_123 : decode cX12_put 123 = .ok (.iaload, 1) := by decide +kernel
theorem dX12_put_124 : decode cX12_put 124 = .ok (.iconst 1, 1) := by decide +kernel
theorem dX12_put_125 : decode cX12_put 125 = .ok (.iadd, 1) := by decide +kernel
theorem dX12_put_126 : decode cX12_put 126 = .ok (.iastore, 1) := by decide +kernel
theorem dX12_put_127 : decode cX12_put 127 = .ok (.aload_n 0, 1) := by decide +kernel
theorem dX12_put_128 : decode cX12_put 128 = .ok (.getfield 70, 3) := by decide +kernel
theorem dX12_put_131 : decode cX12_put 131 = .ok (.iload_n 1, 1) := by decide +kernel
theorem dX12_put_132 : decode cX12_put 132 = .ok (.iaload, 1) := by decide +kernel
theorem dX12_put_133 : decode cX12_put 133 = .ok (.ireturn, 1) := by decide +kernel
theorem dX12_fork_0 : decode cX12_fork 0 = .ok (.iload_n 1, 1) := by decide +kernel
theorem dX12_fork_1 : decode cX12_fork 1 = .ok (.invokestatic 266, 3) := by decide +kernel
theorem dX12_fork_4 : decode cX12_fork 4 = .ok (.ifCond .eq 10, 3) := by decide +kernel
theorem dX12_fork_7 : decode cX12_fork 7 = .ok (.iload_n 2, 1) := by decide +kernel
theorem dX12_fork_8 : decode cX12_fork 8 = .ok (.invokestatic 266, 3) := by decide +kernel
theorem dX12_fork_11 : decode cX12_fork 11 = .ok (.ifCond .ne 6, 3) := by decide +kernel
theorem dX12_fork_14 : decode cX12_fork 14 = .ok (.bipush (-2), 2) := by decide +kernel
theorem dX12_fork_16 : decode cX12_fork 16 = .ok (.ireturn, 1) := by decide +kernel
theorem dX12_fork_17 : decode cX12_fork 17 = .ok (.iconst 0, 1) := by decide +kernel
theorem dX12_fork_18 : decode cX12_fork 18 = .ok (.istore_n 3, 1) := by decide +kernel
theorem dX12_fork_19 : decode cX12_fork 19 = .ok (.iload_n 3, 1) := by decide +kernel
theorem dX12_fork_20 : decode cX12_fork 20 = .ok (.bipush 32, 2) := by decide +kernel
theorem dX12_fork_22 : decode cX12_fork 22 = .ok (.if_icmp .ge 31, 3) := by decide +kernel
theorem dX12_fork_25 : decode cX12_fork 25 = .ok (.aload_n 0, 1) := by decide +kernel
theorem dX12_fork_26 : decode cX12_fork 26 = .ok (.getfield 67, 3) := by decide +kernel
theorem dX12_fork_29 : decode cX12_fork 29 = .ok (.bipush 32, 2) := by decide +kernel
theorem dX12_fork_31 : decode cX12_fork 31 = .ok (.iload_n 2, 1) := by decide +kernel
theorem dX12_fork_32 : decode cX12_fork 32 = .ok (.imul, 1) := by decide +kernel
theorem dX12_fork_33 : decode cX12_fork 33 = .ok (.iload_n 3, 1) := by decide +kernel
theorem dX12_fork_34 : decode cX12_fork 34 = .ok (.iadd, 1) := by decide +kernel
theorem dX12_fork_35 : decode cX12_fork 35 = .ok (.aload_n 0, 1) := by decide +kernel
theorem dX12_fork_36 : decode cX12_fork 36 = .ok (.getfield 67, 3) := by decide +kernel
theorem dX12_fork_39 : decode cX12_fork 39 = .ok (.bipush 32, 2) := by decide +kernel
theorem dX12_fork_41 : decode cX12_fork 41 = .ok (.iload_n 1, 1) := by decide +kernel
theorem dX12_fork_42 : decode cX12_fork 42 = .ok (.imul, 1) := by decide +kernel
theorem dX12_fork_43 : decode cX12_fork 43 = .ok (.iload_n 3, 1) := by decide +kernel
theorem dX12_fork_44 : decode cX12_fork 44 = .ok (.iadd, 1) := by decide +kernel
theorem dX12_fork_45 : decode cX12_fork 45 = .ok (.iaload, 1) := by decide +kernel
theorem dX12_fork_46 : decode cX12_fork 46 = .ok (.iastore, 1) := by decide +kernel
theorem dX12_fork_47 : decode cX12_fork 47 = .ok (.iinc 3 1, 3) := by decide +kernel
theorem dX12_fork_50 : decode cX12_fork 50 = .ok (.goto (-31), 3) := by decide +kernel
theorem dX12_fork_53 : decode cX12_fork 53 = .ok (.aload_n 0, 1) := by decide +kernel
theorem dX12_fork_54 : decode cX12_fork 54 = .ok (.getfield 70, 3) := by decide +kernel
theorem dX12_fork_57 : decode cX12_fork 57 = .ok (.iload_n 2, 1) := by decide +kernel
theorem dX12_fork_58 : decode cX12_fork 58 = .ok (.aload_n 0, 1) := by decide +kernel
theorem dX12_fork_59 : decode cX12_fork 59 = .ok (.getfield 70, 3) := by decide +kernel
theorem dX12_fork_62 : decode cX12_fork 62 = .ok (.iload_n 1, 1) := by decide +kernel
theorem dX12_fork_63 : decode cX12_fork 63 = .ok (.iaload, 1) := by decide +kernel
theorem dX12_fork_64 : decode cX12_fork 64 = .ok (.iastore, 1) := by decide +kernel
theorem dX12_fork_65 : decode cX12_fork 65 = .ok (.aload_n 0, 1) := by decide +kernel
theorem dX12_fork_66 : decode cX12_fork 66 = .ok (.getfield 73, 3) := by decide +kernel
theorem dX12_fork_69 : decode cX12_fork 69 = .ok (.iload_n 2, 1) := by decide +kernel
theorem dX12_fork_70 : decode cX12_fork 70 = .ok (.aload_n 0, 1) := by decide +kernel
theorem dX12_fork_71 : decode cX12_fork 71 = .ok (.getfield 73, 3) := by decide +kernel
theorem dX12_fork_74 : decode cX12_fork 74 = .ok (.iload_n 1, 1) := by decide +kernel
theorem dX12_fork_75 : decode cX12_fork 75 = .ok (.iaload, 1) := by decide +kernel
theorem dX12_fork_76 : decode cX12_fork 76 = .ok (.iastore, 1) := by decide +kernel
theorem dX12_fork_77 : decode cX12_fork 77 = .ok (.aload_n 0, 1) := by decide +kernel
theorem dX12_fork_78 : decode cX12_fork 78 = .ok (.getfield 70, 3) := by decide +kernel
theorem dX12_fork_81 : decode cX12_fork 81 = .ok (.iload_n 2, 1) := by decide +kernel
theorem dX12_fork_82 : decode cX12_fork 82 = .ok (.iaload, 1) := by decide +kernel
theorem dX12_fork_83 : decode cX12_fork 83 = .ok (.ireturn, 1) := by decide +kernel
theorem dX12_take_0 : decode cX12_take 0 = .ok (.iload_n 1, 1) := by decide +kernel
theorem dX12_take_1 : decode cX12_take 1 = .ok (.invokestatic 266, 3) := by decide +kernel
theorem dX12_take_4 : decode cX12_take 4 = .ok (.ifCond .ne 6, 3) := by decide +kernel
theorem dX12_take_7 : decode cX12_take 7 = .ok (.bipush (-2), 2) := by decide +kernel
theorem dX12_take_9 : decode cX12_take 9 = .ok (.ireturn, 1) := by decide +kernel
theorem dX12_take_10 : decode cX12_take 10 = .ok (.aload_n 0, 1) := by decide +kernel
theorem dX12_take_11 : decode cX12_take 11 = .ok (.getfield 70, 3) := by decide +kernel
theorem dX12_take_14 : decode cX12_take 14 = .ok (.iload_n 1, 1) := by decide +kernel
theorem dX12_take_15 : decode cX12_take 15 = .ok (.iaload, 1) := by decide +kernel
theorem dX12_take_16 : decode cX12_take 16 = .ok (.ifCond .ne 6, 3) := by decide +kernel
theorem dX12_take_19 : decode cX12_take 19 = .ok (.bipush (-3), 2) := by decide +kernel
theorem dX12_take_21 : decode cX12_take 21 = .ok (.ireturn, 1) := by decide +kernel
theorem dX12_take_22 : decode cX12_take 22 = .ok (.aload_n 0, 1) := by decide +kernel
theorem dX12_take_23 : decode cX12_take 23 = .ok (.getfield 70, 3) := by decide +kernel
theorem dX12_take_26 : decode cX12_take 26 = .ok (.iload_n 1, 1) := by decide +kernel
theorem dX12_take_27 : decode cX12_take 27 = .ok (.dup2, 1) := by decide +kernel
theorem dX12_take_28 : decode cX12_take 28 = .ok (.iaload, 1) := by decide +kernel
theorem dX12_take_29 : decode cX12_take 29 = .ok (.iconst 1, 1) := by decide +kernel
theorem dX12_take_30 : decode cX12_take 30 = .ok (.isub, 1) := by decide +kernel
theorem dX12_take_31 : decode cX12_take 31 = .ok (.iastore, 1) := by decide +kernel
theorem dX12_take_32 : decode cX12_take 32 = .ok (.aload_n 0, 1) := by decide +kernel
theorem dX12_take_33 : decode cX12_take 33 = .ok (.getfield 70, 3) := by decide +kernel
theorem dX12_take_36 : decode cX12_take 36 = .ok (.iload_n 1, 1) := by decide +kernel
theorem dX12_take_37 : decode cX12_take 37 = .ok (.iaload, 1) := by decide +kernel
theorem dX12_take_38 : decode cX12_take 38 = .ok (.ireturn, 1) := by decide +kernel
theorem dX12_isThing_0 : decode cX12_isThing 0 = .ok (.iload_n 1, 1) := by decide +kernel
theorem dX12_isThing_1 : decode cX12_isThing 1 = .ok (.invokestatic 266, 3) := by decide +kernel
theorem dX12_isThing_4 : decode cX12_isThing 4 = .ok (.ifCond .eq 25, 3) := by decide +kernel
theorem dX12_isThing_7 : decode cX12_isThing 7 = .ok (.iload_n 2, 1) := by decide +kernel
theorem dX12_isThing_8 : decode cX12_isThing 8 = .ok (.i2l, 1) := by decide +kernel
theorem dX12_isThing_9 : decode cX12_isThing 9 = .ok (.lconst 0, 1) := by decide +kernel
theorem dX12_isThing_10 : decode cX12_isThing 10 = .ok (.aload_n 0, 1) := by decide +kernel
theorem dX12_isThing_11 : decode cX12_isThing 11 = .ok (.getfield 70, 3) := by decide +kernel
theorem dX12_isThing_14 : decode cX12_isThing 14 = .ok (.iload_n 1, 1) := by decide +kernel
theorem dX12_isThing_15 : decode cX12_isThing 15 = .ok (.iaload, 1) := by decide +kernel
theorem dX12_isThing_16 : decode cX12_isThing 16 = .ok (.iconst 1, 1) := by decide +kernel
theorem dX12_isThing_17 : decode cX12_isThing 17 = .ok (.isub, 1) := by decide +kernel
theorem dX12_isThing_18 : decode cX12_isThing 18 = .ok (.i2l, 1) := by decide +kernel
theorem dX12_isThing_19 : decode cX12_isThing 19 = .ok (.invokestatic 76, 3) := by decide +kernel
theorem dX12_isThing_22 : decode cX12_isThing 22 = .ok (.ifCond .eq 7, 3) := by decide +kernel
theorem dX12_isThing_25 : decode cX12_isThing 25 = .ok (.iconst 1, 1) := by decide +kernel
theorem dX12_isThing_26 : decode cX12_isThing 26 = .ok (.goto 4, 3) := by decide +kernel
theorem dX12_isThing_29 : decode cX12_isThing 29 = .ok (.iconst 0, 1) := by decide +kernel
theorem dX12_isThing_30 : decode cX12_isThing 30 = .ok (.ireturn, 1) := by decide +kernel
theorem dX12_thing_0 : decode cX12_thing 0 = .ok (.aload_n 0, 1) := by decide +kernel
theorem dX12_thing_1 : decode cX12_thing 1 = .ok (.iload_n 1, 1) := by decide +kernel
theorem dX12_thing_2 : decode cX12_thing 2 = .ok (.iload_n 2, 1) := by decide +kernel
theorem dX12_thing_3 : decode cX12_thing 3 = .ok (.invokevirtual 269, 3) := by decide +kernel
theorem dX12_thing_6 : decode cX12_thing 6 = .ok (.ifCond .eq 33, 3) := by decide +kernel
theorem dX12_thing_9 : decode cX12_thing 9 = .ok (.iload_n 3, 1) := by decide +kernel
theorem dX12_thing_10 : decode cX12_thing 10 = .ok (.i2l, 1) := by decide +kernel
theorem dX12_thing_11 : decode cX12_thing 11 = .ok (.lconst 0, 1) := by decide +kernel
theorem dX12_thing_12 : decode cX12_thing 12 = .ok (.ldc2_w 83, 3) := by decide +kernel
theorem dX12_thing_15 : decode cX12_thing 15 = .ok (.invokestatic 76, 3) := by decide +kernel
theorem dX12_thing_18 : decode cX12_thing 18 = .ok (.ifCond .eq 21, 3) := by decide +kernel
theorem dX12_thing_21 : decode cX12_thing 21 = .ok (.aload_n 0, 1) := by decide +kernel
theorem dX12_thing_22 : decode cX12_thing 22 = .ok (.getfield 67, 3) := by decide +kernel
theorem dX12_thing_25 : decode cX12_thing 25 = .ok (.bipush 32, 2) := by decide +kernel
theorem dX12_thing_27 : decode cX12_thing 27 = .ok (.iload_n 1, 1) := by decide +kernel
theorem dX12_thing_28 : decode cX12_thing 28 = .ok (.imul, 1) := by decide +kernel
theorem dX12_thing_29 : decode cX12_thing 29 = .ok (.iconst 4, 1) := by decide +kernel
theorem dX12_thing_30 : decode cX12_thing 30 = .ok (.iload_n 2, 1) := by decide +kernel
theorem dX12_thing_31 : decode cX12_thing 31 = .ok (.imul, 1) := by decide +kernel
theorem dX12_thing_32 : decode cX12_thing 32 = .ok (.iadd, 1) := by decide +kernel
theorem dX12_thing_33 : decode cX12_thing 33 = .ok (.iload_n 3, 1) := by decide +kernel
theorem dX12_thing_34 : decode cX12_thing 34 = .ok (.iadd, 1) := by decide +kernel
theorem dX12_thing_35 : decode cX12_thing 35 = .ok (.iaload, 1) := by decide +kernel
theorem dX12_thing_36 : decode cX12_thing 36 = .ok (.goto 5, 3) := by decide +kernel
theorem dX12_thing_39 : decode cX12_thing 39 = .ok (.ldc 103, 2) := by decide +kernel
theorem dX12_thing_41 : decode cX12_thing 41 = .ok (.ireturn, 1) := by decide +kernel
theorem dX12_product_0 : decode cX12_product 0 = .ok (.iconst 0, 1) := by decide +kernel
theorem dX12_product_1 : decode cX12_product 1 = .ok (.istore 4, 2) := by decide +kernel
theorem dX12_product_3 : decode cX12_product 3 = .ok (.iconst 1, 1) := by decide +kernel
theorem dX12_product_4 : decode cX12_product 4 = .ok (.istore 5, 2) := by decide +kernel
theorem dX12_product_6 : decode cX12_product 6 = .ok (.iload 5, 2) := by decide +kernel
theorem dX12_product_8 : decode cX12_product 8 = .ok (.iconst 4, 1) := by decide +kernel
theorem dX12_product_9 : decode cX12_product 9 = .ok (.if_icmp .ge 47, 3) := by decide +kernel
theorem dX12_product_12 : decode cX12_product 12 = .ok (.iload 4, 2) := by decide +kernel
theorem dX12_product_14 : decode cX12_product 14 = .ok (.aload_n 0, 1) := by decide +kernel
theorem dX12_product_15 : decode cX12_product 15 = .ok (.getfield 67, 3) := by decide +kernel
theorem dX12_product_18 : decode cX12_product 18 = .ok (.bipush 32, 2) := by decide +kernel
theorem dX12_product_20 : decode cX12_product 20 = .ok (.iload_n 1, 1) := by decide +kernel
theorem dX12_product_21 : decode cX12_product 21 = .ok (.imul, 1) := by decide +kernel
theorem dX12_product_22 : decode cX12_product 22 = .ok (.iconst 4, 1) := by decide +kernel
theorem dX12_product_23 : decode cX12_product 23 = .ok (.iload_n 2, 1) := by decide +kernel
theorem dX12_product_24 : decode cX12_product 24 = .ok (.imul, 1) := by decide +kernel
theorem dX12_product_25 : decode cX12_product 25 = .ok (.iadd, 1) := by decide +kernel
theorem dX12_product_26 : decode cX12_product 26 = .ok (.iload 5, 2) := by decide +kernel
theorem dX12_product_28 : decode cX12_product 28 = .ok (.iadd, 1) := by decide +kernel
theorem dX12_product_29 : decode cX12_product 29 = .ok (.iaload, 1) := by decide +kernel
theorem dX12_product_30 : decode cX12_product 30 = .ok (.aload_n 0, 1) := by decide +kernel
theorem dX12_product_31 : decode cX12_product 31 = .ok (.getfield 67, 3) := by decide +kernel
theorem dX12_product_34 : decode cX12_product 34 = .ok (.bipush 32, 2) := by decide +kernel
theorem dX12_product_36 : decode cX12_product 36 = .ok (.iload_n 1, 1) := by decide +kernel
theorem dX12_product_37 : decode cX12_product 37 = .ok (.imul, 1) := by decide +kernel
theorem dX12_product_38 : decode cX12_product 38 = .ok (.iconst 4, 1) := by decide +kernel
theorem dX12_product_39 : decode cX12_product 39 = .ok (.iload_n 3, 1) := by decide +kernel
theorem dX12_product_40 : decode cX12_product 40 = .ok (.imul, 1) := by decide +kernel
theorem dX12_product_41 : decode cX12_product 41 = .ok (.iadd, 1) := by decide +kernel
theorem dX12_product_42 : decode cX12_product 42 = .ok (.iload 5, 2) := by decide +kernel
theorem dX12_product_44 : decode cX12_product 44 = .ok (.iadd, 1) := by decide +kernel
theorem dX12_product_45 : decode cX12_product 45 = .ok (.iaload, 1) := by decide +kernel
theorem dX12_product_46 : decode cX12_product 46 = .ok (.imul, 1) := by decide +kernel
theorem dX12_product_47 : decode cX12_product 47 = .ok (.iadd, 1) := by decide +kernel
theorem dX12_product_48 : decode cX12_product 48 = .ok (.istore 4, 2) := by decide +kernel
theorem dX12_product_50 : decode cX12_product 50 = .ok (.iinc 5 1, 3) := by decide +kernel
theorem dX12_product_53 : decode cX12_product 53 = .ok (.goto (-47), 3) := by decide +kernel
theorem dX12_product_56 : decode cX12_product 56 = .ok (.iload 4, 2) := by decide +kernel
theorem dX12_product_58 : decode cX12_product 58 = .ok (.ireturn, 1) := by decide +kernel
theorem dX12_quotient_0 : decode cX12_quotient 0 = .ok (.iload_n 0, 1) := by decide +kernel
theorem dX12_quotient_1 : decode cX12_quotient 1 = .ok (.ifCond .ne 5, 3) := by decide +kernel
theorem dX12_quotient_4 : decode cX12_quotient 4 = .ok (.iconst 0, 1) := by decide +kernel
theorem dX12_quotient_5 : decode cX12_quotient 5 = .ok (.ireturn, 1) := by decide +kernel
theorem dX12_quotient_6 : decode cX12_quotient 6 = .ok (.iload_n 0, 1) := by decide +kernel
theorem dX12_quotient_7 : decode cX12_quotient 7 = .ok (.ifCond .ge 9, 3) := by decide +kernel
theorem dX12_quotient_10 : decode cX12_quotient 10 = .ok (.iload_n 0, 1) := by decide +kernel
theorem dX12_quotient_11 : decode cX12_quotient 11 = .ok (.ineg, 1) := by decide +kernel
theorem dX12_quotient_12 : decode cX12_quotient 12 = .ok (.i2l, 1) := by decide +kernel
theorem dX12_quotient_13 : decode cX12_quotient 13 = .ok (.goto 5, 3) := by decide +kernel
theorem dX12_quotient_16 : decode cX12_quotient 16 = .ok (.iload_n 0, 1) := by decide +kernel
theorem dX12_quotient_17 : decode cX12_quotient 17 = .ok (.i2l, 1) := by decide +kernel
theorem dX12_quotient_18 : decode cX12_quotient 18 = .ok (.lstore_n 2, 1) := by decide +kernel
theorem dX12_quotient_19 : decode cX12_quotient 19 = .ok (.iload_n 1, 1) := by decide +kernel
theorem dX12_quotient_20 : decode cX12_quotient 20 = .ok (.i2l, 1) := by decide +kernel
theorem dX12_quotient_21 : decode cX12_quotient 21 = .ok (.lstore 4, 2) := by decide +kernel
theorem dX12_quotient_23 : decode cX12_quotient 23 = .ok (.bipush 23, 2) := by decide +kernel
theorem dX12_quotient_25 : decode cX12_quotient 25 = .ok (.istore 6, 2) := by decide +kernel
theorem dX12_quotient_27 : decode cX12_quotient 27 = .ok (.lload_n 2, 1) := by decide +kernel
theorem dX12_quotient_28 : decode cX12_quotient 28 = .ok (.bipush 23, 2) := by decide +kernel
theorem dX12_quotient_30 : decode cX12_quotient 30 = .ok (.lshl, 1) := by decide +kernel
theorem dX12_quotient_31 : decode cX12_quotient 31 = .ok (.lstore_n 2, 1) := by decide +kernel
theorem dX12_quotient_32 : decode cX12_quotient 32 = .ok (.lload_n 2, 1) := by decide +kernel
theorem dX12_quotient_33 : decode cX12_quotient 33 = .ok (.lload 4, 2) := by decide +kernel
theorem dX12_quotient_35 : decode cX12_quotient 35 = .ok (.ldiv, 1) := by decide +kernel
theorem dX12_quotient_36 : decode cX12_quotient 36 = .ok (.ldc2_w 272, 3) := by decide +kernel
theorem dX12_quotient_39 : decode cX12_quotient 39 = .ok (.lcmp, 1) := by decide +kernel
theorem dX12_quotient_40 : decode cX12_quotient 40 = .ok (.ifCond .ge 13, 3) := by decide +kernel
theorem dX12_quotient_43 : decode cX12_quotient 43 = .ok (.lload_n 2, 1) := by decide +kernel
theorem dX12_quotient_44 : decode cX12_quotient 44 = .ok (.iconst 1, 1) := by decide +kernel
theorem dX12_quotient_45 : decode cX12_quotient 45 = .ok (.lshl, 1) := by decide +kernel
theorem dX12_quotient_46 : decode cX12_quotient 46 = .ok (.lstore_n 2, 1) := by decide +kernel
theorem dX12_quotient_47 : decode cX12_quotient 47 = .ok (.iinc 6 1, 3) := by decide +kernel
theorem dX12_quotient_50 : decode cX12_quotient 50 = .ok (.goto (-18), 3) := by decide +kernel
theorem dX12_quotient_53 : decode cX12_quotient 53 = .ok (.lload_n 2, 1) := by decide +kernel
theorem dX12_quotient_54 : decode cX12_quotient 54 = .ok (.lload 4, 2) := by decide +kernel
theorem dX12_quotient_56 : decode cX12_quotient 56 = .ok (.ldiv, 1) := by decide +kernel
theorem dX12_quotient_57 : decode cX12_quotient 57 = .ok (.ldc2_w 274, 3) := by decide +kernel
theorem dX12_quotient_60 : decode cX12_quotient 60 = .ok (.lcmp, 1) := by decide +kernel
theorem dX12_quotient_61 : decode cX12_quotient 61 = .ok (.ifCond .lt 15, 3) := by decide +kernel
theorem dX12_quotient_64 : decode cX12_quotient 64 = .ok (.lload 4, 2) := by decide +kernel
theorem dX12_quotient_66 : decode cX12_quotient 66 = .ok (.iconst 1, 1) := by decide +kernel
theorem dX12_quotient_67 : decode cX12_quotient 67 = .ok (.lshl, 1) := by decide +kernel
theorem dX12_quotient_68 : decode cX12_quotient 68 = .ok (.lstore 4, 2) := by decide +kernel
theorem dX12_quotient_70 : decode cX12_quotient 70 = .ok (.iinc 6 (-1), 3) := by decide +kernel
theorem dX12_quotient_73 : decode cX12_quotient 73 = .ok (.goto (-20), 3) := by decide +kernel
theorem dX12_quotient_76 : decode cX12_quotient 76 = .ok (.lload_n 2, 1) := by decide +kernel
theorem dX12_quotient_77 : decode cX12_quotient 77 = .ok (.lload 4, 2) := by decide +kernel
theorem dX12_quotient_79 : decode cX12_quotient 79 = .ok (.ldiv, 1) := by decide +kernel
theorem dX12_quotient_80 : decode cX12_quotient 80 = .ok (.lstore 7, 2) := by decide +kernel
theorem dX12_quotient_82 : decode cX12_quotient 82 = .ok (.ldc2_w 89, 3) := by decide +kernel
theorem dX12_quotient_85 : decode cX12_quotient 85 = .ok (.lload_n 2, 1) := by decide +kernel
theorem dX12_quotient_86 : decode cX12_quotient 86 = .ok (.lload 4, 2) := by decide +kernel
theorem dX12_quotient_88 : decode cX12_quotient 88 = .ok (.lrem, 1) := by decide +kernel
theorem dX12_quotient_89 : decode cX12_quotient 89 = .ok (.lmul, 1) := by decide +kernel
theorem dX12_quotient_90 : decode cX12_quotient 90 = .ok (.lstore 9, 2) := by decide +kernel
theorem dX12_quotient_92 : decode cX12_quotient 92 = .ok (.lload 7, 2) := by decide +kernel
theorem dX12_quotient_94 : decode cX12_quotient 94 = .ok (.lload 9, 2) := by decide +kernel
theorem dX12_quotient_96 : decode cX12_quotient 96 = .ok (.lload 4, 2) := by decide +kernel
theorem dX12_quotient_98 : decode cX12_quotient 98 = .ok (.lcmp, 1) := by decide +kernel
theorem dX12_quotient_99 : decode cX12_quotient 99 = .ok (.ifCond .gt 22, 3) := by decide +kernel
theorem dX12_quotient_102 : decode cX12_quotient 102 = .ok (.lload 9, 2) := by decide +kernel
theorem dX12_quotient_104 : decode cX12_quotient 104 = .ok (.lload 4, 2) := by decide +kernel
theorem dX12_quotient_106 : decode cX12_quotient 106 = .ok (.lcmp, 1) := by decide +kernel
theorem dX12_quotient_107 : decode cX12_quotient 107 = .ok (.ifCond .ne 18, 3) := by decide +kernel
theorem dX12_quotient_110 : decode cX12_quotient 110 = .ok (.lload 7, 2) := by decide +kernel
theorem dX12_quotient_112 : decode cX12_quotient 112 = .ok (.ldc2_w 89, 3) := by decide +kernel
theorem dX12_quotient_115 : decode cX12_quotient 115 = .ok (.lrem, 1) := by decide +kernel
theorem dX12_quotient_116 : decode cX12_quotient 116 = .ok (.lconst 1, 1) := by decide +kernel
theorem dX12_quotient_117 : decode cX12_quotient 117 = .ok (.lcmp, 1) := by decide +kernel
theorem dX12_quotient_118 : decode cX12_quotient 118 = .ok (.ifCond .ne 7, 3) := by decide +kernel
theorem dX12_quotient_121 : decode cX12_quotient 121 = .ok (.lconst 1, 1) := by decide +kernel
theorem dX12_quotient_122 : decode cX12_quotient 122 = .ok (.goto 4, 3) := by decide +kernel
theorem dX12_quotient_125 : decode cX12_quotient 125 = .ok (.lconst 0, 1) := by decide +kernel
theorem dX12_quotient_126 : decode cX12_quotient 126 = .ok (.ladd, 1) := by decide +kernel
theorem dX12_quotient_127 : decode cX12_quotient 127 = .ok (.lstore 7, 2) := by decide +kernel
theorem dX12_quotient_129 : decode cX12_quotient 129 = .ok (.bipush 23, 2) := by decide +kernel
theorem dX12_quotient_131 : decode cX12_quotient 131 = .ok (.iload 6, 2) := by decide +kernel
theorem dX12_quotient_133 : decode cX12_quotient 133 = .ok (.isub, 1) := by decide +kernel
theorem dX12_quotient_134 : decode cX12_quotient 134 = .ok (.bipush 127, 2) := by decide +kernel
theorem dX12_quotient_136 : decode cX12_quotient 136 = .ok (.iadd, 1) := by decide +kernel
theorem dX12_quotient_137 : decode cX12_quotient 137 = .ok (.istore 11, 2) := by decide +kernel
theorem dX12_quotient_139 : decode cX12_quotient 139 = .ok (.iload 11, 2) := by decide +kernel
theorem dX12_quotient_141 : decode cX12_quotient 141 = .ok (.bipush 23, 2) := by decide +kernel
theorem dX12_quotient_143 : decode cX12_quotient 143 = .ok (.ishl, 1) := by decide +kernel
theorem dX12_quotient_144 : decode cX12_quotient 144 = .ok (.i2l, 1) := by decide +kernel
theorem dX12_quotient_145 : decode cX12_quotient 145 = .ok (.lload 7, 2) := by decide +kernel
theorem dX12_quotient_147 : decode cX12_quotient 147 = .ok (.ladd, 1) := by decide +kernel
theorem dX12_quotient_148 : decode cX12_quotient 148 = .ok (.ldc2_w 272, 3) := by decide +kernel
theorem dX12_quotient_151 : decode cX12_quotient 151 = .ok (.lsub, 1) := by decide +kernel
theorem dX12_quotient_152 : decode cX12_quotient 152 = .ok (.l2i, 1) := by decide +kernel
theorem dX12_quotient_153 : decode cX12_quotient 153 = .ok (.istore 12, 2) := by decide +kernel
theorem dX12_quotient_155 : decode cX12_quotient 155 = .ok (.iload_n 0, 1) := by decide +kernel
theorem dX12_quotient_156 : decode cX12_quotient 156 = .ok (.ifCond .ge 11, 3) := by decide +kernel
theorem dX12_quotient_159 : decode cX12_quotient 159 = .ok (.iload 12, 2) := by decide +kernel
theorem dX12_quotient_161 : decode cX12_quotient 161 = .ok (.ldc 103, 2) := by decide +kernel
theorem dX12_quotient_163 : decode cX12_quotient 163 = .ok (.ior, 1) := by decide +kernel
theorem dX12_quotient_164 : decode cX12_quotient 164 = .ok (.goto 5, 3) := by decide +kernel
theorem dX12_quotient_167 : decode cX12_quotient 167 = .ok (.iload 12, 2) := by decide +kernel
theorem dX12_quotient_169 : decode cX12_quotient 169 = .ok (.ireturn, 1) := by decide +kernel
theorem dX12_shareBy_0 : decode cX12_shareBy 0 = .ok (.aload_n 0, 1) := by decide +kernel
theorem dX12_shareBy_1 : decode cX12_shareBy 1 = .ok (.iload_n 1, 1) := by decide +kernel
theorem dX12_shareBy_2 : decode cX12_shareBy 2 = .ok (.iload_n 2, 1) := by decide +kernel
theorem dX12_shareBy_3 : decode cX12_shareBy 3 = .ok (.invokevirtual 269, 3) := by decide +kernel
theorem dX12_shareBy_6 : decode cX12_shareBy 6 = .ok (.ifCond .eq 32, 3) := by decide +kernel
theorem dX12_shareBy_9 : decode cX12_shareBy 9 = .ok (.aload_n 0, 1) := by decide +kernel
theorem dX12_shareBy_10 : decode cX12_shareBy 10 = .ok (.iload_n 1, 1) := by decide +kernel
theorem dX12_shareBy_11 : decode cX12_shareBy 11 = .ok (.iload_n 3, 1) := by decide +kernel
theorem dX12_shareBy_12 : decode cX12_shareBy 12 = .ok (.invokevirtual 269, 3) := by decide +kernel
theorem dX12_shareBy_15 : decode cX12_shareBy 15 = .ok (.ifCond .eq 23, 3) := by decide +kernel
theorem dX12_shareBy_18 : decode cX12_shareBy 18 = .ok (.aload_n 0, 1) := by decide +kernel
theorem dX12_shareBy_19 : decode cX12_shareBy 19 = .ok (.iload_n 1, 1) := by decide +kernel
theorem dX12_shareBy_20 : decode cX12_shareBy 20 = .ok (.iload_n 2, 1) := by decide +kernel
theorem dX12_shareBy_21 : decode cX12_shareBy 21 = .ok (.iload_n 3, 1) := by decide +kernel
theorem dX12_shareBy_22 : decode cX12_shareBy 22 = .ok (.invokevirtual 276, 3) := by decide +kernel
theorem dX12_shareBy_25 : decode cX12_shareBy 25 = .ok (.aload_n 0, 1) := by decide +kernel
theorem dX12_shareBy_26 : decode cX12_shareBy 26 = .ok (.iload_n 1, 1) := by decide +kernel
theorem dX12_shareBy_27 : decode cX12_shareBy 27 = .ok (.iload_n 2, 1) := by decide +kernel
theorem dX12_shareBy_28 : decode cX12_shareBy 28 = .ok (.iload_n 2, 1) := by decide +kernel
theorem dX12_shareBy_29 : decode cX12_shareBy 29 = .ok (.invokevirtual 276, 3) := by decide +kernel
theorem dX12_shareBy_32 : decode cX12_shareBy 32 = .ok (.invokestatic 279, 3) := by decide +kernel
theorem dX12_shareBy_35 : decode cX12_shareBy 35 = .ok (.goto 5, 3) := by decide +kernel
theorem dX12_shareBy_38 : decode cX12_shareBy 38 = .ok (.ldc 103, 2) := by decide +kernel
theorem dX12_shareBy_40 : decode cX12_shareBy 40 = .ok (.ireturn, 1) := by decide +kernel
theorem dX12_share_0 : decode cX12_share 0 = .ok (.aload_n 0, 1) := by decide +kernel
theorem dX12_share_1 : decode cX12_share 1 = .ok (.iload_n 1, 1) := by decide +kernel
theorem dX12_share_2 : decode cX12_share 2 = .ok (.iload_n 2, 1) := by decide +kernel
theorem dX12_share_3 : decode cX12_share 3 = .ok (.iload_n 3, 1) := by decide +kernel
theorem dX12_share_4 : decode cX12_share 4 = .ok (.invokevirtual 282, 3) := by decide +kernel
theorem dX12_share_7 : decode cX12_share 7 = .ok (.ireturn, 1) := by decide +kernel
theorem dX12_write_0 : decode cX12_write 0 = .ok (.iload_n 1, 1) := by decide +kernel
theorem dX12_write_1 : decode cX12_write 1 = .ok (.invokestatic 85, 3) := by decide +kernel
theorem dX12_write_4 : decode cX12_write 4 = .ok (.ifCond .ne 6, 3) := by decide +kernel
theorem dX12_write_7 : decode cX12_write 7 = .ok (.bipush (-2), 2) := by decide +kernel
theorem dX12_write_9 : decode cX12_write 9 = .ok (.ireturn, 1) := by decide +kernel
theorem dX12_write_10 : decode cX12_write 10 = .ok (.aload_n 0, 1) := by decide +kernel
theorem dX12_write_11 : decode cX12_write 11 = .ok (.getfield 7, 3) := by decide +kernel
theorem dX12_write_14 : decode cX12_write 14 = .ok (.iload_n 1, 1) := by decide +kernel
theorem dX12_write_15 : decode cX12_write 15 = .ok (.iaload, 1) := by decide +kernel
theorem dX12_write_16 : decode cX12_write 16 = .ok (.ifCond .ge 9, 3) := by decide +kernel
theorem dX12_write_19 : decode cX12_write 19 = .ok (.aload_n 0, 1) := by decide +kernel
theorem dX12_write_20 : decode cX12_write 20 = .ok (.iconst 1, 1) := by decide +kernel
theorem dX12_write_21 : decode cX12_write 21 = .ok (.invokevirtual 91, 3) := by decide +kernel
theorem dX12_write_24 : decode cX12_write 24 = .ok (.ireturn, 1) := by decide +kernel
theorem dX12_write_25 : decode cX12_write 25 = .ok (.aload_n 0, 1) := by decide +kernel
theorem dX12_write_26 : decode cX12_write 26 = .ok (.invokevirtual 241, 3) := by decide +kernel
theorem dX12_write_29 : decode cX12_write 29 = .ok (.aload_n 0, 1) := by decide +kernel
theorem dX12_write_30 : decode cX12_write 30 = .ok (.getfield 13, 3) := by decide +kernel
theorem dX12_write_33 : decode cX12_write 33 = .ok (.iload_n 1, 1) := by decide +kernel
theorem dX12_write_34 : decode cX12_write 34 = .ok (.iaload, 1) := by decide +kernel
theorem dX12_write_35 : decode cX12_write 35 = .ok (.aload_n 0, 1) := by decide +kernel
theorem dX12_write_36 : decode cX12_write 36 = .ok (.getfield 25, 3) := by decide +kernel
theorem dX12_write_39 : decode cX12_write 39 = .ok (.iconst 1, 1) := by decide +kernel
theorem dX12_write_40 : decode cX12_write 40 = .ok (.iaload, 1) := by decide +kernel
theorem dX12_write_41 : decode cX12_write 41 = .ok (.invokestatic 143, 3) := by decide +kernel
theorem dX12_write_44 : decode cX12_write 44 = .ok (.istore_n 2, 1) := by decide +kernel
theorem dX12_write_45 : decode cX12_write 45 = .ok (.iconst 0, 1) := by decide +kernel
theorem dX12_write_46 : decode cX12_write 46 = .ok (.istore_n 3, 1) := by decide +kernel
theorem dX12_write_47 : decode cX12_write 47 = .ok (.iload_n 3, 1) := by decide +kernel
theorem dX12_write_48 : decode cX12_write 48 = .ok (.iload_n 2, 1) := by decide +kernel
theorem dX12_write_49 : decode cX12_write 49 = .ok (.if_icmp .ge 35, 3) := by decide +kernel
theorem dX12_write_52 : decode cX12_write 52 = .ok (.aload_n 0, 1) := by decide +kernel
theorem dX12_write_53 : decode cX12_write 53 = .ok (.getfield 16, 3) := by decide +kernel
theorem dX12_write_56 : decode cX12_write 56 = .ok (.bipush 60, 2) := by decide +kernel
theorem dX12_write_58 : decode cX12_write 58 = .ok (.iload_n 1, 1) := by decide +kernel
theorem dX12_write_59 : decode cX12_write 59 = .ok (.imul, 1) := by decide +kernel
theorem dX12_write_60 : decode cX12_write 60 = .ok (.iload_n 3, 1) := by decide +kernel
theorem dX12_write_61 : decode cX12_write 61 = .ok (.iadd, 1) := by decide +kernel
theorem dX12_write_62 : decode cX12_write 62 = .ok (.aload_n 0, 1) := by decide +kernel
theorem dX12_write_63 : decode cX12_write 63 = .ok (.getfield 7, 3) := by decide +kernel
theorem dX12_write_66 : decode cX12_write 66 = .ok (.iload_n 1, 1) := by decide +kernel
theorem dX12_write_67 : decode cX12_write 67 = .ok (.iaload, 1) := by decide +kernel
theorem dX12_write_68 : decode cX12_write 68 = .ok (.aload_n 0, 1) := by decide +kernel
theorem dX12_write_69 : decode cX12_write 69 = .ok (.getfield 61, 3) := by decide +kernel
theorem dX12_write_72 : decode cX12_write 72 = .ok (.iload_n 3, 1) := by decide +kernel
theorem dX12_write_73 : decode cX12_write 73 = .ok (.iaload, 1) := by decide +kernel
theorem dX12_write_74 : decode cX12_write 74 = .ok (.invokestatic 99, 3) := by decide +kernel
theorem dX12_write_77 : decode cX12_write 77 = .ok (.iastore, 1) := by decide +kernel
theorem dX12_write_78 : decode cX12_write 78 = .ok (.iinc 3 1, 3) := by decide +kernel
theorem dX12_write_81 : decode cX12_write 81 = .ok (.goto (-34), 3) := by decide +kernel
theorem dX12_write_84 : decode cX12_write 84 = .ok (.iload_n 2, 1) := by decide +kernel
theorem dX12_write_85 : decode cX12_write 85 = .ok (.ireturn, 1) := by decide +kernel
theorem dX12_manyThings_0 : decode cX12_manyThings 0 = .ok (.aload_n 0, 1) := by decide +kernel
theorem dX12_manyThings_1 : decode cX12_manyThings 1 = .ok (.getfield 70, 3) := by decide +kernel
theorem dX12_manyThings_4 : decode cX12_manyThings 4 = .ok (.iconst 0, 1) := by decide +kernel
theorem dX12_manyThings_5 : decode cX12_manyThings 5 = .ok (.iaload, 1) := by decide +kernel
theorem dX12_manyThings_6 : decode cX12_manyThings 6 = .ok (.aload_n 0, 1) := by decide +kernel
theorem dX12_manyThings_7 : decode cX12_manyThings 7 = .ok (.getfield 70, 3) := by decide +kernel
theorem dX12_manyThings_10 : decode cX12_manyThings 10 = .ok (.iconst 1, 1) := by decide +kernel
theorem dX12_manyThings_11 : decode cX12_manyThings 11 = .ok (.iaload, 1) := by decide +kernel
theorem dX12_manyThings_12 : decode cX12_manyThings 12 = .ok (.iadd, 1) := by decide +kernel
theorem dX12_manyThings_13 : decode cX12_manyThings 13 = .ok (.aload_n 0, 1) := by decide +kernel
theorem dX12_manyThings_14 : decode cX12_manyThings 14 = .ok (.getfield 70, 3) := by decide +kernel
theorem dX12_manyThings_17 : decode cX12_manyThings 17 = .ok (.iconst 2, 1) := by decide +kernel
theorem dX12_manyThings_18 : decode cX12_manyThings 18 = .ok (.iaload, 1) := by decide +kernel
theorem dX12_manyThings_19 : decode cX12_manyThings 19 = .ok (.iadd, 1) := by decide +kernel
theorem dX12_manyThings_20 : decode cX12_manyThings 20 = .ok (.aload_n 0, 1) := by decide +kernel
theorem dX12_manyThings_21 : decode cX12_manyThings 21 = .ok (.getfield 70, 3) := by decide +kernel
theorem dX12_manyThings_24 : decode cX12_manyThings 24 = .ok (.iconst 3, 1) := by decide +kernel
theorem dX12_manyThings_25 : decode cX12_manyThings 25 = .ok (.iaload, 1) := by decide +kernel
theorem dX12_manyThings_26 : decode cX12_manyThings 26 = .ok (.iadd, 1) := by decide +kernel
theorem dX12_manyThings_27 : decode cX12_manyThings 27 = .ok (.ireturn, 1) := by decide +kernel
theorem dX12_manyWrong_0 : decode cX12_manyWrong 0 = .ok (.iconst 0, 1) := by decide +kernel
theorem dX12_manyWrong_1 : decode cX12_manyWrong 1 = .ok (.istore_n 1, 1) := by decide +kernel
theorem dX12_manyWrong_2 : decode cX12_manyWrong 2 = .ok (.iconst 0, 1) := by decide +kernel
theorem dX12_manyWrong_3 : decode cX12_manyWrong 3 = .ok (.istore_n 2, 1) := by decide +kernel
theorem dX12_manyWrong_4 : decode cX12_manyWrong 4 = .ok (.iload_n 2, 1) := by decide +kernel
theorem dX12_manyWrong_5 : decode cX12_manyWrong 5 = .ok (.bipush 8, 2) := by decide +kernel
theorem dX12_manyWrong_7 : decode cX12_manyWrong 7 = .ok (.if_icmp .ge 28, 3) := by decide +kernel
theorem dX12_manyWrong_10 : decode cX12_manyWrong 10 = .ok (.iload_n 1, 1) := by decide +kernel
theorem dX12_manyWrong_11 : decode cX12_manyWrong 11 = .ok (.aload_n 0, 1) := by decide +kernel
theorem dX12_manyWrong_12 : decode cX12_manyWrong 12 = .ok (.invokevirtual 256, 3) := by decide +kernel
theorem dX12_manyWrong_15 : decode cX12_manyWrong 15 = .ok (.iload_n 2, 1) := by decide +kernel
theorem dX12_manyWrong_16 : decode cX12_manyWrong 16 = .ok (.invokestatic 285, 3) := by decide +kernel
theorem dX12_manyWrong_19 : decode cX12_manyWrong 19 = .ok (.ifCond .eq 7, 3) := by decide +kernel
theorem dX12_manyWrong_22 : decode cX12_manyWrong 22 = .ok (.iconst 1, 1) := by decide +kernel
theorem dX12_manyWrong_23 : decode cX12_manyWrong 23 = .ok (.goto 4, 3) := by decide +kernel
theorem dX12_manyWrong_26 : decode cX12_manyWrong 26 = .ok (.iconst 0, 1) := by decide +kernel
theorem dX12_manyWrong_27 : decode cX12_manyWrong 27 = .ok (.iadd, 1) := by decide +kernel
theorem dX12_manyWrong_28 : decode cX12_manyWrong 28 = .ok (.istore_n 1, 1) := by decide +kernel
theorem dX12_manyWrong_29 : decode cX12_manyWrong 29 = .ok (.iinc 2 1, 3) := by decide +kernel
theorem dX12_manyWrong_32 : decode cX12_manyWrong 32 = .ok (.goto (-28), 3) := by decide +kernel
theorem dX12_manyWrong_35 : decode cX12_manyWrong 35 = .ok (.iload_n 1, 1) := by decide +kernel
theorem dX12_manyWrong_36 : decode cX12_manyWrong 36 = .ok (.ireturn, 1) := by decide +kernel
theorem dX12_count_0 : decode cX12_count 0 = .ok (.aload_n 0, 1) := by decide +kernel
theorem dX12_count_1 : decode cX12_count 1 = .ok (.invokevirtual 241, 3) := by decide +kernel
theorem dX12_count_4 : decode cX12_count 4 = .ok (.iload_n 1, 1) := by decide +kernel
theorem dX12_count_5 : decode cX12_count 5 = .ok (.tableswitch 104 0 8 #[51, 58, 65, 70, 75, 82, 89, 94, 99], 51) := by decide +kernel
theorem dX12_count_56 : decode cX12_count 56 = .ok (.aload_n 0, 1) := by decide +kernel
theorem dX12_count_57 : decode cX12_count 57 = .ok (.getfield 25, 3) := by decide +kernel
theorem dX12_count_60 : decode cX12_count 60 = .ok (.iconst 0, 1) := by decide +kernel
theorem dX12_count_61 : decode cX12_count 61 = .ok (.iaload, 1) := by decide +kernel
theorem dX12_count_62 : decode cX12_count 62 = .ok (.ireturn, 1) := by decide +kernel
theorem dX12_count_63 : decode cX12_count 63 = .ok (.aload_n 0, 1) := by decide +kernel
theorem dX12_count_64 : decode cX12_count 64 = .ok (.getfield 25, 3) := by decide +kernel
theorem dX12_count_67 : decode cX12_count 67 = .ok (.iconst 1, 1) := by decide +kernel
theorem dX12_count_68 : decode cX12_count 68 = .ok (.iaload, 1) := by decide +kernel
theorem dX12_count_69 : decode cX12_count 69 = .ok (.ireturn, 1) := by decide +kernel
theorem dX12_count_70 : decode cX12_count 70 = .ok (.aload_n 0, 1) := by decide +kernel
theorem dX12_count_71 : decode cX12_count 71 = .ok (.getfield 192, 3) := by decide +kernel
theorem dX12_count_74 : decode cX12_count 74 = .ok (.ireturn, 1) := by decide +kernel
theorem dX12_count_75 : decode cX12_count 75 = .ok (.aload_n 0, 1) := by decide +kernel
theorem dX12_count_76 : decode cX12_count 76 = .ok (.getfield 220, 3) := by decide +kernel
theorem dX12_count_79 : decode cX12_count 79 = .ok (.ireturn, 1) := by decide +kernel
theorem dX12_count_80 : decode cX12_count 80 = .ok (.iconst 3, 1) := by decide +kernel
theorem dX12_count_81 : decode cX12_count 81 = .ok (.aload_n 0, 1) := by decide +kernel
theorem dX12_count_82 : decode cX12_count 82 = .ok (.getfield 175, 3) := by decide +kernel
theorem dX12_count_85 : decode cX12_count 85 = .ok (.imul, 1) := by decide +kernel
theorem dX12_count_86 : decode cX12_count 86 = .ok (.ireturn, 1) := by decide +kernel
theorem dX12_count_87 : decode cX12_count 87 = .ok (.aload_n 0, 1) := by decide +kernel
theorem dX12_count_88 : decode cX12_count 88 = .ok (.getfield 28, 3) := by decide +kernel
theorem dX12_count_91 : decode cX12_count 91 = .ok (.iconst 1, 1) := by decide +kernel
theorem dX12_count_92 : decode cX12_count 92 = .ok (.iaload, 1) := by decide +kernel
theorem dX12_count_93 : decode cX12_count 93 = .ok (.ireturn, 1) := by decide +kernel
theorem dX12_count_94 : decode cX12_count 94 = .ok (.aload_n 0, 1) := by decide +kernel
theorem dX12_count_95 : decode cX12_count 95 = .ok (.invokevirtual 288, 3) := by decide +kernel
theorem dX12_count_98 : decode cX12_count 98 = .ok (.ireturn, 1) := by decide +kernel
theorem dX12_count_99 : decode cX12_count 99 = .ok (.aload_n 0, 1) := by decide +kernel
theorem dX12_count_100 : decode cX12_count 100 = .ok (.invokevirtual 291, 3) := by decide +kernel
theorem dX12_count_103 : decode cX12_count 103 = .ok (.ireturn, 1) := by decide +kernel
theorem dX12_count_104 : decode cX12_count 104 = .ok (.aload_n 0, 1) := by decide +kernel
theorem dX12_count_105 : decode cX12_count 105 = .ok (.getfield 80, 3) := by decide +kernel
theorem dX12_count_108 : decode cX12_count 108 = .ok (.ireturn, 1) := by decide +kernel
theorem dX12_count_109 : decode cX12_count 109 = .ok (.bipush (-2), 2) := by decide +kernel
theorem dX12_count_111 : decode cX12_count 111 = .ok (.ireturn, 1) := by decide +kernel
theorem dX12_tellsSky_0 : decode cX12_tellsSky 0 = .ok (.lload_n 1, 1) := by decide +kernel
theorem dX12_tellsSky_1 : decode cX12_tellsSky 1 = .ok (.lstore_n 3, 1) := by decide +kernel
theorem dX12_tellsSky_2 : decode cX12_tellsSky 2 = .ok (.iconst 0, 1) := by decide +kernel
theorem dX12_tellsSky_3 : decode cX12_tellsSky 3 = .ok (.istore 5, 2) := by decide +kernel
theorem dX12_tellsSky_5 : decode cX12_tellsSky 5 = .ok (.iload 5, 2) := by decide +kernel
theorem dX12_tellsSky_7 : decode cX12_tellsSky 7 = .ok (.aload_n 0, 1) := by decide +kernel
theorem dX12_tellsSky_8 : decode cX12_tellsSky 8 = .ok (.getfield 25, 3) := by decide +kernel
theorem dX12_tellsSky_11 : decode cX12_tellsSky 11 = .ok (.iconst 1, 1) := by decide +kernel
theorem dX12_tellsSky_12 : decode cX12_tellsSky 12 = .ok (.iaload, 1) := by decide +kernel
theorem dX12_tellsSky_13 : decode cX12_tellsSky 13 = .ok (.if_icmp .ge 112, 3) := by decide +kernel
theorem dX12_tellsSky_16 : decode cX12_tellsSky 16 = .ok (.iconst 0, 1) := by decide +kernel
theorem dX12_tellsSky_17 : decode cX12_tellsSky 17 = .ok (.istore 6, 2) := by decide +kernel
theorem dX12_tellsSky_19 : decode cX12_tellsSky 19 = .ok (.iload 6, 2) := by decide +kernel
theorem dX12_tellsSky_21 : decode cX12_tellsSky 21 = .ok (.iconst 2, 1) := by decide +kernel
theorem dX12_tellsSky_22 : decode cX12_tellsSky 22 = .ok (.if_icmp .ge 25, 3) := by decide +kernel
theorem dX12_tellsSky_25 : decode cX12_tellsSky 25 = .ok (.ldc2_w 294, 3) := by decide +kernel
theorem dX12_tellsSky_28 : decode cX12_tellsSky 28 = .ok (.lload_n 3, 1) := by decide +kernel
theorem dX12_tellsSky_29 : decode cX12_tellsSky 29 = .ok (.lmul, 1) := by decide +kernel
theorem dX12_tellsSky_30 : decode cX12_tellsSky 30 = .ok (.aload_n 0, 1) := by decide +kernel
theorem dX12_tellsSky_31 : decode cX12_tellsSky 31 = .ok (.iload 5, 2) := by decide +kernel
theorem dX12_tellsSky_33 : decode cX12_tellsSky 33 = .ok (.iload 6, 2) := by decide +kernel
theorem dX12_tellsSky_35 : decode cX12_tellsSky 35 = .ok (.invokevirtual 247, 3) := by decide +kernel
theorem dX12_tellsSky_38 : decode cX12_tellsSky 38 = .ok (.i2l, 1) := by decide +kernel
theorem dX12_tellsSky_39 : decode cX12_tellsSky 39 = .ok (.ladd, 1) := by decide +kernel
theorem dX12_tellsSky_40 : decode cX12_tellsSky 40 = .ok (.lstore_n 3, 1) := by decide +kernel
theorem dX12_tellsSky_41 : decode cX12_tellsSky 41 = .ok (.iinc 6 1, 3) := by decide +kernel
theorem dX12_tellsSky_44 : decode cX12_tellsSky 44 = .ok (.goto (-25), 3) := by decide +kernel
theorem dX12_tellsSky_47 : decode cX12_tellsSky 47 = .ok (.iconst 0, 1) := by decide +kernel
theorem dX12_tellsSky_48 : decode cX12_tellsSky 48 = .ok (.istore 6, 2) := by decide +kernel
theorem dX12_tellsSky_50 : decode cX12_tellsSky 50 = .ok (.iload 6, 2) := by decide +kernel
theorem dX12_tellsSky_52 : decode cX12_tellsSky 52 = .ok (.iconst 2, 1) := by decide +kernel
theorem dX12_tellsSky_53 : decode cX12_tellsSky 53 = .ok (.if_icmp .ge 25, 3) := by decide +kernel
theorem dX12_tellsSky_56 : decode cX12_tellsSky 56 = .ok (.ldc2_w 294, 3) := by decide +kernel
theorem dX12_tellsSky_59 : decode cX12_tellsSky 59 = .ok (.lload_n 3, 1) := by decide +kernel
theorem dX12_tellsSky_60 : decode cX12_tellsSky 60 = .ok (.lmul, 1) := by decide +kernel
theorem dX12_tellsSky_61 : decode cX12_tellsSky 61 = .ok (.aload_n 0, 1) := by decide +kernel
theorem dX12_tellsSky_62 : decode cX12_tellsSky 62 = .ok (.iload 5, 2) := by decide +kernel
theorem dX12_tellsSky_64 : decode cX12_tellsSky 64 = .ok (.iload 6, 2) := by decide +kernel
theorem dX12_tellsSky_66 : decode cX12_tellsSky 66 = .ok (.invokevirtual 253, 3) := by decide +kernel
theorem dX12_tellsSky_69 : decode cX12_tellsSky 69 = .ok (.i2l, 1) := by decide +kernel
theorem dX12_tellsSky_70 : decode cX12_tellsSky 70 = .ok (.ladd, 1) := by decide +kernel
theorem dX12_tellsSky_71 : decode cX12_tellsSky 71 = .ok (.lstore_n 3, 1) := by decide +kernel
theorem dX12_tellsSky_72 : decode cX12_tellsSky 72 = .ok (.iinc 6 1, 3) := by decide +kernel
theorem dX12_tellsSky_75 : decode cX12_tellsSky 75 = .ok (.goto (-25), 3) := by decide +kernel
theorem dX12_tellsSky_78 : decode cX12_tellsSky 78 = .ok (.iconst 0, 1) := by decide +kernel
theorem dX12_tellsSky_79 : decode cX12_tellsSky 79 = .ok (.istore 6, 2) := by decide +kernel
theorem dX12_tellsSky_81 : decode cX12_tellsSky 81 = .ok (.iload 6, 2) := by decide +kernel
theorem dX12_tellsSky_83 : decode cX12_tellsSky 83 = .ok (.aload_n 0, 1) := by decide +kernel
theorem dX12_tellsSky_84 : decode cX12_tellsSky 84 = .ok (.getfield 25, 3) := by decide +kernel
theorem dX12_tellsSky_87 : decode cX12_tellsSky 87 = .ok (.iconst 0, 1) := by decide +kernel
theorem dX12_tellsSky_88 : decode cX12_tellsSky 88 = .ok (.iaload, 1) := by decide +kernel
theorem dX12_tellsSky_89 : decode cX12_tellsSky 89 = .ok (.if_icmp .ge 30, 3) := by decide +kernel
theorem dX12_tellsSky_92 : decode cX12_tellsSky 92 = .ok (.ldc2_w 294, 3) := by decide +kernel
theorem dX12_tellsSky_95 : decode cX12_tellsSky 95 = .ok (.lload_n 3, 1) := by decide +kernel
theorem dX12_tellsSky_96 : decode cX12_tellsSky 96 = .ok (.lmul, 1) := by decide +kernel
theorem dX12_tellsSky_97 : decode cX12_tellsSky 97 = .ok (.aload_n 0, 1) := by decide +kernel
theorem dX12_tellsSky_98 : decode cX12_tellsSky 98 = .ok (.getfield 35, 3) := by decide +kernel
theorem dX12_tellsSky_101 : decode cX12_tellsSky 101 = .ok (.bipush 12, 2) := by decide +kernel
theorem dX12_tellsSky_103 : decode cX12_tellsSky 103 = .ok (.iload 5, 2) := by decide +kernel
theorem dX12_tellsSky_105 : decode cX12_tellsSky 105 = .ok (.imul, 1) := by decide +kernel
theorem dX12_tellsSky_106 : decode cX12_tellsSky 106 = .ok (.iload 6, 2) := by decide +kernel
theorem dX12_tellsSky_108 : decode cX12_tellsSky 108 = .ok (.iadd, 1) := by decide +kernel
theorem dX12_tellsSky_109 : decode cX12_tellsSky 109 = .ok (.iaload, 1) := by decide +kernel
theorem dX12_tellsSky_110 : decode cX12_tellsSky 110 = .ok (.i2l, 1) := by decide +kernel
theorem dX12_tellsSky_111 : decode cX12_tellsSky 111 = .ok (.ladd, 1) := by decide +kernel
theorem dX12_tellsSky_112 : decode cX12_tellsSky 112 = .ok (.lstore_n 3, 1) := by decide +kernel
theorem dX12_tellsSky_113 : decode cX12_tellsSky 113 = .ok (.iinc 6 1, 3) := by decide +kernel
theorem dX12_tellsSky_116 : decode cX12_tellsSky 116 = .ok (.goto (-35), 3) := by decide +kernel
theorem dX12_tellsSky_119 : decode cX12_tellsSky 119 = .ok (.iinc 5 1, 3) := by decide +kernel
theorem dX12_tellsSky_122 : decode cX12_tellsSky 122 = .ok (.goto (-117), 3) := by decide +kernel
theorem dX12_tellsSky_125 : decode cX12_tellsSky 125 = .ok (.iconst 0, 1) := by decide +kernel
theorem dX12_tellsSky_126 : decode cX12_tellsSky 126 = .ok (.istore 5, 2) := by decide +kernel
theorem dX12_tellsSky_128 : decode cX12_tellsSky 128 = .ok (.iload 5, 2) := by decide +kernel
theorem dX12_tellsSky_130 : decode cX12_tellsSky 130 = .ok (.aload_n 0, 1) := by decide +kernel
theorem dX12_tellsSky_131 : decode cX12_tellsSky 131 = .ok (.getfield 25, 3) := by decide +kernel
theorem dX12_tellsSky_134 : decode cX12_tellsSky 134 = .ok (.iconst 0, 1) := by decide +kernel
theorem dX12_tellsSky_135 : decode cX12_tellsSky 135 = .ok (.iaload, 1) := by decide +kernel
theorem dX12_tellsSky_136 : decode cX12_tellsSky 136 = .ok (.if_icmp .ge 74, 3) := by decide +kernel
theorem dX12_tellsSky_139 : decode cX12_tellsSky 139 = .ok (.iconst 0, 1) := by decide +kernel
theorem dX12_tellsSky_140 : decode cX12_tellsSky 140 = .ok (.istore 6, 2) := by decide +kernel
theorem dX12_tellsSky_142 : decode cX12_tellsSky 142 = .ok (.iload 6, 2) := by decide +kernel
theorem dX12_tellsSky_144 : decode cX12_tellsSky 144 = .ok (.iconst 3, 1) := by decide +kernel
theorem dX12_tellsSky_145 : decode cX12_tellsSky 145 = .ok (.if_icmp .ge 25, 3) := by decide +kernel
theorem dX12_tellsSky_148 : decode cX12_tellsSky 148 = .ok (.ldc2_w 294, 3) := by decide +kernel
theorem dX12_tellsSky_151 : decode cX12_tellsSky 151 = .ok (.lload_n 3, 1) := by decide +kernel
theorem dX12_tellsSky_152 : decode cX12_tellsSky 152 = .ok (.lmul, 1) := by decide +kernel
theorem dX12_tellsSky_153 : decode cX12_tellsSky 153 = .ok (.aload_n 0, 1) := by decide +kernel
theorem dX12_tellsSky_154 : decode cX12_tellsSky 154 = .ok (.iload 5, 2) := by decide +kernel
theorem dX12_tellsSky_156 : decode cX12_tellsSky 156 = .ok (.iload 6, 2) := by decide +kernel
theorem dX12_tellsSky_158 : decode cX12_tellsSky 158 = .ok (.invokevirtual 250, 3) := by decide +kernel
theorem dX12_tellsSky_161 : decode cX12_tellsSky 161 = .ok (.i2l, 1) := by decide +kernel
theorem dX12_tellsSky_162 : decode cX12_tellsSky 162 = .ok (.ladd, 1) := by decide +kernel
theorem dX12_tellsSky_163 : decode cX12_tellsSky 163 = .ok (.lstore_n 3, 1) := by decide +kernel
theorem dX12_tellsSky_164 : decode cX12_tellsSky 164 = .ok (.iinc 6 1, 3) := by decide +kernel
theorem dX12_tellsSky_167 : decode cX12_tellsSky 167 = .ok (.goto (-25), 3) := by decide +kernel
theorem dX12_tellsSky_170 : decode cX12_tellsSky 170 = .ok (.iconst 0, 1) := by decide +kernel
theorem dX12_tellsSky_171 : decode cX12_tellsSky 171 = .ok (.istore 6, 2) := by decide +kernel
theorem dX12_tellsSky_173 : decode cX12_tellsSky 173 = .ok (.iload 6, 2) := by decide +kernel
theorem dX12_tellsSky_175 : decode cX12_tellsSky 175 = .ok (.iconst 3, 1) := by decide +kernel
theorem dX12_tellsSky_176 : decode cX12_tellsSky 176 = .ok (.if_icmp .ge 28, 3) := by decide +kernel
theorem dX12_tellsSky_179 : decode cX12_tellsSky 179 = .ok (.ldc2_w 294, 3) := by decide +kernel
theorem dX12_tellsSky_182 : decode cX12_tellsSky 182 = .ok (.lload_n 3, 1) := by decide +kernel
theorem dX12_tellsSky_183 : decode cX12_tellsSky 183 = .ok (.lmul, 1) := by decide +kernel
theorem dX12_tellsSky_184 : decode cX12_tellsSky 184 = .ok (.aload_n 0, 1) := by decide +kernel
theorem dX12_tellsSky_185 : decode cX12_tellsSky 185 = .ok (.iconst 0, 1) := by decide +kernel
theorem dX12_tellsSky_186 : decode cX12_tellsSky 186 = .ok (.iconst 0, 1) := by decide +kernel
theorem dX12_tellsSky_187 : decode cX12_tellsSky 187 = .ok (.iconst 1, 1) := by decide +kernel
theorem dX12_tellsSky_188 : decode cX12_tellsSky 188 = .ok (.iload 5, 2) := by decide +kernel
theorem dX12_tellsSky_190 : decode cX12_tellsSky 190 = .ok (.iload 6, 2) := by decide +kernel
theorem dX12_tellsSky_192 : decode cX12_tellsSky 192 = .ok (.invokevirtual 296, 3) := by decide +kernel
theorem dX12_tellsSky_195 : decode cX12_tellsSky 195 = .ok (.i2l, 1) := by decide +kernel
theorem dX12_tellsSky_196 : decode cX12_tellsSky 196 = .ok (.ladd, 1) := by decide +kernel
theorem dX12_tellsSky_197 : decode cX12_tellsSky 197 = .ok (.lstore_n 3, 1) := by decide +kernel
theorem dX12_tellsSky_198 : decode cX12_tellsSky 198 = .ok (.iinc 6 1, 3) := by decide +kernel
theorem dX12_tellsSky_201 : decode cX12_tellsSky 201 = .ok (.goto (-28), 3) := by decide +kernel
theorem dX12_tellsSky_204 : decode cX12_tellsSky 204 = .ok (.iinc 5 1, 3) := by decide +kernel
theorem dX12_tellsSky_207 : decode cX12_tellsSky 207 = .ok (.goto (-79), 3) := by decide +kernel
theorem dX12_tellsSky_210 : decode cX12_tellsSky 210 = .ok (.lload_n 3, 1) := by decide +kernel
theorem dX12_tellsSky_211 : decode cX12_tellsSky 211 = .ok (.lreturn, 1) := by decide +kernel
theorem dX12_digest_0 : decode cX12_digest 0 = .ok (.ldc2_w 299, 3) := by decide +kernel
theorem dX12_digest_3 : decode cX12_digest 3 = .ok (.lstore_n 1, 1) := by decide +kernel
theorem dX12_digest_4 : decode cX12_digest 4 = .ok (.iconst 0, 1) := by decide +kernel
theorem dX12_digest_5 : decode cX12_digest 5 = .ok (.istore_n 3, 1) := by decide +kernel
theorem dX12_digest_6 : decode cX12_digest 6 = .ok (.iload_n 3, 1) := by decide +kernel
theorem dX12_digest_7 : decode cX12_digest 7 = .ok (.bipush 8, 2) := by decide +kernel
theorem dX12_digest_9 : decode cX12_digest 9 = .ok (.if_icmp .ge 22, 3) := by decide +kernel
theorem dX12_digest_12 : decode cX12_digest 12 = .ok (.ldc2_w 294, 3) := by decide +kernel
theorem dX12_digest_15 : decode cX12_digest 15 = .ok (.lload_n 1, 1) := by decide +kernel
theorem dX12_digest_16 : decode cX12_digest 16 = .ok (.lmul, 1) := by decide +kernel
theorem dX12_digest_17 : decode cX12_digest 17 = .ok (.aload_n 0, 1) := by decide +kernel
theorem dX12_digest_18 : decode cX12_digest 18 = .ok (.iload_n 3, 1) := by decide +kernel
theorem dX12_digest_19 : decode cX12_digest 19 = .ok (.invokevirtual 301, 3) := by decide +kernel
theorem dX12_digest_22 : decode cX12_digest 22 = .ok (.i2l, 1) := by decide +kernel
theorem dX12_digest_23 : decode cX12_digest 23 = .ok (.ladd, 1) := by decide +kernel
theorem dX12_digest_24 : decode cX12_digest 24 = .ok (.lstore_n 1, 1) := by decide +kernel
theorem dX12_digest_25 : decode cX12_digest 25 = .ok (.iinc 3 1, 3) := by decide +kernel
theorem dX12_digest_28 : decode cX12_digest 28 = .ok (.goto (-22), 3) := by decide +kernel
theorem dX12_digest_31 : decode cX12_digest 31 = .ok (.iconst 0, 1) := by decide +kernel
theorem dX12_digest_32 : decode cX12_digest 32 = .ok (.istore_n 3, 1) := by decide +kernel
theorem dX12_digest_33 : decode cX12_digest 33 = .ok (.iload_n 3, 1) := by decide +kernel
theorem dX12_digest_34 : decode cX12_digest 34 = .ok (.iconst 4, 1) := by decide +kernel
theorem dX12_digest_35 : decode cX12_digest 35 = .ok (.if_icmp .ge 22, 3) := by decide +kernel
theorem dX12_digest_38 : decode cX12_digest 38 = .ok (.ldc2_w 294, 3) := by decide +kernel
theorem dX12_digest_41 : decode cX12_digest 41 = .ok (.lload_n 1, 1) := by decide +kernel
theorem dX12_digest_42 : decode cX12_digest 42 = .ok (.lmul, 1) := by decide +kernel
theorem dX12_digest_43 : decode cX12_digest 43 = .ok (.aload_n 0, 1) := by decide +kernel
theorem dX12_digest_44 : decode cX12_digest 44 = .ok (.iload_n 3, 1) := by decide +kernel
theorem dX12_digest_45 : decode cX12_digest 45 = .ok (.invokevirtual 244, 3) := by decide +kernel
theorem dX12_digest_48 : decode cX12_digest 48 = .ok (.i2l, 1) := by decide +kernel
theorem dX12_digest_49 : decode cX12_digest 49 = .ok (.ladd, 1) := by decide +kernel
theorem dX12_digest_50 : decode cX12_digest 50 = .ok (.lstore_n 1, 1) := by decide +kernel
theorem dX12_digest_51 : decode cX12_digest 51 = .ok (.iinc 3 1, 3) := by decide +kernel
theorem dX12_digest_54 : decode cX12_digest 54 = .ok (.goto (-21), 3) := by decide +kernel
theorem dX12_digest_57 : decode cX12_digest 57 = .ok (.aload_n 0, 1) := by decide +kernel
theorem dX12_digest_58 : decode cX12_digest 58 = .ok (.lload_n 1, 1) := by decide +kernel
theorem dX12_digest_59 : decode cX12_digest 59 = .ok (.invokevirtual 304, 3) := by decide +kernel
theorem dX12_digest_62 : decode cX12_digest 62 = .ok (.lstore_n 1, 1) := by decide +kernel
theorem dX12_digest_63 : decode cX12_digest 63 = .ok (.ldc2_w 294, 3) := by decide +kernel
theorem dX12_digest_66 : decode cX12_digest 66 = .ok (.lload_n 1, 1) := by decide +kernel
theorem dX12_digest_67 : decode cX12_digest 67 = .ok (.lmul, 1) := by decide +kernel
theorem dX12_digest_68 : decode cX12_digest 68 = .ok (.aload_n 0, 1) := by decide +kernel
theorem dX12_digest_69 : decode cX12_digest 69 = .ok (.getfield 203, 3) := by decide +kernel
theorem dX12_digest_72 : decode cX12_digest 72 = .ok (.ifCond .eq 7, 3) := by decide +kernel
theorem dX12_digest_75 : decode cX12_digest 75 = .ok (.iconst 1, 1) := by decide +kernel
theorem dX12_digest_76 : decode cX12_digest 76 = .ok (.goto 4, 3) := by decide +kernel
theorem dX12_digest_79 : decode cX12_digest 79 = .ok (.iconst 0, 1) := by decide +kernel
theorem dX12_digest_80 : decode cX12_digest 80 = .ok (.i2l, 1) := by decide +kernel
theorem dX12_digest_81 : decode cX12_digest 81 = .ok (.ladd, 1) := by decide +kernel
theorem dX12_digest_82 : decode cX12_digest 82 = .ok (.lstore_n 1, 1) := by decide +kernel
theorem dX12_digest_83 : decode cX12_digest 83 = .ok (.ldc2_w 294, 3) := by decide +kernel
theorem dX12_digest_86 : decode cX12_digest 86 = .ok (.lload_n 1, 1) := by decide +kernel
theorem dX12_digest_87 : decode cX12_digest 87 = .ok (.lmul, 1) := by decide +kernel
theorem dX12_digest_88 : decode cX12_digest 88 = .ok (.aload_n 0, 1) := by decide +kernel
theorem dX12_digest_89 : decode cX12_digest 89 = .ok (.invokevirtual 256, 3) := by decide +kernel
theorem dX12_digest_92 : decode cX12_digest 92 = .ok (.i2l, 1) := by decide +kernel
theorem dX12_digest_93 : decode cX12_digest 93 = .ok (.ladd, 1) := by decide +kernel
theorem dX12_digest_94 : decode cX12_digest 94 = .ok (.lstore_n 1, 1) := by decide +kernel
theorem dX12_digest_95 : decode cX12_digest 95 = .ok (.iconst 0, 1) := by decide +kernel
theorem dX12_digest_96 : decode cX12_digest 96 = .ok (.istore_n 3, 1) := by decide +kernel
theorem dX12_digest_97 : decode cX12_digest 97 = .ok (.iload_n 3, 1) := by decide +kernel
theorem dX12_digest_98 : decode cX12_digest 98 = .ok (.iconst 2, 1) := by decide +kernel
theorem dX12_digest_99 : decode cX12_digest 99 = .ok (.if_icmp .ge 22, 3) := by decide +kernel
theorem dX12_digest_102 : decode cX12_digest 102 = .ok (.ldc2_w 294, 3) := by decide +kernel
theorem dX12_digest_105 : decode cX12_digest 105 = .ok (.lload_n 1, 1) := by decide +kernel
theorem dX12_digest_106 : decode cX12_digest 106 = .ok (.lmul, 1) := by decide +kernel
theorem dX12_digest_107 : decode cX12_digest 107 = .ok (.aload_n 0, 1) := by decide +kernel
theorem dX12_digest_108 : decode cX12_digest 108 = .ok (.iload_n 3, 1) := by decide +kernel
theorem dX12_digest_109 : decode cX12_digest 109 = .ok (.invokevirtual 260, 3) := by decide +kernel
theorem dX12_digest_112 : decode cX12_digest 112 = .ok (.i2l, 1) := by decide +kernel
theorem dX12_digest_113 : decode cX12_digest 113 = .ok (.ladd, 1) := by decide +kernel
theorem dX12_digest_114 : decode cX12_digest 114 = .ok (.lstore_n 1, 1) := by decide +kernel
theorem dX12_digest_115 : decode cX12_digest 115 = .ok (.iinc 3 1, 3) := by decide +kernel
theorem dX12_digest_118 : decode cX12_digest 118 = .ok (.goto (-21), 3) := by decide +kernel
theorem dX12_digest_121 : decode cX12_digest 121 = .ok (.iconst 0, 1) := by decide +kernel
theorem dX12_digest_122 : decode cX12_digest 122 = .ok (.istore_n 3, 1) := by decide +kernel
theorem dX12_digest_123 : decode cX12_digest 123 = .ok (.iload_n 3, 1) := by decide +kernel
theorem dX12_digest_124 : decode cX12_digest 124 = .ok (.iconst 2, 1) := by decide +kernel
theorem dX12_digest_125 : decode cX12_digest 125 = .ok (.if_icmp .ge 22, 3) := by decide +kernel
theorem dX12_digest_128 : decode cX12_digest 128 = .ok (.ldc2_w 294, 3) := by decide +kernel
theorem dX12_digest_131 : decode cX12_digest 131 = .ok (.lload_n 1, 1) := by decide +kernel
theorem dX12_digest_132 : decode cX12_digest 132 = .ok (.lmul, 1) := by decide +kernel
theorem dX12_digest_133 : decode cX12_digest 133 = .ok (.aload_n 0, 1) := by decide +kernel
theorem dX12_digest_134 : decode cX12_digest 134 = .ok (.iload_n 3, 1) := by decide +kernel
theorem dX12_digest_135 : decode cX12_digest 135 = .ok (.invokevirtual 263, 3) := by decide +kernel
theorem dX12_digest_138 : decode cX12_digest 138 = .ok (.i2l, 1) := by decide +kernel
theorem dX12_digest_139 : decode cX12_digest 139 = .ok (.ladd, 1) := by decide +kernel
theorem dX12_digest_140 : decode cX12_digest 140 = .ok (.lstore_n 1, 1) := by decide +kernel
theorem dX12_digest_141 : decode cX12_digest 141 = .ok (.iinc 3 1, 3) := by decide +kernel
theorem dX12_digest_144 : decode cX12_digest 144 = .ok (.goto (-21), 3) := by decide +kernel
theorem dX12_digest_147 : decode cX12_digest 147 = .ok (.iconst 0, 1) := by decide +kernel
theorem dX12_digest_148 : decode cX12_digest 148 = .ok (.istore_n 3, 1) := by decide +kernel
theorem dX12_digest_149 : decode cX12_digest 149 = .ok (.iload_n 3, 1) := by decide +kernel
theorem dX12_digest_150 : decode cX12_digest 150 = .ok (.iconst 4, 1) := by decide +kernel
theorem dX12_digest_151 : decode cX12_digest 151 = .ok (.if_icmp .ge 72, 3) := by decide +kernel
theorem dX12_digest_154 : decode cX12_digest 154 = .ok (.iconst 0, 1) := by decide +kernel
theorem dX12_digest_155 : decode cX12_digest 155 = .ok (.istore 4, 2) := by decide +kernel
theorem dX12_digest_157 : decode cX12_digest 157 = .ok (.iload 4, 2) := by decide +kernel
theorem dX12_digest_159 : decode cX12_digest 159 = .ok (.iconst 4, 1) := by decide +kernel
theorem dX12_digest_160 : decode cX12_digest 160 = .ok (.if_icmp .ge 57, 3) := by decide +kernel
theorem dX12_digest_163 : decode cX12_digest 163 = .ok (.iconst 0, 1) := by decide +kernel
theorem dX12_digest_164 : decode cX12_digest 164 = .ok (.istore 5, 2) := by decide +kernel
theorem dX12_digest_166 : decode cX12_digest 166 = .ok (.iload 5, 2) := by decide +kernel
theorem dX12_digest_168 : decode cX12_digest 168 = .ok (.iconst 4, 1) := by decide +kernel
theorem dX12_digest_169 : decode cX12_digest 169 = .ok (.if_icmp .ge 26, 3) := by decide +kernel
theorem dX12_digest_172 : decode cX12_digest 172 = .ok (.ldc2_w 294, 3) := by decide +kernel
theorem dX12_digest_175 : decode cX12_digest 175 = .ok (.lload_n 1, 1) := by decide +kernel
theorem dX12_digest_176 : decode cX12_digest 176 = .ok (.lmul, 1) := by decide +kernel
theorem dX12_digest_177 : decode cX12_digest 177 = .ok (.aload_n 0, 1) := by decide +kernel
theorem dX12_digest_178 : decode cX12_digest 178 = .ok (.iload_n 3, 1) := by decide +kernel
theorem dX12_digest_179 : decode cX12_digest 179 = .ok (.iload 4, 2) := by decide +kernel
theorem dX12_digest_181 : decode cX12_digest 181 = .ok (.iload 5, 2) := by decide +kernel
theorem dX12_digest_183 : decode cX12_digest 183 = .ok (.invokevirtual 308, 3) := by decide +kernel
theorem dX12_digest_186 : decode cX12_digest 186 = .ok (.i2l, 1) := by decide +kernel
theorem dX12_digest_187 : decode cX12_digest 187 = .ok (.ladd, 1) := by decide +kernel
theorem dX12_digest_188 : decode cX12_digest 188 = .ok (.lstore_n 1, 1) := by decide +kernel
theorem dX12_digest_189 : decode cX12_digest 189 = .ok (.iinc 5 1, 3) := by decide +kernel
theorem dX12_digest_192 : decode cX12_digest 192 = .ok (.goto (-26), 3) := by decide +kernel
theorem dX12_digest_195 : decode cX12_digest 195 = .ok (.ldc2_w 294, 3) := by decide +kernel
theorem dX12_digest_198 : decode cX12_digest 198 = .ok (.lload_n 1, 1) := by decide +kernel
theorem dX12_digest_199 : decode cX12_digest 199 = .ok (.lmul, 1) := by decide +kernel
theorem dX12_digest_200 : decode cX12_digest 200 = .ok (.aload_n 0, 1) := by decide +kernel
theorem dX12_digest_201 : decode cX12_digest 201 = .ok (.iload_n 3, 1) := by decide +kernel
theorem dX12_digest_202 : decode cX12_digest 202 = .ok (.iconst 0, 1) := by decide +kernel
theorem dX12_digest_203 : decode cX12_digest 203 = .ok (.iload 4, 2) := by decide +kernel
theorem dX12_digest_205 : decode cX12_digest 205 = .ok (.invokevirtual 282, 3) := by decide +kernel
theorem dX12_digest_208 : decode cX12_digest 208 = .ok (.i2l, 1) := by decide +kernel
theorem dX12_digest_209 : decode cX12_digest 209 = .ok (.ladd, 1) := by decide +kernel
theorem dX12_digest_210 : decode cX12_digest 210 = .ok (.lstore_n 1, 1) := by decide +kernel
theorem dX12_digest_211 : decode cX12_digest 211 = .ok (.iinc 4 1, 3) := by decide +kernel
theorem dX12_digest_214 : decode cX12_digest 214 = .ok (.goto (-57), 3) := by decide +kernel
theorem dX12_digest_217 : decode cX12_digest 217 = .ok (.iinc 3 1, 3) := by decide +kernel
theorem dX12_digest_220 : decode cX12_digest 220 = .ok (.goto (-71), 3) := by decide +kernel
theorem dX12_digest_223 : decode cX12_digest 223 = .ok (.lload_n 1, 1) := by decide +kernel
theorem dX12_digest_224 : decode cX12_digest 224 = .ok (.lreturn, 1) := by decide +kernel
