theorem dX11_init_0 : decode cX11_init 0 = .ok (.aload_n 0, 1) := by decide +kernel
theorem dX11_init_1 : decode cX11_init 1 = .ok (.invokespecial 1, 3) := by decide +kernel
theorem dX11_init_4 : decode cX11_init 4 = .ok (.aload_n 0, 1) := by decide +kernel
theorem dX11_init_5 : decode cX11_init 5 = .ok (.bipush 50, 2) := by decide +kernel
theorem dX11_init_7 : decode cX11_init 7 = .ok (.newarray .int, 2) := by decide +kernel
theorem dX11_init_9 : decode cX11_init 9 = .ok (.putfield 7, 3) := by decide +kernel
theorem dX11_init_12 : decode cX11_init 12 = .ok (.aload_n 0, 1) := by decide +kernel
theorem dX11_init_13 : decode cX11_init 13 = .ok (.bipush 21, 2) := by decide +kernel
theorem dX11_init_15 : decode cX11_init 15 = .ok (.newarray .int, 2) := by decide +kernel
theorem dX11_init_17 : decode cX11_init 17 = .ok (.putfield 13, 3) := by decide +kernel
theorem dX11_init_20 : decode cX11_init 20 = .ok (.aload_n 0, 1) := by decide +kernel
theorem dX11_init_21 : decode cX11_init 21 = .ok (.bipush 21, 2) := by decide +kernel
theorem dX11_init_23 : decode cX11_init 23 = .ok (.newarray .int, 2) := by decide +kernel
theorem dX11_init_25 : decode cX11_init 25 = .ok (.putfield 16, 3) := by decide +kernel
theorem dX11_init_28 : decode cX11_init 28 = .ok (.aload_n 0, 1) := by decide +kernel
theorem dX11_init_29 : decode cX11_init 29 = .ok (.bipush 21, 2) := by decide +kernel
theorem dX11_init_31 : decode cX11_init 31 = .ok (.newarray .long, 2) := by decide +kernel
theorem dX11_init_33 : decode cX11_init 33 = .ok (.putfield 19, 3) := by decide +kernel
theorem dX11_init_36 : decode cX11_init 36 = .ok (.aload_n 0, 1) := by decide +kernel
theorem dX11_init_37 : decode cX11_init 37 = .ok (.bipush 21, 2) := by decide +kernel
theorem dX11_init_39 : decode cX11_init 39 = .ok (.newarray .long, 2) := by decide +kernel
theorem dX11_init_41 : decode cX11_init 41 = .ok (.putfield 23, 3) := by decide +kernel
theorem dX11_init_44 : decode cX11_init 44 = .ok (.aload_n 0, 1) := by decide +kernel
theorem dX11_init_45 : decode cX11_init 45 = .ok (.bipush 12, 2) := by decide +kernel
theorem dX11_init_47 : decode cX11_init 47 = .ok (.newarray .int, 2) := by decide +kernel
theorem dX11_init_49 : decode cX11_init 49 = .ok (.putfield 26, 3) := by decide +kernel
theorem dX11_init_52 : decode cX11_init 52 = .ok (.aload_n 0, 1) := by decide +kernel
theorem dX11_init_53 : decode cX11_init 53 = .ok (.bipush 12, 2) := by decide +kernel
theorem dX11_init_55 : decode cX11_init 55 = .ok (.newarray .int, 2) := by decide +kernel
theorem dX11_init_57 : decode cX11_init 57 = .ok (.putfield 29, 3) := by decide +kernel
theorem dX11_init_60 : decode cX11_init 60 = .ok (.aload_n 0, 1) := by decide +kernel
theorem dX11_init_61 : decode cX11_init 61 = .ok (.iconst 3, 1) := by decide +kernel
theorem dX11_init_62 : decode cX11_init 62 = .ok (.newarray .int, 2) := by decide +kernel
theorem dX11_init_64 : decode cX11_init 64 = .ok (.putfield 32, 3) := by decide +kernel
theorem dX11_init_67 : decode cX11_init 67 = .ok (.aload_n 0, 1) := by decide +kernel
theorem dX11_init_68 : decode cX11_init 68 = .ok (.iconst 3, 1) := by decide +kernel
theorem dX11_init_69 : decode cX11_init 69 = .ok (.newarray .long, 2) := by decide +kernel
theorem dX11_init_71 : decode cX11_init 71 = .ok (.putfield 35, 3) := by decide +kernel
theorem dX11_init_74 : decode cX11_init 74 = .ok (.aload_n 0, 1) := by decide +kernel
theorem dX11_init_75 : decode cX11_init 75 = .ok (.iconst 3, 1) := by decide +kernel
theorem dX11_init_76 : decode cX11_init 76 = .ok (.newarray .long, 2) := by decide +kernel
theorem dX11_init_78 : decode cX11_init 78 = .ok (.putfield 38, 3) := by decide +kernel
theorem dX11_init_81 : decode cX11_init 81 = .ok (.aload_n 0, 1) := by decide +kernel
theorem dX11_init_82 : decode cX11_init 82 = .ok (.sipush 390, 3) := by decide +kernel
theorem dX11_init_85 : decode cX11_init 85 = .ok (.newarray .int, 2) := by decide +kernel
theorem dX11_init_87 : decode cX11_init 87 = .ok (.putfield 41, 3) := by decide +kernel
theorem dX11_init_90 : decode cX11_init 90 = .ok (.aload_n 0, 1) := by decide +kernel
theorem dX11_init_91 : decode cX11_init 91 = .ok (.bipush 13, 2) := by decide +kernel
theorem dX11_init_93 : decode cX11_init 93 = .ok (.newarray .int, 2) := by decide +kernel
theorem dX11_init_95 : decode cX11_init 95 = .ok (.putfield 44, 3) := by decide +kernel
theorem dX11_init_98 : decode cX11_init 98 = .ok (.aload_n 0, 1) := by decide +kernel
theorem dX11_init_99 : decode cX11_init 99 = .ok (.sipush 400, 3) := by decide +kernel
theorem dX11_init_102 : decode cX11_init 102 = .ok (.newarray .int, 2) := by decide +kernel
theorem dX11_init_104 : decode cX11_init 104 = .ok (.putfield 47, 3) := by decide +kernel
theorem dX11_init_107 : decode cX11_init 107 = .ok (.aload_n 0, 1) := by decide +kernel
theorem dX11_init_108 : decode cX11_init 108 = .ok (.sipush 390, 3) := by decide +kernel
theorem dX11_init_111 : decode cX11_init 111 = .ok (.newarray .long, 2) := by decide +kernel
theorem dX11_init_113 : decode cX11_init 113 = .ok (.putfield 50, 3) := by decide +kernel
theorem dX11_init_116 : decode cX11_init 116 = .ok (.aload_n 0, 1) := by decide +kernel
theorem dX11_init_117 : decode cX11_init 117 = .ok (.sipush 390, 3) := by decide +kernel
theorem dX11_init_120 : decode cX11_init 120 = .ok (.newarray .long, 2) := by decide +kernel
theorem dX11_init_122 : decode cX11_init 122 = .ok (.putfield 53, 3) := by decide +kernel
theorem dX11_init_125 : decode cX11_init 125 = .ok (.aload_n 0, 1) := by decide +kernel
theorem dX11_init_126 : decode cX11_init 126 = .ok (.sipush 400, 3) := by decide +kernel
theorem dX11_init_129 : decode cX11_init 129 = .ok (.newarray .long, 2) := by decide +kernel
theorem dX11_init_131 : decode cX11_init 131 = .ok (.putfield 56, 3) := by decide +kernel
theorem dX11_init_134 : decode cX11_init 134 = .ok (.aload_n 0, 1) := by decide +kernel
theorem dX11_init_135 : decode cX11_init 135 = .ok (.sipush 400, 3) := by decide +kernel
theorem dX11_init_138 : decode cX11_init 138 = .ok (.newarray .long, 2) := by decide +kernel
theorem dX11_init_140 : decode cX11_init 140 = .ok (.putfield 59, 3) := by decide +kernel
theorem dX11_init_143 : decode cX11_init 143 = .ok (.aload_n 0, 1) := by decide +kernel
theorem dX11_init_144 : decode cX11_init 144 = .ok (.bipush 6, 2) := by decide +kernel
theorem dX11_init_146 : decode cX11_init 146 = .ok (.newarray .int, 2) := by decide +kernel
theorem dX11_init_148 : decode cX11_init 148 = .ok (.putfield 62, 3) := by decide +kernel
theorem dX11_init_151 : decode cX11_init 151 = .ok (.aload_n 0, 1) := by decide +kernel
theorem dX11_init_152 : decode cX11_init 152 = .ok (.bipush 6, 2) := by decide +kernel
theorem dX11_init_154 : decode cX11_init 154 = .ok (.newarray .int, 2) := by decide +kernel
theorem dX11_init_156 : decode cX11_init 156 = .ok (.putfield 65, 3) := by decide +kernel
theorem dX11_init_159 : decode cX11_init 159 = .ok (.aload_n 0, 1) := by decide +kernel
theorem dX11_init_160 : decode cX11_init 160 = .ok (.bipush 6, 2) := by decide +kernel
theorem dX11_init_162 : decode cX11_init 162 = .ok (.newarray .long, 2) := by decide +kernel
theorem dX11_init_164 : decode cX11_init 164 = .ok (.putfield 68, 3) := by decide +kernel
theorem dX11_init_167 : decode cX11_init 167 = .ok (.aload_n 0, 1) := by decide +kernel
theorem dX11_init_168 : decode cX11_init 168 = .ok (.bipush 6, 2) := by decide +kernel
theorem dX11_init_170 : decode cX11_init 170 = .ok (.newarray .long, 2) := by decide +kernel
theorem dX11_init_172 : decode cX11_init 172 = .ok (.putfield 71, 3) := by decide +kernel
theorem dX11_init_175 : decode cX11_init 175 = .ok (.aload_n 0, 1) := by decide +kernel
theorem dX11_init_176 : decode cX11_init 176 = .ok (.bipush 80, 2) := by decide +kernel
theorem dX11_init_178 : decode cX11_init 178 = .ok (.newarray .char, 2) := by decide +kernel
theorem dX11_init_180 : decode cX11_init 180 = .ok (.putfield 74, 3) := by decide +kernel
theorem dX11_init_183 : decode cX11_init 183 = .ok (.aload_n 0, 1) := by decide +kernel
theorem dX11_init_184 : decode cX11_init 184 = .ok (.bipush 12, 2) := by decide +kernel
theorem dX11_init_186 : decode cX11_init 186 = .ok (.newarray .int, 2) := by decide +kernel
theorem dX11_init_188 : decode cX11_init 188 = .ok (.putfield 78, 3) := by decide +kernel
theorem dX11_init_191 : decode cX11_init 191 = .ok (.aload_n 0, 1) := by decide +kernel
theorem dX11_init_192 : decode cX11_init 192 = .ok (.bipush 48, 2) := by decide +kernel
theorem dX11_init_194 : decode cX11_init 194 = .ok (.newarray .int, 2) := by decide +kernel
theorem dX11_init_196 : decode cX11_init 196 = .ok (.putfield 81, 3) := by decide +kernel
theorem dX11_init_199 : decode cX11_init 199 = .ok (.aload_n 0, 1) := by decide +kernel
theorem dX11_init_200 : decode cX11_init 200 = .ok (.bipush 12, 2) := by decide +kernel
theorem dX11_init_202 : decode cX11_init 202 = .ok (.newarray .long, 2) := by decide +kernel
theorem dX11_init_204 : decode cX11_init 204 = .ok (.putfield 84, 3) := by decide +kernel
theorem dX11_init_207 : decode cX11_init 207 = .ok (.aload_n 0, 1) := by decide +kernel
theorem dX11_init_208 : decode cX11_init 208 = .ok (.bipush 12, 2) := by decide +kernel
theorem dX11_init_210 : decode cX11_init 210 = .ok (.newarray .long, 2) := by decide +kernel
theorem dX11_init_212 : decode cX11_init 212 = .ok (.putfield 87, 3) := by decide +kernel
theorem dX11_init_215 : decode cX11_init 215 = .ok (.aload_n 0, 1) := by decide +kernel
theorem dX11_init_216 : decode cX11_init 216 = .ok (.iconst (-1), 1) := by decide +kernel
theorem dX11_init_217 : decode cX11_init 217 = .ok (.putfield 90, 3) := by decide +kernel
theorem dX11_init_220 : decode cX11_init 220 = .ok (.aload_n 0, 1) := by decide +kernel
theorem dX11_init_221 : decode cX11_init 221 = .ok (.bipush 50, 2) := by decide +kernel
theorem dX11_init_223 : decode cX11_init 223 = .ok (.newarray .int, 2) := by decide +kernel
theorem dX11_init_225 : decode cX11_init 225 = .ok (.putfield 94, 3) := by decide +kernel
theorem dX11_init_228 : decode cX11_init 228 = .ok (.aload_n 0, 1) := by decide +kernel
theorem dX11_init_229 : decode cX11_init 229 = .ok (.iconst 3, 1) := by decide +kernel
theorem dX11_init_230 : decode cX11_init 230 = .ok (.newarray .int, 2) := by decide +kernel
theorem dX11_init_232 : decode cX11_init 232 = .ok (.putfield 97, 3) := by decide +kernel
theorem dX11_init_235 : decode cX11_init 235 = .ok (.aload_n 0, 1) := by decide +kernel
theorem dX11_init_236 : decode cX11_init 236 = .ok (.iconst 3, 1) := by decide +kernel
theorem dX11_init_237 : decode cX11_init 237 = .ok (.newarray .long, 2) := by decide +kernel
theorem dX11_init_239 : decode cX11_init 239 = .ok (.putfield 100, 3) := by decide +kernel
theorem dX11_init_242 : decode cX11_init 242 = .ok (.aload_n 0, 1) := by decide +kernel
theorem dX11_init_243 : decode cX11_init 243 = .ok (.iconst 3, 1) := by decide +kernel
theorem dX11_init_244 : decode cX11_init 244 = .ok (.newarray .long, 2) := by decide +kernel
theorem dX11_init_246 : decode cX11_init 246 = .ok (.putfield 103, 3) := by decide +kernel
theorem dX11_init_249 : decode cX11_init 249 = .ok (.return_, 1) := by decide +kernel
theorem dX11_thrown_0 : decode cX11_thrown 0 = .ok (.aload_n 0, 1) := by decide +kernel
theorem dX11_thrown_1 : decode cX11_thrown 1 = .ok (.getfield 106, 3) := by decide +kernel
theorem dX11_thrown_4 : decode cX11_thrown 4 = .ok (.ireturn, 1) := by decide +kernel
theorem dX11_fails_0 : decode cX11_fails 0 = .ok (.aload_n 0, 1) := by decide +kernel
theorem dX11_fails_1 : decode cX11_fails 1 = .ok (.iload_n 1, 1) := by decide +kernel
theorem dX11_fails_2 : decode cX11_fails 2 = .ok (.putfield 106, 3) := by decide +kernel
theorem dX11_fails_5 : decode cX11_fails 5 = .ok (.iconst 0, 1) := by decide +kernel
theorem dX11_fails_6 : decode cX11_fails 6 = .ok (.ireturn, 1) := by decide +kernel
theorem dX11_refuses_0 : decode cX11_refuses 0 = .ok (.aload_n 0, 1) := by decide +kernel
theorem dX11_refuses_1 : decode cX11_refuses 1 = .ok (.iload_n 1, 1) := by decide +kernel
theorem dX11_refuses_2 : decode cX11_refuses 2 = .ok (.putfield 106, 3) := by decide +kernel
theorem dX11_refuses_5 : decode cX11_refuses 5 = .ok (.iconst 0, 1) := by decide +kernel
theorem dX11_refuses_6 : decode cX11_refuses 6 = .ok (.ireturn, 1) := by decide +kernel
theorem dX11_isBetween_0 : decode cX11_isBetween 0 = .ok (.iload_n 0, 1) := by decide +kernel
theorem dX11_isBetween_1 : decode cX11_isBetween 1 = .ok (.iload_n 1, 1) := by decide +kernel
theorem dX11_isBetween_2 : decode cX11_isBetween 2 = .ok (.if_icmp .lt 12, 3) := by decide +kernel
theorem dX11_isBetween_5 : decode cX11_isBetween 5 = .ok (.iload_n 0, 1) := by decide +kernel
theorem dX11_isBetween_6 : decode cX11_isBetween 6 = .ok (.iload_n 2, 1) := by decide +kernel
theorem dX11_isBetween_7 : decode cX11_isBetween 7 = .ok (.if_icmp .gt 7, 3) := by decide +kernel
theorem dX11_isBetween_10 : decode cX11_isBetween 10 = .ok (.iconst 1, 1) := by decide +kernel
theorem dX11_isBetween_11 : decode cX11_isBetween 11 = .ok (.goto 4, 3) := by decide +kernel
theorem dX11_isBetween_14 : decode cX11_isBetween 14 = .ok (.iconst 0, 1) := by decide +kernel
theorem dX11_isBetween_15 : decode cX11_isBetween 15 = .ok (.ireturn, 1) := by decide +kernel
theorem dX11_lengthOf_0 : decode cX11_lengthOf 0 = .ok (.iconst 0, 1) := by decide +kernel
theorem dX11_lengthOf_1 : decode cX11_lengthOf 1 = .ok (.istore_n 2, 1) := by decide +kernel
theorem dX11_lengthOf_2 : decode cX11_lengthOf 2 = .ok (.lload_n 0, 1) := by decide +kernel
theorem dX11_lengthOf_3 : decode cX11_lengthOf 3 = .ok (.lstore_n 3, 1) := by decide +kernel
theorem dX11_lengthOf_4 : decode cX11_lengthOf 4 = .ok (.lload_n 3, 1) := by decide +kernel
theorem dX11_lengthOf_5 : decode cX11_lengthOf 5 = .ok (.lconst 0, 1) := by decide +kernel
theorem dX11_lengthOf_6 : decode cX11_lengthOf 6 = .ok (.lcmp, 1) := by decide +kernel
theorem dX11_lengthOf_7 : decode cX11_lengthOf 7 = .ok (.ifCond .le 15, 3) := by decide +kernel
theorem dX11_lengthOf_10 : decode cX11_lengthOf 10 = .ok (.iinc 2 1, 3) := by decide +kernel
theorem dX11_lengthOf_13 : decode cX11_lengthOf 13 = .ok (.lload_n 3, 1) := by decide +kernel
theorem dX11_lengthOf_14 : decode cX11_lengthOf 14 = .ok (.ldc2_w 109, 3) := by decide +kernel
theorem dX11_lengthOf_17 : decode cX11_lengthOf 17 = .ok (.ldiv, 1) := by decide +kernel
theorem dX11_lengthOf_18 : decode cX11_lengthOf 18 = .ok (.lstore_n 3, 1) := by decide +kernel
theorem dX11_lengthOf_19 : decode cX11_lengthOf 19 = .ok (.goto (-15), 3) := by decide +kernel
theorem dX11_lengthOf_22 : decode cX11_lengthOf 22 = .ok (.iload_n 2, 1) := by decide +kernel
theorem dX11_lengthOf_23 : decode cX11_lengthOf 23 = .ok (.ireturn, 1) := by decide +kernel
theorem dX11_power_0 : decode cX11_power 0 = .ok (.lconst 1, 1) := by decide +kernel
theorem dX11_power_1 : decode cX11_power 1 = .ok (.iconst 2, 1) := by decide +kernel
theorem dX11_power_2 : decode cX11_power 2 = .ok (.iload_n 0, 1) := by decide +kernel
theorem dX11_power_3 : decode cX11_power 3 = .ok (.imul, 1) := by decide +kernel
theorem dX11_power_4 : decode cX11_power 4 = .ok (.lshl, 1) := by decide +kernel
theorem dX11_power_5 : decode cX11_power 5 = .ok (.lreturn, 1) := by decide +kernel
theorem dX11_letterAt_0 : decode cX11_letterAt 0 = .ok (.lload_n 0, 1) := by decide +kernel
theorem dX11_letterAt_1 : decode cX11_letterAt 1 = .ok (.lload_n 0, 1) := by decide +kernel
theorem dX11_letterAt_2 : decode cX11_letterAt 2 = .ok (.invokestatic 111, 3) := by decide +kernel
theorem dX11_letterAt_5 : decode cX11_letterAt 5 = .ok (.iconst 1, 1) := by decide +kernel
theorem dX11_letterAt_6 : decode cX11_letterAt 6 = .ok (.isub, 1) := by decide +kernel
theorem dX11_letterAt_7 : decode cX11_letterAt 7 = .ok (.iload_n 2, 1) := by decide +kernel
theorem dX11_letterAt_8 : decode cX11_letterAt 8 = .ok (.isub, 1) := by decide +kernel
theorem dX11_letterAt_9 : decode cX11_letterAt 9 = .ok (.invokestatic 115, 3) := by decide +kernel
theorem dX11_letterAt_12 : decode cX11_letterAt 12 = .ok (.ldiv, 1) := by decide +kernel
theorem dX11_letterAt_13 : decode cX11_letterAt 13 = .ok (.ldc2_w 109, 3) := by decide +kernel
theorem dX11_letterAt_16 : decode cX11_letterAt 16 = .ok (.lrem, 1) := by decide +kernel
theorem dX11_letterAt_17 : decode cX11_letterAt 17 = .ok (.l2i, 1) := by decide +kernel
theorem dX11_letterAt_18 : decode cX11_letterAt 18 = .ok (.iconst 1, 1) := by decide +kernel
theorem dX11_letterAt_19 : decode cX11_letterAt 19 = .ok (.isub, 1) := by decide +kernel
theorem dX11_letterAt_20 : decode cX11_letterAt 20 = .ok (.ireturn, 1) := by decide +kernel
theorem dX11_without_0 : decode cX11_without 0 = .ok (.lload_n 0, 1) := by decide +kernel
theorem dX11_without_1 : decode cX11_without 1 = .ok (.invokestatic 111, 3) := by decide +kernel
theorem dX11_without_4 : decode cX11_without 4 = .ok (.iconst 1, 1) := by decide +kernel
theorem dX11_without_5 : decode cX11_without 5 = .ok (.isub, 1) := by decide +kernel
theorem dX11_without_6 : decode cX11_without 6 = .ok (.iload_n 2, 1) := by decide +kernel
theorem dX11_without_7 : decode cX11_without 7 = .ok (.isub, 1) := by decide +kernel
theorem dX11_without_8 : decode cX11_without 8 = .ok (.invokestatic 115, 3) := by decide +kernel
theorem dX11_without_11 : decode cX11_without 11 = .ok (.lstore_n 3, 1) := by decide +kernel
theorem dX11_without_12 : decode cX11_without 12 = .ok (.lload_n 0, 1) := by decide +kernel
theorem dX11_without_13 : decode cX11_without 13 = .ok (.ldc2_w 109, 3) := by decide +kernel
theorem dX11_without_16 : decode cX11_without 16 = .ok (.lload_n 3, 1) := by decide +kernel
theorem dX11_without_17 : decode cX11_without 17 = .ok (.lmul, 1) := by decide +kernel
theorem dX11_without_18 : decode cX11_without 18 = .ok (.ldiv, 1) := by decide +kernel
theorem dX11_without_19 : decode cX11_without 19 = .ok (.lload_n 3, 1) := by decide +kernel
theorem dX11_without_20 : decode cX11_without 20 = .ok (.lmul, 1) := by decide +kernel
theorem dX11_without_21 : decode cX11_without 21 = .ok (.lload_n 0, 1) := by decide +kernel
theorem dX11_without_22 : decode cX11_without 22 = .ok (.lload_n 3, 1) := by decide +kernel
theorem dX11_without_23 : decode cX11_without 23 = .ok (.lrem, 1) := by decide +kernel
theorem dX11_without_24 : decode cX11_without 24 = .ok (.ladd, 1) := by decide +kernel
theorem dX11_without_25 : decode cX11_without 25 = .ok (.lreturn, 1) := by decide +kernel
theorem dX11_isWordBelow_0 : decode cX11_isWordBelow 0 = .ok (.lload_n 0, 1) := by decide +kernel
theorem dX11_isWordBelow_1 : decode cX11_isWordBelow 1 = .ok (.invokestatic 111, 3) := by decide +kernel
theorem dX11_isWordBelow_4 : decode cX11_isWordBelow 4 = .ok (.istore 4, 2) := by decide +kernel
theorem dX11_isWordBelow_6 : decode cX11_isWordBelow 6 = .ok (.iconst 0, 1) := by decide +kernel
theorem dX11_isWordBelow_7 : decode cX11_isWordBelow 7 = .ok (.istore 5, 2) := by decide +kernel
theorem dX11_isWordBelow_9 : decode cX11_isWordBelow 9 = .ok (.iconst 0, 1) := by decide +kernel
theorem dX11_isWordBelow_10 : decode cX11_isWordBelow 10 = .ok (.istore 6, 2) := by decide +kernel
theorem dX11_isWordBelow_12 : decode cX11_isWordBelow 12 = .ok (.iload 6, 2) := by decide +kernel
theorem dX11_isWordBelow_14 : decode cX11_isWordBelow 14 = .ok (.lload_n 2, 1) := by decide +kernel
theorem dX11_isWordBelow_15 : decode cX11_isWordBelow 15 = .ok (.invokestatic 111, 3) := by decide +kernel
theorem dX11_isWordBelow_18 : decode cX11_isWordBelow 18 = .ok (.if_icmp .ge 41, 3) := by decide +kernel
theorem dX11_isWordBelow_21 : decode cX11_isWordBelow 21 = .ok (.iload 5, 2) := by decide +kernel
theorem dX11_isWordBelow_23 : decode cX11_isWordBelow 23 = .ok (.iload 4, 2) := by decide +kernel
theorem dX11_isWordBelow_25 : decode cX11_isWordBelow 25 = .ok (.if_icmp .ge 34, 3) := by decide +kernel
theorem dX11_isWordBelow_28 : decode cX11_isWordBelow 28 = .ok (.iload 5, 2) := by decide +kernel
theorem dX11_isWordBelow_30 : decode cX11_isWordBelow 30 = .ok (.lload_n 0, 1) := by decide +kernel
theorem dX11_isWordBelow_31 : decode cX11_isWordBelow 31 = .ok (.iload 5, 2) := by decide +kernel
theorem dX11_isWordBelow_33 : decode cX11_isWordBelow 33 = .ok (.invokestatic 119, 3) := by decide +kernel
theorem dX11_isWordBelow_36 : decode cX11_isWordBelow 36 = .ok (.lload_n 2, 1) := by decide +kernel
theorem dX11_isWordBelow_37 : decode cX11_isWordBelow 37 = .ok (.iload 6, 2) := by decide +kernel
theorem dX11_isWordBelow_39 : decode cX11_isWordBelow 39 = .ok (.invokestatic 119, 3) := by decide +kernel
theorem dX11_isWordBelow_42 : decode cX11_isWordBelow 42 = .ok (.if_icmp .ne 7, 3) := by decide +kernel
theorem dX11_isWordBelow_45 : decode cX11_isWordBelow 45 = .ok (.iconst 1, 1) := by decide +kernel
theorem dX11_isWordBelow_46 : decode cX11_isWordBelow 46 = .ok (.goto 4, 3) := by decide +kernel
theorem dX11_isWordBelow_49 : decode cX11_isWordBelow 49 = .ok (.iconst 0, 1) := by decide +kernel
theorem dX11_isWordBelow_50 : decode cX11_isWordBelow 50 = .ok (.iadd, 1) := by decide +kernel
theorem dX11_isWordBelow_51 : decode cX11_isWordBelow 51 = .ok (.istore 5, 2) := by decide +kernel
theorem dX11_isWordBelow_53 : decode cX11_isWordBelow 53 = .ok (.iinc 6 1, 3) := by decide +kernel
theorem dX11_isWordBelow_56 : decode cX11_isWordBelow 56 = .ok (.goto (-44), 3) := by decide +kernel
theorem dX11_isWordBelow_59 : decode cX11_isWordBelow 59 = .ok (.iload 5, 2) := by decide +kernel
theorem dX11_isWordBelow_61 : decode cX11_isWordBelow 61 = .ok (.iload 4, 2) := by decide +kernel
theorem dX11_isWordBelow_63 : decode cX11_isWordBelow 63 = .ok (.if_icmp .ne 7, 3) := by decide +kernel
theorem dX11_isWordBelow_66 : decode cX11_isWordBelow 66 = .ok (.iconst 1, 1) := by decide +kernel
theorem dX11_isWordBelow_67 : decode cX11_isWordBelow 67 = .ok (.goto 4, 3) := by decide +kernel
theorem dX11_isWordBelow_70 : decode cX11_isWordBelow 70 = .ok (.iconst 0, 1) := by decide +kernel
theorem dX11_isWordBelow_71 : decode cX11_isWordBelow 71 = .ok (.ireturn, 1) := by decide +kernel
theorem dX11_placeOf_0 : decode cX11_placeOf 0 = .ok (.iconst 0, 1) := by decide +kernel
theorem dX11_placeOf_1 : decode cX11_placeOf 1 = .ok (.istore_n 3, 1) := by decide +kernel
theorem dX11_placeOf_2 : decode cX11_placeOf 2 = .ok (.iload_n 3, 1) := by decide +kernel
theorem dX11_placeOf_3 : decode cX11_placeOf 3 = .ok (.lload_n 0, 1) := by decide +kernel
theorem dX11_placeOf_4 : decode cX11_placeOf 4 = .ok (.invokestatic 111, 3) := by decide +kernel
theorem dX11_placeOf_7 : decode cX11_placeOf 7 = .ok (.if_icmp .ge 18, 3) := by decide +kernel
theorem dX11_placeOf_10 : decode cX11_placeOf 10 = .ok (.lload_n 0, 1) := by decide +kernel
theorem dX11_placeOf_11 : decode cX11_placeOf 11 = .ok (.iload_n 3, 1) := by decide +kernel
theorem dX11_placeOf_12 : decode cX11_placeOf 12 = .ok (.invokestatic 119, 3) := by decide +kernel
theorem dX11_placeOf_15 : decode cX11_placeOf 15 = .ok (.iload_n 2, 1) := by decide +kernel
theorem dX11_placeOf_16 : decode cX11_placeOf 16 = .ok (.if_icmp .eq 9, 3) := by decide +kernel
theorem dX11_placeOf_19 : decode cX11_placeOf 19 = .ok (.iinc 3 1, 3) := by decide +kernel
theorem dX11_placeOf_22 : decode cX11_placeOf 22 = .ok (.goto (-20), 3) := by decide +kernel
theorem dX11_placeOf_25 : decode cX11_placeOf 25 = .ok (.iload_n 3, 1) := by decide +kernel
theorem dX11_placeOf_26 : decode cX11_placeOf 26 = .ok (.ireturn, 1) := by decide +kernel
theorem dX11_behind_0 : decode cX11_behind 0 = .ok (.lload_n 0, 1) := by decide +kernel
theorem dX11_behind_1 : decode cX11_behind 1 = .ok (.lload_n 0, 1) := by decide +kernel
theorem dX11_behind_2 : decode cX11_behind 2 = .ok (.invokestatic 111, 3) := by decide +kernel
theorem dX11_behind_5 : decode cX11_behind 5 = .ok (.iload_n 2, 1) := by decide +kernel
theorem dX11_behind_6 : decode cX11_behind 6 = .ok (.isub, 1) := by decide +kernel
theorem dX11_behind_7 : decode cX11_behind 7 = .ok (.invokestatic 115, 3) := by decide +kernel
theorem dX11_behind_10 : decode cX11_behind 10 = .ok (.lrem, 1) := by decide +kernel
theorem dX11_behind_11 : decode cX11_behind 11 = .ok (.lreturn, 1) := by decide +kernel
theorem dX11_partOf_0 : decode cX11_partOf 0 = .ok (.aload_n 0, 1) := by decide +kernel
theorem dX11_partOf_1 : decode cX11_partOf 1 = .ok (.getfield 7, 3) := by decide +kernel
theorem dX11_partOf_4 : decode cX11_partOf 4 = .ok (.iconst 5, 1) := by decide +kernel
theorem dX11_partOf_5 : decode cX11_partOf 5 = .ok (.iload_n 1, 1) := by decide +kernel
theorem dX11_partOf_6 : decode cX11_partOf 6 = .ok (.imul, 1) := by decide +kernel
theorem dX11_partOf_7 : decode cX11_partOf 7 = .ok (.iload_n 2, 1) := by decide +kernel
theorem dX11_partOf_8 : decode cX11_partOf 8 = .ok (.iadd, 1) := by decide +kernel
theorem dX11_partOf_9 : decode cX11_partOf 9 = .ok (.iaload, 1) := by decide +kernel
theorem dX11_partOf_10 : decode cX11_partOf 10 = .ok (.ireturn, 1) := by decide +kernel
theorem dX11_isTransition_0 : decode cX11_isTransition 0 = .ok (.iload_n 1, 1) := by decide +kernel
theorem dX11_isTransition_1 : decode cX11_isTransition 1 = .ok (.ifCond .lt 15, 3) := by decide +kernel
theorem dX11_isTransition_4 : decode cX11_isTransition 4 = .ok (.iload_n 1, 1) := by decide +kernel
theorem dX11_isTransition_5 : decode cX11_isTransition 5 = .ok (.aload_n 0, 1) := by decide +kernel
theorem dX11_isTransition_6 : decode cX11_isTransition 6 = .ok (.getfield 123, 3) := by decide +kernel
theorem dX11_isTransition_9 : decode cX11_isTransition 9 = .ok (.if_icmp .ge 7, 3) := by decide +kernel
theorem dX11_isTransition_12 : decode cX11_isTransition 12 = .ok (.iconst 1, 1) := by decide +kernel
theorem dX11_isTransition_13 : decode cX11_isTransition 13 = .ok (.goto 4, 3) := by decide +kernel
theorem dX11_isTransition_16 : decode cX11_isTransition 16 = .ok (.iconst 0, 1) := by decide +kernel
theorem dX11_isTransition_17 : decode cX11_isTransition 17 = .ok (.ireturn, 1) := by decide +kernel
theorem dX11_isState_0 : decode cX11_isState 0 = .ok (.iload_n 0, 1) := by decide +kernel
theorem dX11_isState_1 : decode cX11_isState 1 = .ok (.ifCond .lt 13, 3) := by decide +kernel
theorem dX11_isState_4 : decode cX11_isState 4 = .ok (.iload_n 0, 1) := by decide +kernel
theorem dX11_isState_5 : decode cX11_isState 5 = .ok (.bipush 6, 2) := by decide +kernel
theorem dX11_isState_7 : decode cX11_isState 7 = .ok (.if_icmp .ge 7, 3) := by decide +kernel
theorem dX11_isState_10 : decode cX11_isState 10 = .ok (.iconst 1, 1) := by decide +kernel
theorem dX11_isState_11 : decode cX11_isState 11 = .ok (.goto 4, 3) := by decide +kernel
theorem dX11_isState_14 : decode cX11_isState 14 = .ok (.iconst 0, 1) := by decide +kernel
theorem dX11_isState_15 : decode cX11_isState 15 = .ok (.ireturn, 1) := by decide +kernel
theorem dX11_isChannel_0 : decode cX11_isChannel 0 = .ok (.iload_n 0, 1) := by decide +kernel
theorem dX11_isChannel_1 : decode cX11_isChannel 1 = .ok (.ifCond .eq 8, 3) := by decide +kernel
theorem dX11_isChannel_4 : decode cX11_isChannel 4 = .ok (.iload_n 0, 1) := by decide +kernel
theorem dX11_isChannel_5 : decode cX11_isChannel 5 = .ok (.iconst 1, 1) := by decide +kernel
theorem dX11_isChannel_6 : decode cX11_isChannel 6 = .ok (.if_icmp .ne 7, 3) := by decide +kernel
theorem dX11_isChannel_9 : decode cX11_isChannel 9 = .ok (.iconst 1, 1) := by decide +kernel
theorem dX11_isChannel_10 : decode cX11_isChannel 10 = .ok (.goto 4, 3) := by decide +kernel
theorem dX11_isChannel_13 : decode cX11_isChannel 13 = .ok (.iconst 0, 1) := by decide +kernel
theorem dX11_isChannel_14 : decode cX11_isChannel 14 = .ok (.ireturn, 1) := by decide +kernel
theorem dX11_isLetter_0 : decode cX11_isLetter 0 = .ok (.iload_n 0, 1) := by decide +kernel
theorem dX11_isLetter_1 : decode cX11_isLetter 1 = .ok (.ifCond .lt 12, 3) := by decide +kernel
theorem dX11_isLetter_4 : decode cX11_isLetter 4 = .ok (.iload_n 0, 1) := by decide +kernel
theorem dX11_isLetter_5 : decode cX11_isLetter 5 = .ok (.iconst 3, 1) := by decide +kernel
theorem dX11_isLetter_6 : decode cX11_isLetter 6 = .ok (.if_icmp .ge 7, 3) := by decide +kernel
theorem dX11_isLetter_9 : decode cX11_isLetter 9 = .ok (.iconst 1, 1) := by decide +kernel
theorem dX11_isLetter_10 : decode cX11_isLetter 10 = .ok (.goto 4, 3) := by decide +kernel
theorem dX11_isLetter_13 : decode cX11_isLetter 13 = .ok (.iconst 0, 1) := by decide +kernel
theorem dX11_isLetter_14 : decode cX11_isLetter 14 = .ok (.ireturn, 1) := by decide +kernel
theorem dX11_adds_0 : decode cX11_adds 0 = .ok (.iconst 5, 1) := by decide +kernel
theorem dX11_adds_1 : decode cX11_adds 1 = .ok (.aload_n 0, 1) := by decide +kernel
theorem dX11_adds_2 : decode cX11_adds 2 = .ok (.getfield 123, 3) := by decide +kernel
theorem dX11_adds_5 : decode cX11_adds 5 = .ok (.imul, 1) := by decide +kernel
theorem dX11_adds_6 : decode cX11_adds 6 = .ok (.istore 6, 2) := by decide +kernel
theorem dX11_adds_8 : decode cX11_adds 8 = .ok (.aload_n 0, 1) := by decide +kernel
theorem dX11_adds_9 : decode cX11_adds 9 = .ok (.getfield 7, 3) := by decide +kernel
theorem dX11_adds_12 : decode cX11_adds 12 = .ok (.iload 6, 2) := by decide +kernel
theorem dX11_adds_14 : decode cX11_adds 14 = .ok (.iload_n 1, 1) := by decide +kernel
theorem dX11_adds_15 : decode cX11_adds 15 = .ok (.iastore, 1) := by decide +kernel
theorem dX11_adds_16 : decode cX11_adds 16 = .ok (.aload_n 0, 1) := by decide +kernel
theorem dX11_adds_17 : decode cX11_adds 17 = .ok (.getfield 7, 3) := by decide +kernel
theorem dX11_adds_20 : decode cX11_adds 20 = .ok (.iload 6, 2) := by decide +kernel
theorem dX11_adds_22 : decode cX11_adds 22 = .ok (.iconst 1, 1) := by decide +kernel
theorem dX11_adds_23 : decode cX11_adds 23 = .ok (.iadd, 1) := by decide +kernel
theorem dX11_adds_24 : decode cX11_adds 24 = .ok (.iload_n 2, 1) := by decide +kernel
theorem dX11_adds_25 : decode cX11_adds 25 = .ok (.iastore, 1) := by decide +kernel
theorem dX11_adds_26 : decode cX11_adds 26 = .ok (.aload_n 0, 1) := by decide +kernel
theorem dX11_adds_27 : decode cX11_adds 27 = .ok (.getfield 7, 3) := by decide +kernel
theorem dX11_adds_30 : decode cX11_adds 30 = .ok (.iload 6, 2) := by decide +kernel
theorem dX11_adds_32 : decode cX11_adds 32 = .ok (.iconst 2, 1) := by decide +kernel
theorem dX11_adds_33 : decode cX11_adds 33 = .ok (.iadd, 1) := by decide +kernel
theorem dX11_adds_34 : decode cX11_adds 34 = .ok (.iload_n 3, 1) := by decide +kernel
theorem dX11_adds_35 : decode cX11_adds 35 = .ok (.iastore, 1) := by decide +kernel
theorem dX11_adds_36 : decode cX11_adds 36 = .ok (.aload_n 0, 1) := by decide +kernel
theorem dX11_adds_37 : decode cX11_adds 37 = .ok (.getfield 7, 3) := by decide +kernel
theorem dX11_adds_40 : decode cX11_adds 40 = .ok (.iload 6, 2) := by decide +kernel
theorem dX11_adds_42 : decode cX11_adds 42 = .ok (.iconst 3, 1) := by decide +kernel
theorem dX11_adds_43 : decode cX11_adds 43 = .ok (.iadd, 1) := by decide +kernel
theorem dX11_adds_44 : decode cX11_adds 44 = .ok (.iload_n 3, 1) := by decide +kernel
theorem dX11_adds_45 : decode cX11_adds 45 = .ok (.ifCond .ne 7, 3) := by decide +kernel
theorem dX11_adds_48 : decode cX11_adds 48 = .ok (.iconst (-1), 1) := by decide +kernel
theorem dX11_adds_49 : decode cX11_adds 49 = .ok (.goto 5, 3) := by decide +kernel
theorem dX11_adds_52 : decode cX11_adds 52 = .ok (.iload 4, 2) := by decide +kernel
theorem dX11_adds_54 : decode cX11_adds 54 = .ok (.iastore, 1) := by decide +kernel
theorem dX11_adds_55 : decode cX11_adds 55 = .ok (.aload_n 0, 1) := by decide +kernel
theorem dX11_adds_56 : decode cX11_adds 56 = .ok (.getfield 7, 3) := by decide +kernel
theorem dX11_adds_59 : decode cX11_adds 59 = .ok (.iload 6, 2) := by decide +kernel
theorem dX11_adds_61 : decode cX11_adds 61 = .ok (.iconst 4, 1) := by decide +kernel
theorem dX11_adds_62 : decode cX11_adds 62 = .ok (.iadd, 1) := by decide +kernel
theorem dX11_adds_63 : decode cX11_adds 63 = .ok (.iload_n 3, 1) := by decide +kernel
theorem dX11_adds_64 : decode cX11_adds 64 = .ok (.ifCond .ne 7, 3) := by decide +kernel
theorem dX11_adds_67 : decode cX11_adds 67 = .ok (.iconst (-1), 1) := by decide +kernel
theorem dX11_adds_68 : decode cX11_adds 68 = .ok (.goto 5, 3) := by decide +kernel
theorem dX11_adds_71 : decode cX11_adds 71 = .ok (.iload 5, 2) := by decide +kernel
theorem dX11_adds_73 : decode cX11_adds 73 = .ok (.iastore, 1) := by decide +kernel
theorem dX11_adds_74 : decode cX11_adds 74 = .ok (.aload_n 0, 1) := by decide +kernel
theorem dX11_adds_75 : decode cX11_adds 75 = .ok (.dup, 1) := by decide +kernel
theorem dX11_adds_76 : decode cX11_adds 76 = .ok (.getfield 123, 3) := by decide +kernel
theorem dX11_adds_79 : decode cX11_adds 79 = .ok (.iconst 1, 1) := by decide +kernel
theorem dX11_adds_80 : decode cX11_adds 80 = .ok (.iadd, 1) := by decide +kernel
theorem dX11_adds_81 : decode cX11_adds 81 = .ok (.putfield 123, 3) := by decide +kernel
theorem dX11_adds_84 : decode cX11_adds 84 = .ok (.aload_n 0, 1) := by decide +kernel
theorem dX11_adds_85 : decode cX11_adds 85 = .ok (.iconst 0, 1) := by decide +kernel
theorem dX11_adds_86 : decode cX11_adds 86 = .ok (.putfield 126, 3) := by decide +kernel
theorem dX11_adds_89 : decode cX11_adds 89 = .ok (.return_, 1) := by decide +kernel
theorem dX11_addTransition_0 : decode cX11_addTransition 0 = .ok (.iload_n 1, 1) := by decide +kernel
theorem dX11_addTransition_1 : decode cX11_addTransition 1 = .ok (.invokestatic 130, 3) := by decide +kernel
theorem dX11_addTransition_4 : decode cX11_addTransition 4 = .ok (.ifCond .eq 39, 3) := by decide +kernel
theorem dX11_addTransition_7 : decode cX11_addTransition 7 = .ok (.iload_n 2, 1) := by decide +kernel
theorem dX11_addTransition_8 : decode cX11_addTransition 8 = .ok (.invokestatic 130, 3) := by decide +kernel
theorem dX11_addTransition_11 : decode cX11_addTransition 11 = .ok (.ifCond .eq 32, 3) := by decide +kernel
theorem dX11_addTransition_14 : decode cX11_addTransition 14 = .ok (.iload_n 3, 1) := by decide +kernel
theorem dX11_addTransition_15 : decode cX11_addTransition 15 = .ok (.iconst 0, 1) := by decide +kernel
theorem dX11_addTransition_16 : decode cX11_addTransition 16 = .ok (.iconst 2, 1) := by decide +kernel
theorem dX11_addTransition_17 : decode cX11_addTransition 17 = .ok (.invokestatic 134, 3) := by decide +kernel
theorem dX11_addTransition_20 : decode cX11_addTransition 20 = .ok (.ifCond .eq 23, 3) := by decide +kernel
theorem dX11_addTransition_23 : decode cX11_addTransition 23 = .ok (.iload_n 3, 1) := by decide +kernel
theorem dX11_addTransition_24 : decode cX11_addTransition 24 = .ok (.ifCond .eq 25, 3) := by decide +kernel
theorem dX11_addTransition_27 : decode cX11_addTransition 27 = .ok (.iload 4, 2) := by decide +kernel
theorem dX11_addTransition_29 : decode cX11_addTransition 29 = .ok (.invokestatic 138, 3) := by decide +kernel
theorem dX11_addTransition_32 : decode cX11_addTransition 32 = .ok (.ifCond .eq 11, 3) := by decide +kernel
theorem dX11_addTransition_35 : decode cX11_addTransition 35 = .ok (.iload 5, 2) := by decide +kernel
theorem dX11_addTransition_37 : decode cX11_addTransition 37 = .ok (.invokestatic 141, 3) := by decide +kernel
theorem dX11_addTransition_40 : decode cX11_addTransition 40 = .ok (.ifCond .ne 9, 3) := by decide +kernel
theorem dX11_addTransition_43 : decode cX11_addTransition 43 = .ok (.aload_n 0, 1) := by decide +kernel
theorem dX11_addTransition_44 : decode cX11_addTransition 44 = .ok (.iconst 1, 1) := by decide +kernel
theorem dX11_addTransition_45 : decode cX11_addTransition 45 = .ok (.invokevirtual 144, 3) := by decide +kernel
theorem dX11_addTransition_48 : decode cX11_addTransition 48 = .ok (.ireturn, 1) := by decide +kernel
theorem dX11_addTransition_49 : decode cX11_addTransition 49 = .ok (.aload_n 0, 1) := by decide +kernel
theorem dX11_addTransition_50 : decode cX11_addTransition 50 = .ok (.getfield 123, 3) := by decide +kernel
theorem dX11_addTransition_53 : decode cX11_addTransition 53 = .ok (.bipush 10, 2) := by decide +kernel
theorem dX11_addTransition_55 : decode cX11_addTransition 55 = .ok (.if_icmp .ne 9, 3) := by decide +kernel
theorem dX11_addTransition_58 : decode cX11_addTransition 58 = .ok (.aload_n 0, 1) := by decide +kernel
theorem dX11_addTransition_59 : decode cX11_addTransition 59 = .ok (.iconst 2, 1) := by decide +kernel
theorem dX11_addTransition_60 : decode cX11_addTransition 60 = .ok (.invokevirtual 144, 3) := by decide +kernel
theorem dX11_addTransition_63 : decode cX11_addTransition 63 = .ok (.ireturn, 1) := by decide +kernel
theorem dX11_addTransition_64 : decode cX11_addTransition 64 = .ok (.aload_n 0, 1) := by decide +kernel
theorem dX11_addTransition_65 : decode cX11_addTransition 65 = .ok (.iconst 0, 1) := by decide +kernel
theorem dX11_addTransition_66 : decode cX11_addTransition 66 = .ok (.putfield 106, 3) := by decide +kernel
theorem dX11_addTransition_69 : decode cX11_addTransition 69 = .ok (.aload_n 0, 1) := by decide +kernel
theorem dX11_addTransition_70 : decode cX11_addTransition 70 = .ok (.iload_n 1, 1) := by decide +kernel
theorem dX11_addTransition_71 : decode cX11_addTransition 71 = .ok (.iload_n 2, 1) := by decide +kernel
theorem dX11_addTransition_72 : decode cX11_addTransition 72 = .ok (.iload_n 3, 1) := by decide +kernel
theorem dX11_addTransition_73 : decode cX11_addTransition 73 = .ok (.iload 4, 2) := by decide +kernel
theorem dX11_addTransition_75 : decode cX11_addTransition 75 = .ok (.iload 5, 2) := by decide +kernel
theorem dX11_addTransition_77 : decode cX11_addTransition 77 = .ok (.invokevirtual 148, 3) := by decide +kernel
theorem dX11_addTransition_80 : decode cX11_addTransition 80 = .ok (.aload_n 0, 1) := by decide +kernel
theorem dX11_addTransition_81 : decode cX11_addTransition 81 = .ok (.getfield 123, 3) := by decide +kernel
theorem dX11_addTransition_84 : decode cX11_addTransition 84 = .ok (.iconst 1, 1) := by decide +kernel
theorem dX11_addTransition_85 : decode cX11_addTransition 85 = .ok (.isub, 1) := by decide +kernel
theorem dX11_addTransition_86 : decode cX11_addTransition 86 = .ok (.ireturn, 1) := by decide +kernel
theorem dX11_removeTransition_0 : decode cX11_removeTransition 0 = .ok (.aload_n 0, 1) := by decide +kernel
theorem dX11_removeTransition_1 : decode cX11_removeTransition 1 = .ok (.iload_n 1, 1) := by decide +kernel
theorem dX11_removeTransition_2 : decode cX11_removeTransition 2 = .ok (.invokevirtual 152, 3) := by decide +kernel
theorem dX11_removeTransition_5 : decode cX11_removeTransition 5 = .ok (.ifCond .ne 9, 3) := by decide +kernel
theorem dX11_removeTransition_8 : decode cX11_removeTransition 8 = .ok (.aload_n 0, 1) := by decide +kernel
theorem dX11_removeTransition_9 : decode cX11_removeTransition 9 = .ok (.iconst 1, 1) := by decide +kernel
theorem dX11_removeTransition_10 : decode cX11_removeTransition 10 = .ok (.invokevirtual 144, 3) := by decide +kernel
theorem dX11_removeTransition_13 : decode cX11_removeTransition 13 = .ok (.ireturn, 1) := by decide +kernel
theorem dX11_removeTransition_14 : decode cX11_removeTransition 14 = .ok (.aload_n 0, 1) := by decide +kernel
theorem dX11_removeTransition_15 : decode cX11_removeTransition 15 = .ok (.iconst 0, 1) := by decide +kernel
theorem dX11_removeTransition_16 : decode cX11_removeTransition 16 = .ok (.putfield 106, 3) := by decide +kernel
theorem dX11_removeTransition_19 : decode cX11_removeTransition 19 = .ok (.aload_n 0, 1) := by decide +kernel
theorem dX11_removeTransition_20 : decode cX11_removeTransition 20 = .ok (.dup, 1) := by decide +kernel
theorem dX11_removeTransition_21 : decode cX11_removeTransition 21 = .ok (.getfield 123, 3) := by decide +kernel
theorem dX11_removeTransition_24 : decode cX11_removeTransition 24 = .ok (.iconst 1, 1) := by decide +kernel
theorem dX11_removeTransition_25 : decode cX11_removeTransition 25 = .ok (.isub, 1) := by decide +kernel
theorem dX11_removeTransition_26 : decode cX11_removeTransition 26 = .ok (.putfield 123, 3) := by decide +kernel
theorem dX11_removeTransition_29 : decode cX11_removeTransition 29 = .ok (.iconst 5, 1) := by decide +kernel
theorem dX11_removeTransition_30 : decode cX11_removeTransition 30 = .ok (.iload_n 1, 1) := by decide +kernel
theorem dX11_removeTransition_31 : decode cX11_removeTransition 31 = .ok (.imul, 1) := by decide +kernel
theorem dX11_removeTransition_32 : decode cX11_removeTransition 32 = .ok (.istore_n 2, 1) := by decide +kernel
theorem dX11_removeTransition_33 : decode cX11_removeTransition 33 = .ok (.iload_n 2, 1) := by decide +kernel
theorem dX11_removeTransition_34 : decode cX11_removeTransition 34 = .ok (.iconst 5, 1) := by decide +kernel
theorem dX11_removeTransition_35 : decode cX11_removeTransition 35 = .ok (.aload_n 0, 1) := by decide +kernel
theorem dX11_removeTransition_36 : decode cX11_removeTransition 36 = .ok (.getfield 123, 3) := by decide +kernel
theorem dX11_removeTransition_39 : decode cX11_removeTransition 39 = .ok (.imul, 1) := by decide +kernel
theorem dX11_removeTransition_40 : decode cX11_removeTransition 40 = .ok (.if_icmp .ge 23, 3) := by decide +kernel
theorem dX11_removeTransition_43 : decode cX11_removeTransition 43 = .ok (.aload_n 0, 1) := by decide +kernel
theorem dX11_removeTransition_44 : decode cX11_removeTransition 44 = .ok (.getfield 7, 3) := by decide +kernel
theorem dX11_removeTransition_47 : decode cX11_removeTransition 47 = .ok (.iload_n 2, 1) := by decide +kernel
theorem dX11_removeTransition_48 : decode cX11_removeTransition 48 = .ok (.aload_n 0, 1) := by decide +kernel
theorem dX11_removeTransition_49 : decode cX11_removeTransition 49 = .ok (.getfield 7, 3) := by decide +kernel
theorem dX11_removeTransition_52 : decode cX11_removeTransition 52 = .ok (.iload_n 2, 1) := by decide +kernel
theorem dX11_removeTransition_53 : decode cX11_removeTransition 53 = .ok (.iconst 5, 1) := by decide +kernel
theorem dX11_removeTransition_54 : decode cX11_removeTransition 54 = .ok (.iadd, 1) := by decide +kernel
theorem dX11_removeTransition_55 : decode cX11_removeTransition 55 = .ok (.iaload, 1) := by decide +kernel
theorem dX11_removeTransition_56 : decode cX11_removeTransition 56 = .ok (.iastore, 1) := by decide +kernel
theorem dX11_removeTransition_57 : decode cX11_removeTransition 57 = .ok (.iinc 2 1, 3) := by decide +kernel
theorem dX11_removeTransition_60 : decode cX11_removeTransition 60 = .ok (.goto (-27), 3) := by decide +kernel
theorem dX11_removeTransition_63 : decode cX11_removeTransition 63 = .ok (.aload_n 0, 1) := by decide +kernel
theorem dX11_removeTransition_64 : decode cX11_removeTransition 64 = .ok (.iconst 0, 1) := by decide +kernel
theorem dX11_removeTransition_65 : decode cX11_removeTransition 65 = .ok (.putfield 126, 3) := by decide +kernel
theorem dX11_removeTransition_68 : decode cX11_removeTransition 68 = .ok (.aload_n 0, 1) := by decide +kernel
theorem dX11_removeTransition_69 : decode cX11_removeTransition 69 = .ok (.getfield 123, 3) := by decide +kernel
theorem dX11_removeTransition_72 : decode cX11_removeTransition 72 = .ok (.ireturn, 1) := by decide +kernel
theorem dX11_transition_0 : decode cX11_transition 0 = .ok (.aload_n 0, 1) := by decide +kernel
theorem dX11_transition_1 : decode cX11_transition 1 = .ok (.iload_n 1, 1) := by decide +kernel
theorem dX11_transition_2 : decode cX11_transition 2 = .ok (.invokevirtual 152, 3) := by decide +kernel
theorem dX11_transition_5 : decode cX11_transition 5 = .ok (.ifCond .ne 9, 3) := by decide +kernel
theorem dX11_transition_8 : decode cX11_transition 8 = .ok (.aload_n 0, 1) := by decide +kernel
theorem dX11_transition_9 : decode cX11_transition 9 = .ok (.iconst 1, 1) := by decide +kernel
theorem dX11_transition_10 : decode cX11_transition 10 = .ok (.invokevirtual 144, 3) := by decide +kernel
theorem dX11_transition_13 : decode cX11_transition 13 = .ok (.ireturn, 1) := by decide +kernel
theorem dX11_transition_14 : decode cX11_transition 14 = .ok (.iload_n 2, 1) := by decide +kernel
theorem dX11_transition_15 : decode cX11_transition 15 = .ok (.iconst 0, 1) := by decide +kernel
theorem dX11_transition_16 : decode cX11_transition 16 = .ok (.iconst 4, 1) := by decide +kernel
theorem dX11_transition_17 : decode cX11_transition 17 = .ok (.invokestatic 134, 3) := by decide +kernel
theorem dX11_transition_20 : decode cX11_transition 20 = .ok (.ifCond .ne 9, 3) := by decide +kernel
theorem dX11_transition_23 : decode cX11_transition 23 = .ok (.aload_n 0, 1) := by decide +kernel
theorem dX11_transition_24 : decode cX11_transition 24 = .ok (.iconst 2, 1) := by decide +kernel
theorem dX11_transition_25 : decode cX11_transition 25 = .ok (.invokevirtual 144, 3) := by decide +kernel
theorem dX11_transition_28 : decode cX11_transition 28 = .ok (.ireturn, 1) := by decide +kernel
theorem dX11_transition_29 : decode cX11_transition 29 = .ok (.aload_n 0, 1) := by decide +kernel
theorem dX11_transition_30 : decode cX11_transition 30 = .ok (.iconst 0, 1) := by decide +kernel
theorem dX11_transition_31 : decode cX11_transition 31 = .ok (.putfield 106, 3) := by decide +kernel
theorem dX11_transition_34 : decode cX11_transition 34 = .ok (.aload_n 0, 1) := by decide +kernel
theorem dX11_transition_35 : decode cX11_transition 35 = .ok (.iload_n 1, 1) := by decide +kernel
theorem dX11_transition_36 : decode cX11_transition 36 = .ok (.iload_n 2, 1) := by decide +kernel
theorem dX11_transition_37 : decode cX11_transition 37 = .ok (.invokevirtual 155, 3) := by decide +kernel
theorem dX11_transition_40 : decode cX11_transition 40 = .ok (.ireturn, 1) := by decide +kernel
theorem dX11_transitionCount_0 : decode cX11_transitionCount 0 = .ok (.aload_n 0, 1) := by decide +kernel
theorem dX11_transitionCount_1 : decode cX11_transitionCount 1 = .ok (.iconst 0, 1) := by decide +kernel
theorem dX11_transitionCount_2 : decode cX11_transitionCount 2 = .ok (.putfield 106, 3) := by decide +kernel
theorem dX11_transitionCount_5 : decode cX11_transitionCount 5 = .ok (.aload_n 0, 1) := by decide +kernel
theorem dX11_transitionCount_6 : decode cX11_transitionCount 6 = .ok (.getfield 123, 3) := by decide +kernel
theorem dX11_transitionCount_9 : decode cX11_transitionCount 9 = .ok (.ireturn, 1) := by decide +kernel
theorem dX11_wordOf_0 : decode cX11_wordOf 0 = .ok (.iload_n 1, 1) := by decide +kernel
theorem dX11_wordOf_1 : decode cX11_wordOf 1 = .ok (.ifCond .ne 10, 3) := by decide +kernel
theorem dX11_wordOf_4 : decode cX11_wordOf 4 = .ok (.aload_n 0, 1) := by decide +kernel
theorem dX11_wordOf_5 : decode cX11_wordOf 5 = .ok (.getfield 159, 3) := by decide +kernel
theorem dX11_wordOf_8 : decode cX11_wordOf 8 = .ok (.goto 7, 3) := by decide +kernel
theorem dX11_wordOf_11 : decode cX11_wordOf 11 = .ok (.aload_n 0, 1) := by decide +kernel
theorem dX11_wordOf_12 : decode cX11_wordOf 12 = .ok (.getfield 163, 3) := by decide +kernel
theorem dX11_wordOf_15 : decode cX11_wordOf 15 = .ok (.lreturn, 1) := by decide +kernel
theorem dX11_setsWord_0 : decode cX11_setsWord 0 = .ok (.iload_n 1, 1) := by decide +kernel
theorem dX11_setsWord_1 : decode cX11_setsWord 1 = .ok (.ifCond .ne 11, 3) := by decide +kernel
theorem dX11_setsWord_4 : decode cX11_setsWord 4 = .ok (.aload_n 0, 1) := by decide +kernel
theorem dX11_setsWord_5 : decode cX11_setsWord 5 = .ok (.lload_n 2, 1) := by decide +kernel
theorem dX11_setsWord_6 : decode cX11_setsWord 6 = .ok (.putfield 159, 3) := by decide +kernel
theorem dX11_setsWord_9 : decode cX11_setsWord 9 = .ok (.goto 8, 3) := by decide +kernel
theorem dX11_setsWord_12 : decode cX11_setsWord 12 = .ok (.aload_n 0, 1) := by decide +kernel
theorem dX11_setsWord_13 : decode cX11_setsWord 13 = .ok (.lload_n 2, 1) := by decide +kernel
theorem dX11_setsWord_14 : decode cX11_setsWord 14 = .ok (.putfield 163, 3) := by decide +kernel
theorem dX11_setsWord_17 : decode cX11_setsWord 17 = .ok (.return_, 1) := by decide +kernel
theorem dX11_remembers_0 : decode cX11_remembers 0 = .ok (.aload_n 0, 1) := by decide +kernel
theorem dX11_remembers_1 : decode cX11_remembers 1 = .ok (.getfield 166, 3) := by decide +kernel
theorem dX11_remembers_4 : decode cX11_remembers 4 = .ok (.bipush 20, 2) := by decide +kernel
theorem dX11_remembers_6 : decode cX11_remembers 6 = .ok (.if_icmp .ne 83, 3) := by decide +kernel
theorem dX11_remembers_9 : decode cX11_remembers 9 = .ok (.iconst 1, 1) := by decide +kernel
theorem dX11_remembers_10 : decode cX11_remembers 10 = .ok (.istore_n 2, 1) := by decide +kernel
theorem dX11_remembers_11 : decode cX11_remembers 11 = .ok (.iload_n 2, 1) := by decide +kernel
theorem dX11_remembers_12 : decode cX11_remembers 12 = .ok (.bipush 20, 2) := by decide +kernel
theorem dX11_remembers_14 : decode cX11_remembers 14 = .ok (.if_icmp .ge 65, 3) := by decide +kernel
theorem dX11_remembers_17 : decode cX11_remembers 17 = .ok (.aload_n 0, 1) := by decide +kernel
theorem dX11_remembers_18 : decode cX11_remembers 18 = .ok (.getfield 13, 3) := by decide +kernel
theorem dX11_remembers_21 : decode cX11_remembers 21 = .ok (.iload_n 2, 1) := by decide +kernel
theorem dX11_remembers_22 : decode cX11_remembers 22 = .ok (.iconst 1, 1) := by decide +kernel
theorem dX11_remembers_23 : decode cX11_remembers 23 = .ok (.isub, 1) := by decide +kernel
theorem dX11_remembers_24 : decode cX11_remembers 24 = .ok (.aload_n 0, 1) := by decide +kernel
theorem dX11_remembers_25 : decode cX11_remembers 25 = .ok (.getfield 13, 3) := by decide +kernel
theorem dX11_remembers_28 : decode cX11_remembers 28 = .ok (.iload_n 2, 1) := by decide +kernel
theorem dX11_remembers_29 : decode cX11_remembers 29 = .ok (.iaload, 1) := by decide +kernel
theorem dX11_remembers_30 : decode cX11_remembers 30 = .ok (.iastore, 1) := by decide +kernel
theorem dX11_remembers_31 : decode cX11_remembers 31 = .ok (.aload_n 0, 1) := by decide +kernel
theorem dX11_remembers_32 : decode cX11_remembers 32 = .ok (.getfield 19, 3) := by decide +kernel
theorem dX11_remembers_35 : decode cX11_remembers 35 = .ok (.iload_n 2, 1) := by decide +kernel
theorem dX11_remembers_36 : decode cX11_remembers 36 = .ok (.iconst 1, 1) := by decide +kernel
theorem dX11_remembers_37 : decode cX11_remembers 37 = .ok (.isub, 1) := by decide +kernel
theorem dX11_remembers_38 : decode cX11_remembers 38 = .ok (.aload_n 0, 1) := by decide +kernel
theorem dX11_remembers_39 : decode cX11_remembers 39 = .ok (.getfield 19, 3) := by decide +kernel
theorem dX11_remembers_42 : decode cX11_remembers 42 = .ok (.iload_n 2, 1) := by decide +kernel
theorem dX11_remembers_43 : decode cX11_remembers 43 = .ok (.laload, 1) := by decide +kernel
theorem dX11_remembers_44 : decode cX11_remembers 44 = .ok (.lastore, 1) := by decide +kernel
theorem dX11_remembers_45 : decode cX11_remembers 45 = .ok (.aload_n 0, 1) := by decide +kernel
theorem dX11_remembers_46 : decode cX11_remembers 46 = .ok (.getfield 23, 3) := by decide +kernel
theorem dX11_remembers_49 : decode cX11_remembers 49 = .ok (.iload_n 2, 1) := by decide +kernel
theorem dX11_remembers_50 : decode cX11_remembers 50 = .ok (.iconst 1, 1) := by decide +kernel
theorem dX11_remembers_51 : decode cX11_remembers 51 = .ok (.isub, 1) := by decide +kernel
theorem dX11_remembers_52 : decode cX11_remembers 52 = .ok (.aload_n 0, 1) := by decide +kernel
theorem dX11_remembers_53 : decode cX11_remembers 53 = .ok (.getfield 23, 3) := by decide +kernel
theorem dX11_remembers_56 : decode cX11_remembers 56 = .ok (.iload_n 2, 1) := by decide +kernel
theorem dX11_remembers_57 : decode cX11_remembers 57 = .ok (.laload, 1) := by decide +kernel
theorem dX11_remembers_58 : decode cX11_remembers 58 = .ok (.lastore, 1) := by decide +kernel
theorem dX11_remembers_59 : decode cX11_remembers 59 = .ok (.aload_n 0, 1) := by decide +kernel
theorem dX11_remembers_60 : decode cX11_remembers 60 = .ok (.getfield 16, 3) := by decide +kernel
theorem dX11_remembers_63 : decode cX11_remembers 63 = .ok (.iload_n 2, 1) := by decide +kernel
theorem dX11_remembers_64 : decode cX11_remembers 64 = .ok (.iconst 1, 1) := by decide +kernel
theorem dX11_remembers_65 : decode cX11_remembers 65 = .ok (.isub, 1) := by decide +kernel
theorem dX11_remembers_66 : decode cX11_remembers 66 = .ok (.aload_n 0, 1) := by decide +kernel
theorem dX11_remembers_67 : decode cX11_remembers 67 = .ok (.getfield 16, 3) := by decide +kernel
theorem dX11_remembers_70 : decode cX11_remembers 70 = .ok (.iload_n 2, 1) := by decide +kernel
theorem dX11_remembers_71 : decode cX11_remembers 71 = .ok (.iaload, 1) := by decide +kernel
theorem dX11_remembers_72 : decode cX11_remembers 72 = .ok (.iastore, 1) := by decide +kernel
theorem dX11_remembers_73 : decode cX11_remembers 73 = .ok (.iinc 2 1, 3) := by decide +kernel
theorem dX11_remembers_76 : decode cX11_remembers 76 = .ok (.goto (-65), 3) := by decide +kernel
theorem dX11_remembers_79 : decode cX11_remembers 79 = .ok (.aload_n 0, 1) := by decide +kernel
theorem dX11_remembers_80 : decode cX11_remembers 80 = .ok (.dup, 1) := by decide +kernel
theorem dX11_remembers_81 : decode cX11_remembers 81 = .ok (.getfield 166, 3) := by decide +kernel
theorem dX11_remembers_84 : decode cX11_remembers 84 = .ok (.iconst 1, 1) := by decide +kernel
theorem dX11_remembers_85 : decode cX11_remembers 85 = .ok (.isub, 1) := by decide +kernel
theorem dX11_remembers_86 : decode cX11_remembers 86 = .ok (.putfield 166, 3) := by decide +kernel
theorem dX11_remembers_89 : decode cX11_remembers 89 = .ok (.aload_n 0, 1) := by decide +kernel
theorem dX11_remembers_90 : decode cX11_remembers 90 = .ok (.getfield 13, 3) := by decide +kernel
theorem dX11_remembers_93 : decode cX11_remembers 93 = .ok (.aload_n 0, 1) := by decide +kernel
theorem dX11_remembers_94 : decode cX11_remembers 94 = .ok (.getfield 166, 3) := by decide +kernel
theorem dX11_remembers_97 : decode cX11_remembers 97 = .ok (.aload_n 0, 1) := by decide +kernel
theorem dX11_remembers_98 : decode cX11_remembers 98 = .ok (.getfield 169, 3) := by decide +kernel
theorem dX11_remembers_101 : decode cX11_remembers 101 = .ok (.iastore, 1) := by decide +kernel
theorem dX11_remembers_102 : decode cX11_remembers 102 = .ok (.aload_n 0, 1) := by decide +kernel
theorem dX11_remembers_103 : decode cX11_remembers 103 = .ok (.getfield 19, 3) := by decide +kernel
theorem dX11_remembers_106 : decode cX11_remembers 106 = .ok (.aload_n 0, 1) := by decide +kernel
theorem dX11_remembers_107 : decode cX11_remembers 107 = .ok (.getfield 166, 3) := by decide +kernel
theorem dX11_remembers_110 : decode cX11_remembers 110 = .ok (.aload_n 0, 1) := by decide +kernel
theorem dX11_remembers_111 : decode cX11_remembers 111 = .ok (.getfield 159, 3) := by decide +kernel
theorem dX11_remembers_114 : decode cX11_remembers 114 = .ok (.lastore, 1) := by decide +kernel
theorem dX11_remembers_115 : decode cX11_remembers 115 = .ok (.aload_n 0, 1) := by decide +kernel
theorem dX11_remembers_116 : decode cX11_remembers 116 = .ok (.getfield 23, 3) := by decide +kernel
theorem dX11_remembers_119 : decode cX11_remembers 119 = .ok (.aload_n 0, 1) := by decide +kernel
theorem dX11_remembers_120 : decode cX11_remembers 120 = .ok (.getfield 166, 3) := by decide +kernel
theorem dX11_remembers_123 : decode cX11_remembers 123 = .ok (.aload_n 0, 1) := by decide +kernel
theorem dX11_remembers_124 : decode cX11_remembers 124 = .ok (.getfield 163, 3) := by decide +kernel
theorem dX11_remembers_127 : decode cX11_remembers 127 = .ok (.lastore, 1) := by decide +kernel
theorem dX11_remembers_128 : decode cX11_remembers 128 = .ok (.aload_n 0, 1) := by decide +kernel
theorem dX11_remembers_129 : decode cX11_remembers 129 = .ok (.getfield 16, 3) := by decide +kernel
theorem dX11_remembers_132 : decode cX11_remembers 132 = .ok (.aload_n 0, 1) := by decide +kernel
theorem dX11_remembers_133 : decode cX11_remembers 133 = .ok (.getfield 166, 3) := by decide +kernel
theorem dX11_remembers_136 : decode cX11_remembers 136 = .ok (.iload_n 1, 1) := by decide +kernel
theorem dX11_remembers_137 : decode cX11_remembers 137 = .ok (.iastore, 1) := by decide +kernel
theorem dX11_remembers_138 : decode cX11_remembers 138 = .ok (.aload_n 0, 1) := by decide +kernel
theorem dX11_remembers_139 : decode cX11_remembers 139 = .ok (.dup, 1) := by decide +kernel
theorem dX11_remembers_140 : decode cX11_remembers 140 = .ok (.getfield 166, 3) := by decide +kernel
theorem dX11_remembers_143 : decode cX11_remembers 143 = .ok (.iconst 1, 1) := by decide +kernel
theorem dX11_remembers_144 : decode cX11_remembers 144 = .ok (.iadd, 1) := by decide +kernel
theorem dX11_remembers_145 : decode cX11_remembers 145 = .ok (.putfield 166, 3) := by decide +kernel
theorem dX11_remembers_148 : decode cX11_remembers 148 = .ok (.return_, 1) := by decide +kernel
theorem dX11_setState_0 : decode cX11_setState 0 = .ok (.iload_n 1, 1) := by decide +kernel
theorem dX11_setState_1 : decode cX11_setState 1 = .ok (.invokestatic 130, 3) := by decide +kernel
theorem dX11_setState_4 : decode cX11_setState 4 = .ok (.ifCond .ne 9, 3) := by decide +kernel
theorem dX11_setState_7 : decode cX11_setState 7 = .ok (.aload_n 0, 1) := by decide +kernel
theorem dX11_setState_8 : decode cX11_setState 8 = .ok (.iconst 1, 1) := by decide +kernel
theorem dX11_setState_9 : decode cX11_setState 9 = .ok (.invokevirtual 144, 3) := by decide +kernel
theorem dX11_setState_12 : decode cX11_setState 12 = .ok (.ireturn, 1) := by decide +kernel
theorem dX11_setState_13 : decode cX11_setState 13 = .ok (.aload_n 0, 1) := by decide +kernel
theorem dX11_setState_14 : decode cX11_setState 14 = .ok (.iconst 0, 1) := by decide +kernel
theorem dX11_setState_15 : decode cX11_setState 15 = .ok (.putfield 106, 3) := by decide +kernel
theorem dX11_setState_18 : decode cX11_setState 18 = .ok (.aload_n 0, 1) := by decide +kernel
theorem dX11_setState_19 : decode cX11_setState 19 = .ok (.getfield 169, 3) := by decide +kernel
theorem dX11_setState_22 : decode cX11_setState 22 = .ok (.istore_n 2, 1) := by decide +kernel
theorem dX11_setState_23 : decode cX11_setState 23 = .ok (.aload_n 0, 1) := by decide +kernel
theorem dX11_setState_24 : decode cX11_setState 24 = .ok (.iload_n 1, 1) := by decide +kernel
theorem dX11_setState_25 : decode cX11_setState 25 = .ok (.putfield 169, 3) := by decide +kernel
theorem dX11_setState_28 : decode cX11_setState 28 = .ok (.aload_n 0, 1) := by decide +kernel
theorem dX11_setState_29 : decode cX11_setState 29 = .ok (.iconst 0, 1) := by decide +kernel
theorem dX11_setState_30 : decode cX11_setState 30 = .ok (.putfield 166, 3) := by decide +kernel
theorem dX11_setState_33 : decode cX11_setState 33 = .ok (.iload_n 2, 1) := by decide +kernel
theorem dX11_setState_34 : decode cX11_setState 34 = .ok (.ireturn, 1) := by decide +kernel
theorem dX11_put_0 : decode cX11_put 0 = .ok (.iload_n 1, 1) := by decide +kernel
theorem dX11_put_1 : decode cX11_put 1 = .ok (.invokestatic 138, 3) := by decide +kernel
theorem dX11_put_4 : decode cX11_put 4 = .ok (.ifCond .ne 9, 3) := by decide +kernel
theorem dX11_put_7 : decode cX11_put 7 = .ok (.aload_n 0, 1) := by decide +kernel
theorem dX11_put_8 : decode cX11_put 8 = .ok (.iconst 1, 1) := by decide +kernel
theorem dX11_put_9 : decode cX11_put 9 = .ok (.invokevirtual 144, 3) := by decide +kernel
theorem dX11_put_12 : decode cX11_put 12 = .ok (.ireturn, 1) := by decide +kernel
theorem dX11_put_13 : decode cX11_put 13 = .ok (.iload_n 2, 1) := by decide +kernel
theorem dX11_put_14 : decode cX11_put 14 = .ok (.invokestatic 141, 3) := by decide +kernel
theorem dX11_put_17 : decode cX11_put 17 = .ok (.ifCond .ne 9, 3) := by decide +kernel
theorem dX11_put_20 : decode cX11_put 20 = .ok (.aload_n 0, 1) := by decide +kernel
theorem dX11_put_21 : decode cX11_put 21 = .ok (.iconst 2, 1) := by decide +kernel
theorem dX11_put_22 : decode cX11_put 22 = .ok (.invokevirtual 144, 3) := by decide +kernel
theorem dX11_put_25 : decode cX11_put 25 = .ok (.ireturn, 1) := by decide +kernel
theorem dX11_put_26 : decode cX11_put 26 = .ok (.aload_n 0, 1) := by decide +kernel
theorem dX11_put_27 : decode cX11_put 27 = .ok (.iload_n 1, 1) := by decide +kernel
theorem dX11_put_28 : decode cX11_put 28 = .ok (.invokevirtual 172, 3) := by decide +kernel
theorem dX11_put_31 : decode cX11_put 31 = .ok (.invokestatic 111, 3) := by decide +kernel
theorem dX11_put_34 : decode cX11_put 34 = .ok (.bipush 10, 2) := by decide +kernel
theorem dX11_put_36 : decode cX11_put 36 = .ok (.if_icmp .ne 9, 3) := by decide +kernel
theorem dX11_put_39 : decode cX11_put 39 = .ok (.aload_n 0, 1) := by decide +kernel
theorem dX11_put_40 : decode cX11_put 40 = .ok (.iconst 3, 1) := by decide +kernel
theorem dX11_put_41 : decode cX11_put 41 = .ok (.invokevirtual 144, 3) := by decide +kernel
theorem dX11_put_44 : decode cX11_put 44 = .ok (.ireturn, 1) := by decide +kernel
theorem dX11_put_45 : decode cX11_put 45 = .ok (.aload_n 0, 1) := by decide +kernel
theorem dX11_put_46 : decode cX11_put 46 = .ok (.iconst 0, 1) := by decide +kernel
theorem dX11_put_47 : decode cX11_put 47 = .ok (.putfield 106, 3) := by decide +kernel
theorem dX11_put_50 : decode cX11_put 50 = .ok (.aload_n 0, 1) := by decide +kernel
theorem dX11_put_51 : decode cX11_put 51 = .ok (.iload_n 1, 1) := by decide +kernel
theorem dX11_put_52 : decode cX11_put 52 = .ok (.ldc2_w 109, 3) := by decide +kernel
theorem dX11_put_55 : decode cX11_put 55 = .ok (.aload_n 0, 1) := by decide +kernel
theorem dX11_put_56 : decode cX11_put 56 = .ok (.iload_n 1, 1) := by decide +kernel
theorem dX11_put_57 : decode cX11_put 57 = .ok (.invokevirtual 172, 3) := by decide +kernel
theorem dX11_put_60 : decode cX11_put 60 = .ok (.lmul, 1) := by decide +kernel
theorem dX11_put_61 : decode cX11_put 61 = .ok (.iload_n 2, 1) := by decide +kernel
theorem dX11_put_62 : decode cX11_put 62 = .ok (.i2l, 1) := by decide +kernel
theorem dX11_put_63 : decode cX11_put 63 = .ok (.ladd, 1) := by decide +kernel
theorem dX11_put_64 : decode cX11_put 64 = .ok (.lconst 1, 1) := by decide +kernel
theorem dX11_put_65 : decode cX11_put 65 = .ok (.ladd, 1) := by decide +kernel
theorem dX11_put_66 : decode cX11_put 66 = .ok (.invokevirtual 175, 3) := by decide +kernel
theorem dX11_put_69 : decode cX11_put 69 = .ok (.aload_n 0, 1) := by decide +kernel
theorem dX11_put_70 : decode cX11_put 70 = .ok (.iconst 0, 1) := by decide +kernel
theorem dX11_put_71 : decode cX11_put 71 = .ok (.putfield 166, 3) := by decide +kernel
theorem dX11_put_74 : decode cX11_put 74 = .ok (.aload_n 0, 1) := by decide +kernel
theorem dX11_put_75 : decode cX11_put 75 = .ok (.iload_n 1, 1) := by decide +kernel
theorem dX11_put_76 : decode cX11_put 76 = .ok (.invokevirtual 172, 3) := by decide +kernel
theorem dX11_put_79 : decode cX11_put 79 = .ok (.invokestatic 111, 3) := by decide +kernel
theorem dX11_put_82 : decode cX11_put 82 = .ok (.ireturn, 1) := by decide +kernel
theorem dX11_clear_0 : decode cX11_clear 0 = .ok (.iload_n 1, 1) := by decide +kernel
theorem dX11_clear_1 : decode cX11_clear 1 = .ok (.invokestatic 138, 3) := by decide +kernel
theorem dX11_clear_4 : decode cX11_clear 4 = .ok (.ifCond .ne 9, 3) := by decide +kernel
theorem dX11_clear_7 : decode cX11_clear 7 = .ok (.aload_n 0, 1) := by decide +kernel
theorem dX11_clear_8 : decode cX11_clear 8 = .ok (.iconst 1, 1) := by decide +kernel
theorem dX11_clear_9 : decode cX11_clear 9 = .ok (.invokevirtual 144, 3) := by decide +kernel
theorem dX11_clear_12 : decode cX11_clear 12 = .ok (.ireturn, 1) := by decide +kernel
theorem dX11_clear_13 : decode cX11_clear 13 = .ok (.aload_n 0, 1) := by decide +kernel
theorem dX11_clear_14 : decode cX11_clear 14 = .ok (.iconst 0, 1) := by decide +kernel
theorem dX11_clear_15 : decode cX11_clear 15 = .ok (.putfield 106, 3) := by decide +kernel
theorem dX11_clear_18 : decode cX11_clear 18 = .ok (.aload_n 0, 1) := by decide +kernel
theorem dX11_clear_19 : decode cX11_clear 19 = .ok (.iload_n 1, 1) := by decide +kernel
theorem dX11_clear_20 : decode cX11_clear 20 = .ok (.invokevirtual 172, 3) := by decide +kernel
theorem dX11_clear_23 : decode cX11_clear 23 = .ok (.invokestatic 111, 3) := by decide +kernel
theorem dX11_clear_26 : decode cX11_clear 26 = .ok (.istore_n 2, 1) := by decide +kernel
theorem dX11_clear_27 : decode cX11_clear 27 = .ok (.aload_n 0, 1) := by decide +kernel
theorem dX11_clear_28 : decode cX11_clear 28 = .ok (.iload_n 1, 1) := by decide +kernel
theorem dX11_clear_29 : decode cX11_clear 29 = .ok (.lconst 0, 1) := by decide +kernel
theorem dX11_clear_30 : decode cX11_clear 30 = .ok (.invokevirtual 175, 3) := by decide +kernel
theorem dX11_clear_33 : decode cX11_clear 33 = .ok (.aload_n 0, 1) := by decide +kernel
theorem dX11_clear_34 : decode cX11_clear 34 = .ok (.iconst 0, 1) := by decide +kernel
theorem dX11_clear_35 : decode cX11_clear 35 = .ok (.putfield 166, 3) := by decide +kernel
theorem dX11_clear_38 : decode cX11_clear 38 = .ok (.iload_n 2, 1) := by decide +kernel
theorem dX11_clear_39 : decode cX11_clear 39 = .ok (.ireturn, 1) := by decide +kernel
theorem dX11_state_0 : decode cX11_state 0 = .ok (.aload_n 0, 1) := by decide +kernel
theorem dX11_state_1 : decode cX11_state 1 = .ok (.iconst 0, 1) := by decide +kernel
theorem dX11_state_2 : decode cX11_state 2 = .ok (.putfield 106, 3) := by decide +kernel
theorem dX11_state_5 : decode cX11_state 5 = .ok (.aload_n 0, 1) := by decide +kernel
theorem dX11_state_6 : decode cX11_state 6 = .ok (.getfield 169, 3) := by decide +kernel
theorem dX11_state_9 : decode cX11_state 9 = .ok (.ireturn, 1) := by decide +kernel
theorem dX11_length_0 : decode cX11_length 0 = .ok (.iload_n 1, 1) := by decide +kernel
theorem dX11_length_1 : decode cX11_length 1 = .ok (.invokestatic 138, 3) := by decide +kernel
theorem dX11_length_4 : decode cX11_length 4 = .ok (.ifCond .ne 9, 3) := by decide +kernel
theorem dX11_length_7 : decode cX11_length 7 = .ok (.aload_n 0, 1) := by decide +kernel
theorem dX11_length_8 : decode cX11_length 8 = .ok (.iconst 1, 1) := by decide +kernel
theorem dX11_length_9 : decode cX11_length 9 = .ok (.invokevirtual 144, 3) := by decide +kernel
theorem dX11_length_12 : decode cX11_length 12 = .ok (.ireturn, 1) := by decide +kernel
theorem dX11_length_13 : decode cX11_length 13 = .ok (.aload_n 0, 1) := by decide +kernel
theorem dX11_length_14 : decode cX11_length 14 = .ok (.iconst 0, 1) := by decide +kernel
theorem dX11_length_15 : decode cX11_length 15 = .ok (.putfield 106, 3) := by decide +kernel
theorem dX11_length_18 : decode cX11_length 18 = .ok (.aload_n 0, 1) := by decide +kernel
theorem dX11_length_19 : decode cX11_length 19 = .ok (.iload_n 1, 1) := by decide +kernel
theorem dX11_length_20 : decode cX11_length 20 = .ok (.invokevirtual 172, 3) := by decide +kernel
theorem dX11_length_23 : decode cX11_length 23 = .ok (.invokestatic 111, 3) := by decide +kernel
theorem dX11_length_26 : decode cX11_length 26 = .ok (.ireturn, 1) := by decide +kernel
theorem dX11_letter_0 : decode cX11_letter 0 = .ok (.iload_n 1, 1) := by decide +kernel
theorem dX11_letter_1 : decode cX11_letter 1 = .ok (.invokestatic 138, 3) := by decide +kernel
theorem dX11_letter_4 : decode cX11_letter 4 = .ok (.ifCond .ne 9, 3) := by decide +kernel
theorem dX11_letter_7 : decode cX11_letter 7 = .ok (.aload_n 0, 1) := by decide +kernel
theorem dX11_letter_8 : decode cX11_letter 8 = .ok (.iconst 1, 1) := by decide +kernel
theorem dX11_letter_9 : decode cX11_letter 9 = .ok (.invokevirtual 144, 3) := by decide +kernel
theorem dX11_letter_12 : decode cX11_letter 12 = .ok (.ireturn, 1) := by decide +kernel
theorem dX11_letter_13 : decode cX11_letter 13 = .ok (.iload_n 2, 1) := by decide +kernel
theorem dX11_letter_14 : decode cX11_letter 14 = .ok (.iconst 0, 1) := by decide +kernel
theorem dX11_letter_15 : decode cX11_letter 15 = .ok (.aload_n 0, 1) := by decide +kernel
theorem dX11_letter_16 : decode cX11_letter 16 = .ok (.iload_n 1, 1) := by decide +kernel
theorem dX11_letter_17 : decode cX11_letter 17 = .ok (.invokevirtual 172, 3) := by decide +kernel
theorem dX11_letter_20 : decode cX11_letter 20 = .ok (.invokestatic 111, 3) := by decide +kernel
theorem dX11_letter_23 : decode cX11_letter 23 = .ok (.iconst 1, 1) := by decide +kernel
theorem dX11_letter_24 : decode cX11_letter 24 = .ok (.isub, 1) := by decide +kernel
theorem dX11_letter_25 : decode cX11_letter 25 = .ok (.invokestatic 134, 3) := by decide +kernel
theorem dX11_letter_28 : decode cX11_letter 28 = .ok (.ifCond .ne 9, 3) := by decide +kernel
theorem dX11_letter_31 : decode cX11_letter 31 = .ok (.aload_n 0, 1) := by decide +kernel
theorem dX11_letter_32 : decode cX11_letter 32 = .ok (.iconst 2, 1) := by decide +kernel
theorem dX11_letter_33 : decode cX11_letter 33 = .ok (.invokevirtual 144, 3) := by decide +kernel
theorem dX11_letter_36 : decode cX11_letter 36 = .ok (.ireturn, 1) := by decide +kernel
theorem dX11_letter_37 : decode cX11_letter 37 = .ok (.aload_n 0, 1) := by decide +kernel
theorem dX11_letter_38 : decode cX11_letter 38 = .ok (.iconst 0, 1) := by decide +kernel
theorem dX11_letter_39 : decode cX11_letter 39 = .ok (.putfield 106, 3) := by decide +kernel
theorem dX11_letter_42 : decode cX11_letter 42 = .ok (.aload_n 0, 1) := by decide +kernel
theorem dX11_letter_43 : decode cX11_letter 43 = .ok (.iload_n 1, 1) := by decide +kernel
theorem dX11_letter_44 : decode cX11_letter 44 = .ok (.invokevirtual 172, 3) := by decide +kernel
theorem dX11_letter_47 : decode cX11_letter 47 = .ok (.iload_n 2, 1) := by decide +kernel
theorem dX11_letter_48 : decode cX11_letter 48 = .ok (.invokestatic 119, 3) := by decide +kernel
theorem dX11_letter_51 : decode cX11_letter 51 = .ok (.ireturn, 1) := by decide +kernel
theorem dX11_takes_0 : decode cX11_takes 0 = .ok (.aload_n 0, 1) := by decide +kernel
theorem dX11_takes_1 : decode cX11_takes 1 = .ok (.iload_n 1, 1) := by decide +kernel
theorem dX11_takes_2 : decode cX11_takes 2 = .ok (.putfield 179, 3) := by decide +kernel
theorem dX11_takes_5 : decode cX11_takes 5 = .ok (.aload_n 0, 1) := by decide +kernel
theorem dX11_takes_6 : decode cX11_takes 6 = .ok (.lload_n 2, 1) := by decide +kernel
theorem dX11_takes_7 : decode cX11_takes 7 = .ok (.putfield 182, 3) := by decide +kernel
theorem dX11_takes_10 : decode cX11_takes 10 = .ok (.aload_n 0, 1) := by decide +kernel
theorem dX11_takes_11 : decode cX11_takes 11 = .ok (.lload 4, 2) := by decide +kernel
theorem dX11_takes_13 : decode cX11_takes 13 = .ok (.putfield 185, 3) := by decide +kernel
theorem dX11_takes_16 : decode cX11_takes 16 = .ok (.return_, 1) := by decide +kernel
theorem dX11_mayFire_0 : decode cX11_mayFire 0 = .ok (.aload_n 0, 1) := by decide +kernel
theorem dX11_mayFire_1 : decode cX11_mayFire 1 = .ok (.iload_n 1, 1) := by decide +kernel
theorem dX11_mayFire_2 : decode cX11_mayFire 2 = .ok (.iconst 0, 1) := by decide +kernel
theorem dX11_mayFire_3 : decode cX11_mayFire 3 = .ok (.invokevirtual 155, 3) := by decide +kernel
theorem dX11_mayFire_6 : decode cX11_mayFire 6 = .ok (.aload_n 0, 1) := by decide +kernel
theorem dX11_mayFire_7 : decode cX11_mayFire 7 = .ok (.getfield 179, 3) := by decide +kernel
theorem dX11_mayFire_10 : decode cX11_mayFire 10 = .ok (.if_icmp .eq 5, 3) := by decide +kernel
theorem dX11_mayFire_13 : decode cX11_mayFire 13 = .ok (.iconst 0, 1) := by decide +kernel
theorem dX11_mayFire_14 : decode cX11_mayFire 14 = .ok (.ireturn, 1) := by decide +kernel
theorem dX11_mayFire_15 : decode cX11_mayFire 15 = .ok (.aload_n 0, 1) := by decide +kernel
theorem dX11_mayFire_16 : decode cX11_mayFire 16 = .ok (.iload_n 1, 1) := by decide +kernel
theorem dX11_mayFire_17 : decode cX11_mayFire 17 = .ok (.iconst 2, 1) := by decide +kernel
theorem dX11_mayFire_18 : decode cX11_mayFire 18 = .ok (.invokevirtual 155, 3) := by decide +kernel
theorem dX11_mayFire_21 : decode cX11_mayFire 21 = .ok (.iconst 2, 1) := by decide +kernel
theorem dX11_mayFire_22 : decode cX11_mayFire 22 = .ok (.if_icmp .eq 5, 3) := by decide +kernel
theorem dX11_mayFire_25 : decode cX11_mayFire 25 = .ok (.iconst 1, 1) := by decide +kernel
theorem dX11_mayFire_26 : decode cX11_mayFire 26 = .ok (.ireturn, 1) := by decide +kernel
theorem dX11_mayFire_27 : decode cX11_mayFire 27 = .ok (.aload_n 0, 1) := by decide +kernel
theorem dX11_mayFire_28 : decode cX11_mayFire 28 = .ok (.iload_n 1, 1) := by decide +kernel
theorem dX11_mayFire_29 : decode cX11_mayFire 29 = .ok (.iconst 3, 1) := by decide +kernel
theorem dX11_mayFire_30 : decode cX11_mayFire 30 = .ok (.invokevirtual 155, 3) := by decide +kernel
theorem dX11_mayFire_33 : decode cX11_mayFire 33 = .ok (.ifCond .ne 10, 3) := by decide +kernel
theorem dX11_mayFire_36 : decode cX11_mayFire 36 = .ok (.aload_n 0, 1) := by decide +kernel
theorem dX11_mayFire_37 : decode cX11_mayFire 37 = .ok (.getfield 182, 3) := by decide +kernel
theorem dX11_mayFire_40 : decode cX11_mayFire 40 = .ok (.goto 7, 3) := by decide +kernel
theorem dX11_mayFire_43 : decode cX11_mayFire 43 = .ok (.aload_n 0, 1) := by decide +kernel
theorem dX11_mayFire_44 : decode cX11_mayFire 44 = .ok (.getfield 185, 3) := by decide +kernel
theorem dX11_mayFire_47 : decode cX11_mayFire 47 = .ok (.lstore_n 2, 1) := by decide +kernel
theorem dX11_mayFire_48 : decode cX11_mayFire 48 = .ok (.lload_n 2, 1) := by decide +kernel
theorem dX11_mayFire_49 : decode cX11_mayFire 49 = .ok (.aload_n 0, 1) := by decide +kernel
theorem dX11_mayFire_50 : decode cX11_mayFire 50 = .ok (.iload_n 1, 1) := by decide +kernel
theorem dX11_mayFire_51 : decode cX11_mayFire 51 = .ok (.iconst 4, 1) := by decide +kernel
theorem dX11_mayFire_52 : decode cX11_mayFire 52 = .ok (.invokevirtual 155, 3) := by decide +kernel
theorem dX11_mayFire_55 : decode cX11_mayFire 55 = .ok (.invokestatic 188, 3) := by decide +kernel
theorem dX11_mayFire_58 : decode cX11_mayFire 58 = .ok (.lload_n 2, 1) := by decide +kernel
theorem dX11_mayFire_59 : decode cX11_mayFire 59 = .ok (.invokestatic 111, 3) := by decide +kernel
theorem dX11_mayFire_62 : decode cX11_mayFire 62 = .ok (.if_icmp .ge 7, 3) := by decide +kernel
theorem dX11_mayFire_65 : decode cX11_mayFire 65 = .ok (.iconst 1, 1) := by decide +kernel
theorem dX11_mayFire_66 : decode cX11_mayFire 66 = .ok (.goto 4, 3) := by decide +kernel
theorem dX11_mayFire_69 : decode cX11_mayFire 69 = .ok (.iconst 0, 1) := by decide +kernel
theorem dX11_mayFire_70 : decode cX11_mayFire 70 = .ok (.ireturn, 1) := by decide +kernel
theorem dX11_fires_0 : decode cX11_fires 0 = .ok (.aload_n 0, 1) := by decide +kernel
theorem dX11_fires_1 : decode cX11_fires 1 = .ok (.aload_n 0, 1) := by decide +kernel
theorem dX11_fires_2 : decode cX11_fires 2 = .ok (.iload_n 1, 1) := by decide +kernel
theorem dX11_fires_3 : decode cX11_fires 3 = .ok (.iconst 1, 1) := by decide +kernel
theorem dX11_fires_4 : decode cX11_fires 4 = .ok (.invokevirtual 155, 3) := by decide +kernel
theorem dX11_fires_7 : decode cX11_fires 7 = .ok (.putfield 179, 3) := by decide +kernel
theorem dX11_fires_10 : decode cX11_fires 10 = .ok (.aload_n 0, 1) := by decide +kernel
theorem dX11_fires_11 : decode cX11_fires 11 = .ok (.iconst 0, 1) := by decide +kernel
theorem dX11_fires_12 : decode cX11_fires 12 = .ok (.putfield 191, 3) := by decide +kernel
theorem dX11_fires_15 : decode cX11_fires 15 = .ok (.aload_n 0, 1) := by decide +kernel
theorem dX11_fires_16 : decode cX11_fires 16 = .ok (.iload_n 1, 1) := by decide +kernel
theorem dX11_fires_17 : decode cX11_fires 17 = .ok (.iconst 2, 1) := by decide +kernel
theorem dX11_fires_18 : decode cX11_fires 18 = .ok (.invokevirtual 155, 3) := by decide +kernel
theorem dX11_fires_21 : decode cX11_fires 21 = .ok (.ifCond .ne 4, 3) := by decide +kernel
theorem dX11_fires_24 : decode cX11_fires 24 = .ok (.return_, 1) := by decide +kernel
theorem dX11_fires_25 : decode cX11_fires 25 = .ok (.aload_n 0, 1) := by decide +kernel
theorem dX11_fires_26 : decode cX11_fires 26 = .ok (.iload_n 1, 1) := by decide +kernel
theorem dX11_fires_27 : decode cX11_fires 27 = .ok (.iconst 3, 1) := by decide +kernel
theorem dX11_fires_28 : decode cX11_fires 28 = .ok (.invokevirtual 155, 3) := by decide +kernel
theorem dX11_fires_31 : decode cX11_fires 31 = .ok (.ifCond .ne 10, 3) := by decide +kernel
theorem dX11_fires_34 : decode cX11_fires 34 = .ok (.aload_n 0, 1) := by decide +kernel
theorem dX11_fires_35 : decode cX11_fires 35 = .ok (.getfield 182, 3) := by decide +kernel
theorem dX11_fires_38 : decode cX11_fires 38 = .ok (.goto 7, 3) := by decide +kernel
theorem dX11_fires_41 : decode cX11_fires 41 = .ok (.aload_n 0, 1) := by decide +kernel
theorem dX11_fires_42 : decode cX11_fires 42 = .ok (.getfield 185, 3) := by decide +kernel
theorem dX11_fires_45 : decode cX11_fires 45 = .ok (.lstore_n 2, 1) := by decide +kernel
theorem dX11_fires_46 : decode cX11_fires 46 = .ok (.aload_n 0, 1) := by decide +kernel
theorem dX11_fires_47 : decode cX11_fires 47 = .ok (.iload_n 1, 1) := by decide +kernel
theorem dX11_fires_48 : decode cX11_fires 48 = .ok (.iconst 4, 1) := by decide +kernel
theorem dX11_fires_49 : decode cX11_fires 49 = .ok (.invokevirtual 155, 3) := by decide +kernel
theorem dX11_fires_52 : decode cX11_fires 52 = .ok (.istore 4, 2) := by decide +kernel
theorem dX11_fires_54 : decode cX11_fires 54 = .ok (.ldc2_w 109, 3) := by decide +kernel
theorem dX11_fires_57 : decode cX11_fires 57 = .ok (.lload_n 2, 1) := by decide +kernel
theorem dX11_fires_58 : decode cX11_fires 58 = .ok (.lmul, 1) := by decide +kernel
theorem dX11_fires_59 : decode cX11_fires 59 = .ok (.iload 4, 2) := by decide +kernel
theorem dX11_fires_61 : decode cX11_fires 61 = .ok (.i2l, 1) := by decide +kernel
theorem dX11_fires_62 : decode cX11_fires 62 = .ok (.ladd, 1) := by decide +kernel
theorem dX11_fires_63 : decode cX11_fires 63 = .ok (.lconst 1, 1) := by decide +kernel
theorem dX11_fires_64 : decode cX11_fires 64 = .ok (.ladd, 1) := by decide +kernel
theorem dX11_fires_65 : decode cX11_fires 65 = .ok (.lstore 5, 2) := by decide +kernel
theorem dX11_fires_67 : decode cX11_fires 67 = .ok (.aload_n 0, 1) := by decide +kernel
theorem dX11_fires_68 : decode cX11_fires 68 = .ok (.iload_n 1, 1) := by decide +kernel
theorem dX11_fires_69 : decode cX11_fires 69 = .ok (.iconst 2, 1) := by decide +kernel
theorem dX11_fires_70 : decode cX11_fires 70 = .ok (.invokevirtual 155, 3) := by decide +kernel
theorem dX11_fires_73 : decode cX11_fires 73 = .ok (.iconst 2, 1) := by decide +kernel
theorem dX11_fires_74 : decode cX11_fires 74 = .ok (.if_icmp .ne 25, 3) := by decide +kernel
theorem dX11_fires_77 : decode cX11_fires 77 = .ok (.aload_n 0, 1) := by decide +kernel
theorem dX11_fires_78 : decode cX11_fires 78 = .ok (.lload_n 2, 1) := by decide +kernel
theorem dX11_fires_79 : decode cX11_fires 79 = .ok (.iload 4, 2) := by decide +kernel
theorem dX11_fires_81 : decode cX11_fires 81 = .ok (.invokestatic 188, 3) := by decide +kernel
theorem dX11_fires_84 : decode cX11_fires 84 = .ok (.putfield 191, 3) := by decide +kernel
theorem dX11_fires_87 : decode cX11_fires 87 = .ok (.lload_n 2, 1) := by decide +kernel
theorem dX11_fires_88 : decode cX11_fires 88 = .ok (.aload_n 0, 1) := by decide +kernel
theorem dX11_fires_89 : decode cX11_fires 89 = .ok (.getfield 191, 3) := by decide +kernel
theorem dX11_fires_92 : decode cX11_fires 92 = .ok (.iconst 1, 1) := by decide +kernel
theorem dX11_fires_93 : decode cX11_fires 93 = .ok (.iadd, 1) := by decide +kernel
theorem dX11_fires_94 : decode cX11_fires 94 = .ok (.invokestatic 194, 3) := by decide +kernel
theorem dX11_fires_97 : decode cX11_fires 97 = .ok (.lstore 5, 2) := by decide +kernel
theorem dX11_fires_99 : decode cX11_fires 99 = .ok (.aload_n 0, 1) := by decide +kernel
theorem dX11_fires_100 : decode cX11_fires 100 = .ok (.iload_n 1, 1) := by decide +kernel
theorem dX11_fires_101 : decode cX11_fires 101 = .ok (.iconst 3, 1) := by decide +kernel
theorem dX11_fires_102 : decode cX11_fires 102 = .ok (.invokevirtual 155, 3) := by decide +kernel
theorem dX11_fires_105 : decode cX11_fires 105 = .ok (.ifCond .ne 12, 3) := by decide +kernel
theorem dX11_fires_108 : decode cX11_fires 108 = .ok (.aload_n 0, 1) := by decide +kernel
theorem dX11_fires_109 : decode cX11_fires 109 = .ok (.lload 5, 2) := by decide +kernel
theorem dX11_fires_111 : decode cX11_fires 111 = .ok (.putfield 182, 3) := by decide +kernel
theorem dX11_fires_114 : decode cX11_fires 114 = .ok (.goto 9, 3) := by decide +kernel
theorem dX11_fires_117 : decode cX11_fires 117 = .ok (.aload_n 0, 1) := by decide +kernel
theorem dX11_fires_118 : decode cX11_fires 118 = .ok (.lload 5, 2) := by decide +kernel
theorem dX11_fires_120 : decode cX11_fires 120 = .ok (.putfield 185, 3) := by decide +kernel
theorem dX11_fires_123 : decode cX11_fires 123 = .ok (.return_, 1) := by decide +kernel
theorem dX11_mayFireNow_0 : decode cX11_mayFireNow 0 = .ok (.aload_n 0, 1) := by decide +kernel
theorem dX11_mayFireNow_1 : decode cX11_mayFireNow 1 = .ok (.aload_n 0, 1) := by decide +kernel
theorem dX11_mayFireNow_2 : decode cX11_mayFireNow 2 = .ok (.getfield 169, 3) := by decide +kernel
theorem dX11_mayFireNow_5 : decode cX11_mayFireNow 5 = .ok (.aload_n 0, 1) := by decide +kernel
theorem dX11_mayFireNow_6 : decode cX11_mayFireNow 6 = .ok (.getfield 159, 3) := by decide +kernel
theorem dX11_mayFireNow_9 : decode cX11_mayFireNow 9 = .ok (.aload_n 0, 1) := by decide +kernel
theorem dX11_mayFireNow_10 : decode cX11_mayFireNow 10 = .ok (.getfield 163, 3) := by decide +kernel
theorem dX11_mayFireNow_13 : decode cX11_mayFireNow 13 = .ok (.invokevirtual 198, 3) := by decide +kernel
theorem dX11_mayFireNow_16 : decode cX11_mayFireNow 16 = .ok (.aload_n 0, 1) := by decide +kernel
theorem dX11_mayFireNow_17 : decode cX11_mayFireNow 17 = .ok (.iload_n 1, 1) := by decide +kernel
theorem dX11_mayFireNow_18 : decode cX11_mayFireNow 18 = .ok (.invokevirtual 202, 3) := by decide +kernel
theorem dX11_mayFireNow_21 : decode cX11_mayFireNow 21 = .ok (.ifCond .eq 39, 3) := by decide +kernel
theorem dX11_mayFireNow_24 : decode cX11_mayFireNow 24 = .ok (.aload_n 0, 1) := by decide +kernel
theorem dX11_mayFireNow_25 : decode cX11_mayFireNow 25 = .ok (.iload_n 1, 1) := by decide +kernel
theorem dX11_mayFireNow_26 : decode cX11_mayFireNow 26 = .ok (.iconst 2, 1) := by decide +kernel
theorem dX11_mayFireNow_27 : decode cX11_mayFireNow 27 = .ok (.invokevirtual 155, 3) := by decide +kernel
theorem dX11_mayFireNow_30 : decode cX11_mayFireNow 30 = .ok (.iconst 2, 1) := by decide +kernel
theorem dX11_mayFireNow_31 : decode cX11_mayFireNow 31 = .ok (.if_icmp .ne 25, 3) := by decide +kernel
theorem dX11_mayFireNow_34 : decode cX11_mayFireNow 34 = .ok (.aload_n 0, 1) := by decide +kernel
theorem dX11_mayFireNow_35 : decode cX11_mayFireNow 35 = .ok (.aload_n 0, 1) := by decide +kernel
theorem dX11_mayFireNow_36 : decode cX11_mayFireNow 36 = .ok (.iload_n 1, 1) := by decide +kernel
theorem dX11_mayFireNow_37 : decode cX11_mayFireNow 37 = .ok (.iconst 3, 1) := by decide +kernel
theorem dX11_mayFireNow_38 : decode cX11_mayFireNow 38 = .ok (.invokevirtual 155, 3) := by decide +kernel
theorem dX11_mayFireNow_41 : decode cX11_mayFireNow 41 = .ok (.invokevirtual 172, 3) := by decide +kernel
theorem dX11_mayFireNow_44 : decode cX11_mayFireNow 44 = .ok (.aload_n 0, 1) := by decide +kernel
theorem dX11_mayFireNow_45 : decode cX11_mayFireNow 45 = .ok (.iload_n 1, 1) := by decide +kernel
theorem dX11_mayFireNow_46 : decode cX11_mayFireNow 46 = .ok (.iconst 4, 1) := by decide +kernel
theorem dX11_mayFireNow_47 : decode cX11_mayFireNow 47 = .ok (.invokevirtual 155, 3) := by decide +kernel
theorem dX11_mayFireNow_50 : decode cX11_mayFireNow 50 = .ok (.invokestatic 188, 3) := by decide +kernel
theorem dX11_mayFireNow_53 : decode cX11_mayFireNow 53 = .ok (.ifCond .ne 7, 3) := by decide +kernel
theorem dX11_mayFireNow_56 : decode cX11_mayFireNow 56 = .ok (.iconst 1, 1) := by decide +kernel
theorem dX11_mayFireNow_57 : decode cX11_mayFireNow 57 = .ok (.goto 4, 3) := by decide +kernel
theorem dX11_mayFireNow_60 : decode cX11_mayFireNow 60 = .ok (.iconst 0, 1) := by decide +kernel
theorem dX11_mayFireNow_61 : decode cX11_mayFireNow 61 = .ok (.ireturn, 1) := by decide +kernel
theorem dX11_enabled_0 : decode cX11_enabled 0 = .ok (.aload_n 0, 1) := by decide +kernel
theorem dX11_enabled_1 : decode cX11_enabled 1 = .ok (.iconst 0, 1) := by decide +kernel
theorem dX11_enabled_2 : decode cX11_enabled 2 = .ok (.putfield 106, 3) := by decide +kernel
theorem dX11_enabled_5 : decode cX11_enabled 5 = .ok (.iconst 0, 1) := by decide +kernel
theorem dX11_enabled_6 : decode cX11_enabled 6 = .ok (.istore_n 2, 1) := by decide +kernel
theorem dX11_enabled_7 : decode cX11_enabled 7 = .ok (.aload_n 0, 1) := by decide +kernel
theorem dX11_enabled_8 : decode cX11_enabled 8 = .ok (.aload_n 0, 1) := by decide +kernel
theorem dX11_enabled_9 : decode cX11_enabled 9 = .ok (.getfield 169, 3) := by decide +kernel
theorem dX11_enabled_12 : decode cX11_enabled 12 = .ok (.aload_n 0, 1) := by decide +kernel
theorem dX11_enabled_13 : decode cX11_enabled 13 = .ok (.getfield 159, 3) := by decide +kernel
theorem dX11_enabled_16 : decode cX11_enabled 16 = .ok (.aload_n 0, 1) := by decide +kernel
theorem dX11_enabled_17 : decode cX11_enabled 17 = .ok (.getfield 163, 3) := by decide +kernel
theorem dX11_enabled_20 : decode cX11_enabled 20 = .ok (.invokevirtual 198, 3) := by decide +kernel
theorem dX11_enabled_23 : decode cX11_enabled 23 = .ok (.iconst 0, 1) := by decide +kernel
theorem dX11_enabled_24 : decode cX11_enabled 24 = .ok (.istore_n 3, 1) := by decide +kernel
theorem dX11_enabled_25 : decode cX11_enabled 25 = .ok (.iload_n 3, 1) := by decide +kernel
theorem dX11_enabled_26 : decode cX11_enabled 26 = .ok (.aload_n 0, 1) := by decide +kernel
theorem dX11_enabled_27 : decode cX11_enabled 27 = .ok (.getfield 123, 3) := by decide +kernel
theorem dX11_enabled_30 : decode cX11_enabled 30 = .ok (.if_icmp .ge 42, 3) := by decide +kernel
theorem dX11_enabled_33 : decode cX11_enabled 33 = .ok (.iload_n 2, 1) := by decide +kernel
theorem dX11_enabled_34 : decode cX11_enabled 34 = .ok (.iload_n 1, 1) := by decide +kernel
theorem dX11_enabled_35 : decode cX11_enabled 35 = .ok (.ifCond .eq 14, 3) := by decide +kernel
theorem dX11_enabled_38 : decode cX11_enabled 38 = .ok (.aload_n 0, 1) := by decide +kernel
theorem dX11_enabled_39 : decode cX11_enabled 39 = .ok (.iload_n 3, 1) := by decide +kernel
theorem dX11_enabled_40 : decode cX11_enabled 40 = .ok (.invokevirtual 202, 3) := by decide +kernel
theorem dX11_enabled_43 : decode cX11_enabled 43 = .ok (.ifCond .eq 20, 3) := by decide +kernel
theorem dX11_enabled_46 : decode cX11_enabled 46 = .ok (.goto 11, 3) := by decide +kernel
theorem dX11_enabled_49 : decode cX11_enabled 49 = .ok (.aload_n 0, 1) := by decide +kernel
theorem dX11_enabled_50 : decode cX11_enabled 50 = .ok (.iload_n 3, 1) := by decide +kernel
theorem dX11_enabled_51 : decode cX11_enabled 51 = .ok (.invokevirtual 205, 3) := by decide +kernel
theorem dX11_enabled_54 : decode cX11_enabled 54 = .ok (.ifCond .eq 9, 3) := by decide +kernel
theorem dX11_enabled_57 : decode cX11_enabled 57 = .ok (.iconst 1, 1) := by decide +kernel
theorem dX11_enabled_58 : decode cX11_enabled 58 = .ok (.iload_n 3, 1) := by decide +kernel
theorem dX11_enabled_59 : decode cX11_enabled 59 = .ok (.ishl, 1) := by decide +kernel
theorem dX11_enabled_60 : decode cX11_enabled 60 = .ok (.goto 4, 3) := by decide +kernel
theorem dX11_enabled_63 : decode cX11_enabled 63 = .ok (.iconst 0, 1) := by decide +kernel
theorem dX11_enabled_64 : decode cX11_enabled 64 = .ok (.ior, 1) := by decide +kernel
theorem dX11_enabled_65 : decode cX11_enabled 65 = .ok (.istore_n 2, 1) := by decide +kernel
theorem dX11_enabled_66 : decode cX11_enabled 66 = .ok (.iinc 3 1, 3) := by decide +kernel
theorem dX11_enabled_69 : decode cX11_enabled 69 = .ok (.goto (-44), 3) := by decide +kernel
theorem dX11_enabled_72 : decode cX11_enabled 72 = .ok (.iload_n 2, 1) := by decide +kernel
theorem dX11_enabled_73 : decode cX11_enabled 73 = .ok (.ireturn, 1) := by decide +kernel
theorem dX11_fire_0 : decode cX11_fire 0 = .ok (.aload_n 0, 1) := by decide +kernel
theorem dX11_fire_1 : decode cX11_fire 1 = .ok (.iload_n 1, 1) := by decide +kernel
theorem dX11_fire_2 : decode cX11_fire 2 = .ok (.invokevirtual 152, 3) := by decide +kernel
theorem dX11_fire_5 : decode cX11_fire 5 = .ok (.ifCond .ne 9, 3) := by decide +kernel
theorem dX11_fire_8 : decode cX11_fire 8 = .ok (.aload_n 0, 1) := by decide +kernel
theorem dX11_fire_9 : decode cX11_fire 9 = .ok (.iconst 1, 1) := by decide +kernel
theorem dX11_fire_10 : decode cX11_fire 10 = .ok (.invokevirtual 144, 3) := by decide +kernel
theorem dX11_fire_13 : decode cX11_fire 13 = .ok (.ireturn, 1) := by decide +kernel
theorem dX11_fire_14 : decode cX11_fire 14 = .ok (.aload_n 0, 1) := by decide +kernel
theorem dX11_fire_15 : decode cX11_fire 15 = .ok (.iload_n 1, 1) := by decide +kernel
theorem dX11_fire_16 : decode cX11_fire 16 = .ok (.invokevirtual 205, 3) := by decide +kernel
theorem dX11_fire_19 : decode cX11_fire 19 = .ok (.ifCond .eq 31, 3) := by decide +kernel
theorem dX11_fire_22 : decode cX11_fire 22 = .ok (.aload_n 0, 1) := by decide +kernel
theorem dX11_fire_23 : decode cX11_fire 23 = .ok (.iload_n 1, 1) := by decide +kernel
theorem dX11_fire_24 : decode cX11_fire 24 = .ok (.iconst 2, 1) := by decide +kernel
theorem dX11_fire_25 : decode cX11_fire 25 = .ok (.invokevirtual 155, 3) := by decide +kernel
theorem dX11_fire_28 : decode cX11_fire 28 = .ok (.iconst 1, 1) := by decide +kernel
theorem dX11_fire_29 : decode cX11_fire 29 = .ok (.if_icmp .ne 27, 3) := by decide +kernel
theorem dX11_fire_32 : decode cX11_fire 32 = .ok (.aload_n 0, 1) := by decide +kernel
theorem dX11_fire_33 : decode cX11_fire 33 = .ok (.aload_n 0, 1) := by decide +kernel
theorem dX11_fire_34 : decode cX11_fire 34 = .ok (.iload_n 1, 1) := by decide +kernel
theorem dX11_fire_35 : decode cX11_fire 35 = .ok (.iconst 3, 1) := by decide +kernel
theorem dX11_fire_36 : decode cX11_fire 36 = .ok (.invokevirtual 155, 3) := by decide +kernel
theorem dX11_fire_39 : decode cX11_fire 39 = .ok (.invokevirtual 172, 3) := by decide +kernel
theorem dX11_fire_42 : decode cX11_fire 42 = .ok (.invokestatic 111, 3) := by decide +kernel
theorem dX11_fire_45 : decode cX11_fire 45 = .ok (.bipush 10, 2) := by decide +kernel
theorem dX11_fire_47 : decode cX11_fire 47 = .ok (.if_icmp .ne 9, 3) := by decide +kernel
theorem dX11_fire_50 : decode cX11_fire 50 = .ok (.aload_n 0, 1) := by decide +kernel
theorem dX11_fire_51 : decode cX11_fire 51 = .ok (.iconst 2, 1) := by decide +kernel
theorem dX11_fire_52 : decode cX11_fire 52 = .ok (.invokevirtual 144, 3) := by decide +kernel
theorem dX11_fire_55 : decode cX11_fire 55 = .ok (.ireturn, 1) := by decide +kernel
theorem dX11_fire_56 : decode cX11_fire 56 = .ok (.aload_n 0, 1) := by decide +kernel
theorem dX11_fire_57 : decode cX11_fire 57 = .ok (.iconst 0, 1) := by decide +kernel
theorem dX11_fire_58 : decode cX11_fire 58 = .ok (.putfield 106, 3) := by decide +kernel
theorem dX11_fire_61 : decode cX11_fire 61 = .ok (.aload_n 0, 1) := by decide +kernel
theorem dX11_fire_62 : decode cX11_fire 62 = .ok (.iconst 0, 1) := by decide +kernel
theorem dX11_fire_63 : decode cX11_fire 63 = .ok (.invokevirtual 208, 3) := by decide +kernel
theorem dX11_fire_66 : decode cX11_fire 66 = .ok (.aload_n 0, 1) := by decide +kernel
theorem dX11_fire_67 : decode cX11_fire 67 = .ok (.iload_n 1, 1) := by decide +kernel
theorem dX11_fire_68 : decode cX11_fire 68 = .ok (.invokevirtual 212, 3) := by decide +kernel
theorem dX11_fire_71 : decode cX11_fire 71 = .ok (.aload_n 0, 1) := by decide +kernel
theorem dX11_fire_72 : decode cX11_fire 72 = .ok (.aload_n 0, 1) := by decide +kernel
theorem dX11_fire_73 : decode cX11_fire 73 = .ok (.getfield 179, 3) := by decide +kernel
theorem dX11_fire_76 : decode cX11_fire 76 = .ok (.putfield 169, 3) := by decide +kernel
theorem dX11_fire_79 : decode cX11_fire 79 = .ok (.aload_n 0, 1) := by decide +kernel
theorem dX11_fire_80 : decode cX11_fire 80 = .ok (.aload_n 0, 1) := by decide +kernel
theorem dX11_fire_81 : decode cX11_fire 81 = .ok (.getfield 182, 3) := by decide +kernel
theorem dX11_fire_84 : decode cX11_fire 84 = .ok (.putfield 159, 3) := by decide +kernel
theorem dX11_fire_87 : decode cX11_fire 87 = .ok (.aload_n 0, 1) := by decide +kernel
theorem dX11_fire_88 : decode cX11_fire 88 = .ok (.aload_n 0, 1) := by decide +kernel
theorem dX11_fire_89 : decode cX11_fire 89 = .ok (.getfield 185, 3) := by decide +kernel
theorem dX11_fire_92 : decode cX11_fire 92 = .ok (.putfield 163, 3) := by decide +kernel
theorem dX11_fire_95 : decode cX11_fire 95 = .ok (.aload_n 0, 1) := by decide +kernel
theorem dX11_fire_96 : decode cX11_fire 96 = .ok (.getfield 169, 3) := by decide +kernel
theorem dX11_fire_99 : decode cX11_fire 99 = .ok (.ireturn, 1) := by decide +kernel
theorem dX11_lose_0 : decode cX11_lose 0 = .ok (.iload_n 1, 1) := by decide +kernel
theorem dX11_lose_1 : decode cX11_lose 1 = .ok (.invokestatic 138, 3) := by decide +kernel
theorem dX11_lose_4 : decode cX11_lose 4 = .ok (.ifCond .ne 9, 3) := by decide +kernel
theorem dX11_lose_7 : decode cX11_lose 7 = .ok (.aload_n 0, 1) := by decide +kernel
theorem dX11_lose_8 : decode cX11_lose 8 = .ok (.iconst 1, 1) := by decide +kernel
theorem dX11_lose_9 : decode cX11_lose 9 = .ok (.invokevirtual 144, 3) := by decide +kernel
theorem dX11_lose_12 : decode cX11_lose 12 = .ok (.ireturn, 1) := by decide +kernel
theorem dX11_lose_13 : decode cX11_lose 13 = .ok (.iload_n 2, 1) := by decide +kernel
theorem dX11_lose_14 : decode cX11_lose 14 = .ok (.iconst 0, 1) := by decide +kernel
theorem dX11_lose_15 : decode cX11_lose 15 = .ok (.aload_n 0, 1) := by decide +kernel
theorem dX11_lose_16 : decode cX11_lose 16 = .ok (.iload_n 1, 1) := by decide +kernel
theorem dX11_lose_17 : decode cX11_lose 17 = .ok (.invokevirtual 172, 3) := by decide +kernel
theorem dX11_lose_20 : decode cX11_lose 20 = .ok (.invokestatic 111, 3) := by decide +kernel
theorem dX11_lose_23 : decode cX11_lose 23 = .ok (.iconst 1, 1) := by decide +kernel
theorem dX11_lose_24 : decode cX11_lose 24 = .ok (.isub, 1) := by decide +kernel
theorem dX11_lose_25 : decode cX11_lose 25 = .ok (.invokestatic 134, 3) := by decide +kernel
theorem dX11_lose_28 : decode cX11_lose 28 = .ok (.ifCond .ne 9, 3) := by decide +kernel
theorem dX11_lose_31 : decode cX11_lose 31 = .ok (.aload_n 0, 1) := by decide +kernel
theorem dX11_lose_32 : decode cX11_lose 32 = .ok (.iconst 2, 1) := by decide +kernel
theorem dX11_lose_33 : decode cX11_lose 33 = .ok (.invokevirtual 144, 3) := by decide +kernel
theorem dX11_lose_36 : decode cX11_lose 36 = .ok (.ireturn, 1) := by decide +kernel
theorem dX11_lose_37 : decode cX11_lose 37 = .ok (.aload_n 0, 1) := by decide +kernel
theorem dX11_lose_38 : decode cX11_lose 38 = .ok (.iconst 0, 1) := by decide +kernel
theorem dX11_lose_39 : decode cX11_lose 39 = .ok (.putfield 106, 3) := by decide +kernel
theorem dX11_lose_42 : decode cX11_lose 42 = .ok (.aload_n 0, 1) := by decide +kernel
theorem dX11_lose_43 : decode cX11_lose 43 = .ok (.iconst 1, 1) := by decide +kernel
theorem dX11_lose_44 : decode cX11_lose 44 = .ok (.invokevirtual 208, 3) := by decide +kernel
theorem dX11_lose_47 : decode cX11_lose 47 = .ok (.aload_n 0, 1) := by decide +kernel
theorem dX11_lose_48 : decode cX11_lose 48 = .ok (.iload_n 1, 1) := by decide +kernel
theorem dX11_lose_49 : decode cX11_lose 49 = .ok (.invokevirtual 172, 3) := by decide +kernel
theorem dX11_lose_52 : decode cX11_lose 52 = .ok (.iload_n 2, 1) := by decide +kernel
theorem dX11_lose_53 : decode cX11_lose 53 = .ok (.invokestatic 119, 3) := by decide +kernel
theorem dX11_lose_56 : decode cX11_lose 56 = .ok (.istore_n 3, 1) := by decide +kernel
theorem dX11_lose_57 : decode cX11_lose 57 = .ok (.aload_n 0, 1) := by decide +kernel
theorem dX11_lose_58 : decode cX11_lose 58 = .ok (.iload_n 1, 1) := by decide +kernel
theorem dX11_lose_59 : decode cX11_lose 59 = .ok (.aload_n 0, 1) := by decide +kernel
theorem dX11_lose_60 : decode cX11_lose 60 = .ok (.iload_n 1, 1) := by decide +kernel
theorem dX11_lose_61 : decode cX11_lose 61 = .ok (.invokevirtual 172, 3) := by decide +kernel
theorem dX11_lose_64 : decode cX11_lose 64 = .ok (.iload_n 2, 1) := by decide +kernel
theorem dX11_lose_65 : decode cX11_lose 65 = .ok (.invokestatic 215, 3) := by decide +kernel
theorem dX11_lose_68 : decode cX11_lose 68 = .ok (.invokevirtual 175, 3) := by decide +kernel
theorem dX11_lose_71 : decode cX11_lose 71 = .ok (.iload_n 3, 1) := by decide +kernel
theorem dX11_lose_72 : decode cX11_lose 72 = .ok (.ireturn, 1) := by decide +kernel
theorem dX11_undo_0 : decode cX11_undo 0 = .ok (.aload_n 0, 1) := by decide +kernel
theorem dX11_undo_1 : decode cX11_undo 1 = .ok (.getfield 166, 3) := by decide +kernel
theorem dX11_undo_4 : decode cX11_undo 4 = .ok (.ifCond .ne 9, 3) := by decide +kernel
theorem dX11_undo_7 : decode cX11_undo 7 = .ok (.aload_n 0, 1) := by decide +kernel
theorem dX11_undo_8 : decode cX11_undo 8 = .ok (.iconst 1, 1) := by decide +kernel
theorem dX11_undo_9 : decode cX11_undo 9 = .ok (.invokevirtual 144, 3) := by decide +kernel
theorem dX11_undo_12 : decode cX11_undo 12 = .ok (.ireturn, 1) := by decide +kernel
theorem dX11_undo_13 : decode cX11_undo 13 = .ok (.aload_n 0, 1) := by decide +kernel
theorem dX11_undo_14 : decode cX11_undo 14 = .ok (.iconst 0, 1) := by decide +kernel
theorem dX11_undo_15 : decode cX11_undo 15 = .ok (.putfield 106, 3) := by decide +kernel
theorem dX11_undo_18 : decode cX11_undo 18 = .ok (.aload_n 0, 1) := by decide +kernel
theorem dX11_undo_19 : decode cX11_undo 19 = .ok (.dup, 1) := by decide +kernel
theorem dX11_undo_20 : decode cX11_undo 20 = .ok (.getfield 166, 3) := by decide +kernel
theorem dX11_undo_23 : decode cX11_undo 23 = .ok (.iconst 1, 1) := by decide +kernel
theorem dX11_undo_24 : decode cX11_undo 24 = .ok (.isub, 1) := by decide +kernel
theorem dX11_undo_25 : decode cX11_undo 25 = .ok (.putfield 166, 3) := by decide +kernel
theorem dX11_undo_28 : decode cX11_undo 28 = .ok (.aload_n 0, 1) := by decide +kernel
theorem dX11_undo_29 : decode cX11_undo 29 = .ok (.aload_n 0, 1) := by decide +kernel
theorem dX11_undo_30 : decode cX11_undo 30 = .ok (.getfield 13, 3) := by decide +kernel
theorem dX11_undo_33 : decode cX11_undo 33 = .ok (.aload_n 0, 1) := by decide +kernel
theorem dX11_undo_34 : decode cX11_undo 34 = .ok (.getfield 166, 3) := by decide +kernel
theorem dX11_undo_37 : decode cX11_undo 37 = .ok (.iaload, 1) := by decide +kernel
theorem dX11_undo_38 : decode cX11_undo 38 = .ok (.putfield 169, 3) := by decide +kernel
theorem dX11_undo_41 : decode cX11_undo 41 = .ok (.aload_n 0, 1) := by decide +kernel
theorem dX11_undo_42 : decode cX11_undo 42 = .ok (.aload_n 0, 1) := by decide +kernel
theorem dX11_undo_43 : decode cX11_undo 43 = .ok (.getfield 19, 3) := by decide +kernel
theorem dX11_undo_46 : decode cX11_undo 46 = .ok (.aload_n 0, 1) := by decide +kernel
theorem dX11_undo_47 : decode cX11_undo 47 = .ok (.getfield 166, 3) := by decide +kernel
theorem dX11_undo_50 : decode cX11_undo 50 = .ok (.laload, 1) := by decide +kernel
theorem dX11_undo_51 : decode cX11_undo 51 = .ok (.putfield 159, 3) := by decide +kernel
theorem dX11_undo_54 : decode cX11_undo 54 = .ok (.aload_n 0, 1) := by decide +kernel
theorem dX11_undo_55 : decode cX11_undo 55 = .ok (.aload_n 0, 1) := by decide +kernel
theorem dX11_undo_56 : decode cX11_undo 56 = .ok (.getfield 23, 3) := by decide +kernel
theorem dX11_undo_59 : decode cX11_undo 59 = .ok (.aload_n 0, 1) := by decide +kernel
theorem dX11_undo_60 : decode cX11_undo 60 = .ok (.getfield 166, 3) := by decide +kernel
theorem dX11_undo_63 : decode cX11_undo 63 = .ok (.laload, 1) := by decide +kernel
theorem dX11_undo_64 : decode cX11_undo 64 = .ok (.putfield 163, 3) := by decide +kernel
theorem dX11_undo_67 : decode cX11_undo 67 = .ok (.aload_n 0, 1) := by decide +kernel
theorem dX11_undo_68 : decode cX11_undo 68 = .ok (.getfield 16, 3) := by decide +kernel
theorem dX11_undo_71 : decode cX11_undo 71 = .ok (.aload_n 0, 1) := by decide +kernel
theorem dX11_undo_72 : decode cX11_undo 72 = .ok (.getfield 166, 3) := by decide +kernel
theorem dX11_undo_75 : decode cX11_undo 75 = .ok (.iaload, 1) := by decide +kernel
theorem dX11_undo_76 : decode cX11_undo 76 = .ok (.ireturn, 1) := by decide +kernel
theorem dX11_increase_0 : decode cX11_increase 0 = .ok (.aload_n 0, 1) := by decide +kernel
theorem dX11_increase_1 : decode cX11_increase 1 = .ok (.iconst 0, 1) := by decide +kernel
theorem dX11_increase_2 : decode cX11_increase 2 = .ok (.putfield 106, 3) := by decide +kernel
theorem dX11_increase_5 : decode cX11_increase 5 = .ok (.aload_n 0, 1) := by decide +kernel
theorem dX11_increase_6 : decode cX11_increase 6 = .ok (.getfield 13, 3) := by decide +kernel
theorem dX11_increase_9 : decode cX11_increase 9 = .ok (.aload_n 0, 1) := by decide +kernel
theorem dX11_increase_10 : decode cX11_increase 10 = .ok (.getfield 166, 3) := by decide +kernel
theorem dX11_increase_13 : decode cX11_increase 13 = .ok (.aload_n 0, 1) := by decide +kernel
theorem dX11_increase_14 : decode cX11_increase 14 = .ok (.getfield 169, 3) := by decide +kernel
theorem dX11_increase_17 : decode cX11_increase 17 = .ok (.iastore, 1) := by decide +kernel
theorem dX11_increase_18 : decode cX11_increase 18 = .ok (.aload_n 0, 1) := by decide +kernel
theorem dX11_increase_19 : decode cX11_increase 19 = .ok (.getfield 19, 3) := by decide +kernel
theorem dX11_increase_22 : decode cX11_increase 22 = .ok (.aload_n 0, 1) := by decide +kernel
theorem dX11_increase_23 : decode cX11_increase 23 = .ok (.getfield 166, 3) := by decide +kernel
theorem dX11_increase_26 : decode cX11_increase 26 = .ok (.aload_n 0, 1) := by decide +kernel
theorem dX11_increase_27 : decode cX11_increase 27 = .ok (.getfield 159, 3) := by decide +kernel
theorem dX11_increase_30 : decode cX11_increase 30 = .ok (.lastore, 1) := by decide +kernel
theorem dX11_increase_31 : decode cX11_increase 31 = .ok (.aload_n 0, 1) := by decide +kernel
theorem dX11_increase_32 : decode cX11_increase 32 = .ok (.getfield 23, 3) := by decide +kernel
theorem dX11_increase_35 : decode cX11_increase 35 = .ok (.aload_n 0, 1) := by decide +kernel
theorem dX11_increase_36 : decode cX11_increase 36 = .ok (.getfield 166, 3) := by decide +kernel
theorem dX11_increase_39 : decode cX11_increase 39 = .ok (.aload_n 0, 1) := by decide +kernel
theorem dX11_increase_40 : decode cX11_increase 40 = .ok (.getfield 163, 3) := by decide +kernel
theorem dX11_increase_43 : decode cX11_increase 43 = .ok (.lastore, 1) := by decide +kernel
theorem dX11_increase_44 : decode cX11_increase 44 = .ok (.iconst 1, 1) := by decide +kernel
theorem dX11_increase_45 : decode cX11_increase 45 = .ok (.istore_n 1, 1) := by decide +kernel
theorem dX11_increase_46 : decode cX11_increase 46 = .ok (.iload_n 1, 1) := by decide +kernel
theorem dX11_increase_47 : decode cX11_increase 47 = .ok (.aload_n 0, 1) := by decide +kernel
theorem dX11_increase_48 : decode cX11_increase 48 = .ok (.getfield 166, 3) := by decide +kernel
theorem dX11_increase_51 : decode cX11_increase 51 = .ok (.if_icmp .gt 80, 3) := by decide +kernel
theorem dX11_increase_54 : decode cX11_increase 54 = .ok (.iconst 0, 1) := by decide +kernel
theorem dX11_increase_55 : decode cX11_increase 55 = .ok (.istore_n 2, 1) := by decide +kernel
theorem dX11_increase_56 : decode cX11_increase 56 = .ok (.iload_n 2, 1) := by decide +kernel
theorem dX11_increase_57 : decode cX11_increase 57 = .ok (.iload_n 1, 1) := by decide +kernel
theorem dX11_increase_58 : decode cX11_increase 58 = .ok (.if_icmp .ge 67, 3) := by decide +kernel
theorem dX11_increase_61 : decode cX11_increase 61 = .ok (.aload_n 0, 1) := by decide +kernel
theorem dX11_increase_62 : decode cX11_increase 62 = .ok (.getfield 13, 3) := by decide +kernel
theorem dX11_increase_65 : decode cX11_increase 65 = .ok (.iload_n 2, 1) := by decide +kernel
theorem dX11_increase_66 : decode cX11_increase 66 = .ok (.iaload, 1) := by decide +kernel
theorem dX11_increase_67 : decode cX11_increase 67 = .ok (.aload_n 0, 1) := by decide +kernel
theorem dX11_increase_68 : decode cX11_increase 68 = .ok (.getfield 13, 3) := by decide +kernel
theorem dX11_increase_71 : decode cX11_increase 71 = .ok (.iload_n 1, 1) := by decide +kernel
theorem dX11_increase_72 : decode cX11_increase 72 = .ok (.iaload, 1) := by decide +kernel
theorem dX11_increase_73 : decode cX11_increase 73 = .ok (.if_icmp .ne 46, 3) := by decide +kernel
theorem dX11_increase_76 : decode cX11_increase 76 = .ok (.aload_n 0, 1) := by decide +kernel
theorem dX11_increase_77 : decode cX11_increase 77 = .ok (.getfield 19, 3) := by decide +kernel
theorem dX11_increase_80 : decode cX11_increase 80 = .ok (.iload_n 2, 1) := by decide +kernel
theorem dX11_increase_81 : decode cX11_increase 81 = .ok (.laload, 1) := by decide +kernel
theorem dX11_increase_82 : decode cX11_increase 82 = .ok (.aload_n 0, 1) := by decide +kernel
theorem dX11_increase_83 : decode cX11_increase 83 = .ok (.getfield 19, 3) := by decide +kernel
theorem dX11_increase_86 : decode cX11_increase 86 = .ok (.iload_n 1, 1) := by decide +kernel
theorem dX11_increase_87 : decode cX11_increase 87 = .ok (.laload, 1) := by decide +kernel
theorem dX11_increase_88 : decode cX11_increase 88 = .ok (.invokestatic 218, 3) := by decide +kernel
theorem dX11_increase_91 : decode cX11_increase 91 = .ok (.ifCond .eq 28, 3) := by decide +kernel
theorem dX11_increase_94 : decode cX11_increase 94 = .ok (.aload_n 0, 1) := by decide +kernel
theorem dX11_increase_95 : decode cX11_increase 95 = .ok (.getfield 23, 3) := by decide +kernel
theorem dX11_increase_98 : decode cX11_increase 98 = .ok (.iload_n 2, 1) := by decide +kernel
theorem dX11_increase_99 : decode cX11_increase 99 = .ok (.laload, 1) := by decide +kernel
theorem dX11_increase_100 : decode cX11_increase 100 = .ok (.aload_n 0, 1) := by decide +kernel
theorem dX11_increase_101 : decode cX11_increase 101 = .ok (.getfield 23, 3) := by decide +kernel
theorem dX11_increase_104 : decode cX11_increase 104 = .ok (.iload_n 1, 1) := by decide +kernel
theorem dX11_increase_105 : decode cX11_increase 105 = .ok (.laload, 1) := by decide +kernel
theorem dX11_increase_106 : decode cX11_increase 106 = .ok (.invokestatic 218, 3) := by decide +kernel
theorem dX11_increase_109 : decode cX11_increase 109 = .ok (.ifCond .eq 10, 3) := by decide +kernel
theorem dX11_increase_112 : decode cX11_increase 112 = .ok (.bipush 100, 2) := by decide +kernel
theorem dX11_increase_114 : decode cX11_increase 114 = .ok (.iload_n 2, 1) := by decide +kernel
theorem dX11_increase_115 : decode cX11_increase 115 = .ok (.imul, 1) := by decide +kernel
theorem dX11_increase_116 : decode cX11_increase 116 = .ok (.iload_n 1, 1) := by decide +kernel
theorem dX11_increase_117 : decode cX11_increase 117 = .ok (.iadd, 1) := by decide +kernel
theorem dX11_increase_118 : decode cX11_increase 118 = .ok (.ireturn, 1) := by decide +kernel
theorem dX11_increase_119 : decode cX11_increase 119 = .ok (.iinc 2 1, 3) := by decide +kernel
theorem dX11_increase_122 : decode cX11_increase 122 = .ok (.goto (-66), 3) := by decide +kernel
theorem dX11_increase_125 : decode cX11_increase 125 = .ok (.iinc 1 1, 3) := by decide +kernel
theorem dX11_increase_128 : decode cX11_increase 128 = .ok (.goto (-82), 3) := by decide +kernel
theorem dX11_increase_131 : decode cX11_increase 131 = .ok (.iconst (-1), 1) := by decide +kernel
theorem dX11_increase_132 : decode cX11_increase 132 = .ok (.ireturn, 1) := by decide +kernel
theorem dX11_isBelow_0 : decode cX11_isBelow 0 = .ok (.iload_n 1, 1) := by decide +kernel
theorem dX11_isBelow_1 : decode cX11_isBelow 1 = .ok (.invokestatic 138, 3) := by decide +kernel
theorem dX11_isBelow_4 : decode cX11_isBelow 4 = .ok (.ifCond .ne 9, 3) := by decide +kernel
theorem dX11_isBelow_7 : decode cX11_isBelow 7 = .ok (.aload_n 0, 1) := by decide +kernel
theorem dX11_isBelow_8 : decode cX11_isBelow 8 = .ok (.iconst 1, 1) := by decide +kernel
theorem dX11_isBelow_9 : decode cX11_isBelow 9 = .ok (.invokevirtual 222, 3) := by decide +kernel
theorem dX11_isBelow_12 : decode cX11_isBelow 12 = .ok (.ireturn, 1) := by decide +kernel
theorem dX11_isBelow_13 : decode cX11_isBelow 13 = .ok (.aload_n 0, 1) := by decide +kernel
theorem dX11_isBelow_14 : decode cX11_isBelow 14 = .ok (.iconst 0, 1) := by decide +kernel
theorem dX11_isBelow_15 : decode cX11_isBelow 15 = .ok (.putfield 106, 3) := by decide +kernel
theorem dX11_isBelow_18 : decode cX11_isBelow 18 = .ok (.aload_n 0, 1) := by decide +kernel
theorem dX11_isBelow_19 : decode cX11_isBelow 19 = .ok (.iload_n 1, 1) := by decide +kernel
theorem dX11_isBelow_20 : decode cX11_isBelow 20 = .ok (.invokevirtual 172, 3) := by decide +kernel
theorem dX11_isBelow_23 : decode cX11_isBelow 23 = .ok (.aload_n 0, 1) := by decide +kernel
theorem dX11_isBelow_24 : decode cX11_isBelow 24 = .ok (.iconst 1, 1) := by decide +kernel
theorem dX11_isBelow_25 : decode cX11_isBelow 25 = .ok (.iload_n 1, 1) := by decide +kernel
theorem dX11_isBelow_26 : decode cX11_isBelow 26 = .ok (.isub, 1) := by decide +kernel
theorem dX11_isBelow_27 : decode cX11_isBelow 27 = .ok (.invokevirtual 172, 3) := by decide +kernel
theorem dX11_isBelow_30 : decode cX11_isBelow 30 = .ok (.invokestatic 218, 3) := by decide +kernel
theorem dX11_isBelow_33 : decode cX11_isBelow 33 = .ok (.ireturn, 1) := by decide +kernel
theorem dX11_embeddings_0 : decode cX11_embeddings 0 = .ok (.iload_n 1, 1) := by decide +kernel
theorem dX11_embeddings_1 : decode cX11_embeddings 1 = .ok (.invokestatic 138, 3) := by decide +kernel
theorem dX11_embeddings_4 : decode cX11_embeddings 4 = .ok (.ifCond .ne 9, 3) := by decide +kernel
theorem dX11_embeddings_7 : decode cX11_embeddings 7 = .ok (.aload_n 0, 1) := by decide +kernel
theorem dX11_embeddings_8 : decode cX11_embeddings 8 = .ok (.iconst 1, 1) := by decide +kernel
theorem dX11_embeddings_9 : decode cX11_embeddings 9 = .ok (.invokevirtual 144, 3) := by decide +kernel
theorem dX11_embeddings_12 : decode cX11_embeddings 12 = .ok (.ireturn, 1) := by decide +kernel
theorem dX11_embeddings_13 : decode cX11_embeddings 13 = .ok (.aload_n 0, 1) := by decide +kernel
theorem dX11_embeddings_14 : decode cX11_embeddings 14 = .ok (.iconst 0, 1) := by decide +kernel
theorem dX11_embeddings_15 : decode cX11_embeddings 15 = .ok (.putfield 106, 3) := by decide +kernel
theorem dX11_embeddings_18 : decode cX11_embeddings 18 = .ok (.aload_n 0, 1) := by decide +kernel
theorem dX11_embeddings_19 : decode cX11_embeddings 19 = .ok (.iload_n 1, 1) := by decide +kernel
theorem dX11_embeddings_20 : decode cX11_embeddings 20 = .ok (.invokevirtual 172, 3) := by decide +kernel
theorem dX11_embeddings_23 : decode cX11_embeddings 23 = .ok (.lstore_n 2, 1) := by decide +kernel
theorem dX11_embeddings_24 : decode cX11_embeddings 24 = .ok (.aload_n 0, 1) := by decide +kernel
theorem dX11_embeddings_25 : decode cX11_embeddings 25 = .ok (.iconst 1, 1) := by decide +kernel
theorem dX11_embeddings_26 : decode cX11_embeddings 26 = .ok (.iload_n 1, 1) := by decide +kernel
theorem dX11_embeddings_27 : decode cX11_embeddings 27 = .ok (.isub, 1) := by decide +kernel
theorem dX11_embeddings_28 : decode cX11_embeddings 28 = .ok (.invokevirtual 172, 3) := by decide +kernel
theorem dX11_embeddings_31 : decode cX11_embeddings 31 = .ok (.lstore 4, 2) := by decide +kernel
theorem dX11_embeddings_33 : decode cX11_embeddings 33 = .ok (.iconst 0, 1) := by decide +kernel
theorem dX11_embeddings_34 : decode cX11_embeddings 34 = .ok (.istore 6, 2) := by decide +kernel
theorem dX11_embeddings_36 : decode cX11_embeddings 36 = .ok (.iload 6, 2) := by decide +kernel
theorem dX11_embeddings_38 : decode cX11_embeddings 38 = .ok (.bipush 10, 2) := by decide +kernel
theorem dX11_embeddings_40 : decode cX11_embeddings 40 = .ok (.if_icmp .gt 26, 3) := by decide +kernel
theorem dX11_embeddings_43 : decode cX11_embeddings 43 = .ok (.aload_n 0, 1) := by decide +kernel
theorem dX11_embeddings_44 : decode cX11_embeddings 44 = .ok (.getfield 26, 3) := by decide +kernel
theorem dX11_embeddings_47 : decode cX11_embeddings 47 = .ok (.iload 6, 2) := by decide +kernel
theorem dX11_embeddings_49 : decode cX11_embeddings 49 = .ok (.iload 6, 2) := by decide +kernel
theorem dX11_embeddings_51 : decode cX11_embeddings 51 = .ok (.ifCond .ne 7, 3) := by decide +kernel
theorem dX11_embeddings_54 : decode cX11_embeddings 54 = .ok (.iconst 1, 1) := by decide +kernel
theorem dX11_embeddings_55 : decode cX11_embeddings 55 = .ok (.goto 4, 3) := by decide +kernel
theorem dX11_embeddings_58 : decode cX11_embeddings 58 = .ok (.iconst 0, 1) := by decide +kernel
theorem dX11_embeddings_59 : decode cX11_embeddings 59 = .ok (.iastore, 1) := by decide +kernel
theorem dX11_embeddings_60 : decode cX11_embeddings 60 = .ok (.iinc 6 1, 3) := by decide +kernel
theorem dX11_embeddings_63 : decode cX11_embeddings 63 = .ok (.goto (-27), 3) := by decide +kernel
theorem dX11_embeddings_66 : decode cX11_embeddings 66 = .ok (.iconst 0, 1) := by decide +kernel
theorem dX11_embeddings_67 : decode cX11_embeddings 67 = .ok (.istore 6, 2) := by decide +kernel
theorem dX11_embeddings_69 : decode cX11_embeddings 69 = .ok (.iload 6, 2) := by decide +kernel
theorem dX11_embeddings_71 : decode cX11_embeddings 71 = .ok (.lload 4, 2) := by decide +kernel
theorem dX11_embeddings_73 : decode cX11_embeddings 73 = .ok (.invokestatic 111, 3) := by decide +kernel
theorem dX11_embeddings_76 : decode cX11_embeddings 76 = .ok (.if_icmp .ge 67, 3) := by decide +kernel
theorem dX11_embeddings_79 : decode cX11_embeddings 79 = .ok (.lload_n 2, 1) := by decide +kernel
theorem dX11_embeddings_80 : decode cX11_embeddings 80 = .ok (.invokestatic 111, 3) := by decide +kernel
theorem dX11_embeddings_83 : decode cX11_embeddings 83 = .ok (.istore 7, 2) := by decide +kernel
theorem dX11_embeddings_85 : decode cX11_embeddings 85 = .ok (.iload 7, 2) := by decide +kernel
theorem dX11_embeddings_87 : decode cX11_embeddings 87 = .ok (.ifCond .le 50, 3) := by decide +kernel
theorem dX11_embeddings_90 : decode cX11_embeddings 90 = .ok (.aload_n 0, 1) := by decide +kernel
theorem dX11_embeddings_91 : decode cX11_embeddings 91 = .ok (.getfield 26, 3) := by decide +kernel
theorem dX11_embeddings_94 : decode cX11_embeddings 94 = .ok (.iload 7, 2) := by decide +kernel
theorem dX11_embeddings_96 : decode cX11_embeddings 96 = .ok (.dup2, 1) := by decide +kernel
theorem dX11_embeddings_97 : decode cX11_embeddings 97 = .ok (.iaload, 1) := by decide +kernel
theorem dX11_embeddings_98 : decode cX11_embeddings 98 = .ok (.lload_n 2, 1) := by decide +kernel
theorem dX11_embeddings_99 : decode cX11_embeddings 99 = .ok (.iload 7, 2) := by decide +kernel
theorem dX11_embeddings_101 : decode cX11_embeddings 101 = .ok (.iconst 1, 1) := by decide +kernel
theorem dX11_embeddings_102 : decode cX11_embeddings 102 = .ok (.isub, 1) := by decide +kernel
theorem dX11_embeddings_103 : decode cX11_embeddings 103 = .ok (.invokestatic 119, 3) := by decide +kernel
theorem dX11_embeddings_106 : decode cX11_embeddings 106 = .ok (.lload 4, 2) := by decide +kernel
theorem dX11_embeddings_108 : decode cX11_embeddings 108 = .ok (.iload 6, 2) := by decide +kernel
theorem dX11_embeddings_110 : decode cX11_embeddings 110 = .ok (.invokestatic 119, 3) := by decide +kernel
theorem dX11_embeddings_113 : decode cX11_embeddings 113 = .ok (.if_icmp .ne 15, 3) := by decide +kernel
theorem dX11_embeddings_116 : decode cX11_embeddings 116 = .ok (.aload_n 0, 1) := by decide +kernel
theorem dX11_embeddings_117 : decode cX11_embeddings 117 = .ok (.getfield 26, 3) := by decide +kernel
theorem dX11_embeddings_120 : decode cX11_embeddings 120 = .ok (.iload 7, 2) := by decide +kernel
theorem dX11_embeddings_122 : decode cX11_embeddings 122 = .ok (.iconst 1, 1) := by decide +kernel
theorem dX11_embeddings_123 : decode cX11_embeddings 123 = .ok (.isub, 1) := by decide +kernel
theorem dX11_embeddings_124 : decode cX11_embeddings 124 = .ok (.iaload, 1) := by decide +kernel
theorem dX11_embeddings_125 : decode cX11_embeddings 125 = .ok (.goto 4, 3) := by decide +kernel
theorem dX11_embeddings_128 : decode cX11_embeddings 128 = .ok (.iconst 0, 1) := by decide +kernel
theorem dX11_embeddings_129 : decode cX11_embeddings 129 = .ok (.iadd, 1) := by decide +kernel
theorem dX11_embeddings_130 : decode cX11_embeddings 130 = .ok (.iastore, 1) := by decide +kernel
theorem dX11_embeddings_131 : decode cX11_embeddings 131 = .ok (.iinc 7 (-1), 3) := by decide +kernel
theorem dX11_embeddings_134 : decode cX11_embeddings 134 = .ok (.goto (-49), 3) := by decide +kernel
theorem dX11_embeddings_137 : decode cX11_embeddings 137 = .ok (.iinc 6 1, 3) := by decide +kernel
theorem dX11_embeddings_140 : decode cX11_embeddings 140 = .ok (.goto (-71), 3) := by decide +kernel
theorem dX11_embeddings_143 : decode cX11_embeddings 143 = .ok (.aload_n 0, 1) := by decide +kernel
theorem dX11_embeddings_144 : decode cX11_embeddings 144 = .ok (.getfield 26, 3) := by decide +kernel
theorem dX11_embeddings_147 : decode cX11_embeddings 147 = .ok (.lload_n 2, 1) := by decide +kernel
theorem dX11_embeddings_148 : decode cX11_embeddings 148 = .ok (.invokestatic 111, 3) := by decide +kernel
theorem dX11_embeddings_151 : decode cX11_embeddings 151 = .ok (.iaload, 1) := by decide +kernel
theorem dX11_embeddings_152 : decode cX11_embeddings 152 = .ok (.ireturn, 1) := by decide +kernel
theorem dX11_common_0 : decode cX11_common 0 = .ok (.aload_n 0, 1) := by decide +kernel
theorem dX11_common_1 : decode cX11_common 1 = .ok (.iconst 0, 1) := by decide +kernel
theorem dX11_common_2 : decode cX11_common 2 = .ok (.putfield 106, 3) := by decide +kernel
theorem dX11_common_5 : decode cX11_common 5 = .ok (.iconst 0, 1) := by decide +kernel
theorem dX11_common_6 : decode cX11_common 6 = .ok (.istore_n 1, 1) := by decide +kernel
theorem dX11_common_7 : decode cX11_common 7 = .ok (.iload_n 1, 1) := by decide +kernel
theorem dX11_common_8 : decode cX11_common 8 = .ok (.bipush 10, 2) := by decide +kernel
theorem dX11_common_10 : decode cX11_common 10 = .ok (.if_icmp .gt 16, 3) := by decide +kernel
theorem dX11_common_13 : decode cX11_common 13 = .ok (.aload_n 0, 1) := by decide +kernel
theorem dX11_common_14 : decode cX11_common 14 = .ok (.getfield 26, 3) := by decide +kernel
theorem dX11_common_17 : decode cX11_common 17 = .ok (.iload_n 1, 1) := by decide +kernel
theorem dX11_common_18 : decode cX11_common 18 = .ok (.iconst 0, 1) := by decide +kernel
theorem dX11_common_19 : decode cX11_common 19 = .ok (.iastore, 1) := by decide +kernel
theorem dX11_common_20 : decode cX11_common 20 = .ok (.iinc 1 1, 3) := by decide +kernel
theorem dX11_common_23 : decode cX11_common 23 = .ok (.goto (-16), 3) := by decide +kernel
theorem dX11_common_26 : decode cX11_common 26 = .ok (.iconst 0, 1) := by decide +kernel
theorem dX11_common_27 : decode cX11_common 27 = .ok (.istore_n 1, 1) := by decide +kernel
theorem dX11_common_28 : decode cX11_common 28 = .ok (.iload_n 1, 1) := by decide +kernel
theorem dX11_common_29 : decode cX11_common 29 = .ok (.aload_n 0, 1) := by decide +kernel
theorem dX11_common_30 : decode cX11_common 30 = .ok (.getfield 159, 3) := by decide +kernel
theorem dX11_common_33 : decode cX11_common 33 = .ok (.invokestatic 111, 3) := by decide +kernel
theorem dX11_common_36 : decode cX11_common 36 = .ok (.if_icmp .ge 128, 3) := by decide +kernel
theorem dX11_common_39 : decode cX11_common 39 = .ok (.iconst 0, 1) := by decide +kernel
theorem dX11_common_40 : decode cX11_common 40 = .ok (.istore_n 2, 1) := by decide +kernel
theorem dX11_common_41 : decode cX11_common 41 = .ok (.iload_n 2, 1) := by decide +kernel
theorem dX11_common_42 : decode cX11_common 42 = .ok (.bipush 10, 2) := by decide +kernel
theorem dX11_common_44 : decode cX11_common 44 = .ok (.if_icmp .gt 21, 3) := by decide +kernel
theorem dX11_common_47 : decode cX11_common 47 = .ok (.aload_n 0, 1) := by decide +kernel
theorem dX11_common_48 : decode cX11_common 48 = .ok (.getfield 29, 3) := by decide +kernel
theorem dX11_common_51 : decode cX11_common 51 = .ok (.iload_n 2, 1) := by decide +kernel
theorem dX11_common_52 : decode cX11_common 52 = .ok (.aload_n 0, 1) := by decide +kernel
theorem dX11_common_53 : decode cX11_common 53 = .ok (.getfield 26, 3) := by decide +kernel
theorem dX11_common_56 : decode cX11_common 56 = .ok (.iload_n 2, 1) := by decide +kernel
theorem dX11_common_57 : decode cX11_common 57 = .ok (.iaload, 1) := by decide +kernel
theorem dX11_common_58 : decode cX11_common 58 = .ok (.iastore, 1) := by decide +kernel
theorem dX11_common_59 : decode cX11_common 59 = .ok (.iinc 2 1, 3) := by decide +kernel
theorem dX11_common_62 : decode cX11_common 62 = .ok (.goto (-21), 3) := by decide +kernel
theorem dX11_common_65 : decode cX11_common 65 = .ok (.iconst 0, 1) := by decide +kernel
theorem dX11_common_66 : decode cX11_common 66 = .ok (.istore_n 2, 1) := by decide +kernel
theorem dX11_common_67 : decode cX11_common 67 = .ok (.iload_n 2, 1) := by decide +kernel
theorem dX11_common_68 : decode cX11_common 68 = .ok (.aload_n 0, 1) := by decide +kernel
theorem dX11_common_69 : decode cX11_common 69 = .ok (.getfield 163, 3) := by decide +kernel
theorem dX11_common_72 : decode cX11_common 72 = .ok (.invokestatic 111, 3) := by decide +kernel
theorem dX11_common_75 : decode cX11_common 75 = .ok (.if_icmp .ge 83, 3) := by decide +kernel
theorem dX11_common_78 : decode cX11_common 78 = .ok (.aload_n 0, 1) := by decide +kernel
theorem dX11_common_79 : decode cX11_common 79 = .ok (.getfield 29, 3) := by decide +kernel
theorem dX11_common_82 : decode cX11_common 82 = .ok (.iload_n 2, 1) := by decide +kernel
theorem dX11_common_83 : decode cX11_common 83 = .ok (.iconst 1, 1) := by decide +kernel
theorem dX11_common_84 : decode cX11_common 84 = .ok (.iadd, 1) := by decide +kernel
theorem dX11_common_85 : decode cX11_common 85 = .ok (.iaload, 1) := by decide +kernel
theorem dX11_common_86 : decode cX11_common 86 = .ok (.aload_n 0, 1) := by decide +kernel
theorem dX11_common_87 : decode cX11_common 87 = .ok (.getfield 26, 3) := by decide +kernel
theorem dX11_common_90 : decode cX11_common 90 = .ok (.iload_n 2, 1) := by decide +kernel
theorem dX11_common_91 : decode cX11_common 91 = .ok (.iaload, 1) := by decide +kernel
theorem dX11_common_92 : decode cX11_common 92 = .ok (.if_icmp .le 14, 3) := by decide +kernel
theorem dX11_common_95 : decode cX11_common 95 = .ok (.aload_n 0, 1) := by decide +kernel
theorem dX11_common_96 : decode cX11_common 96 = .ok (.getfield 29, 3) := by decide +kernel
theorem dX11_common_99 : decode cX11_common 99 = .ok (.iload_n 2, 1) := by decide +kernel
theorem dX11_common_100 : decode cX11_common 100 = .ok (.iconst 1, 1) := by decide +kernel
theorem dX11_common_101 : decode cX11_common 101 = .ok (.iadd, 1) := by decide +kernel
theorem dX11_common_102 : decode cX11_common 102 = .ok (.iaload, 1) := by decide +kernel
theorem dX11_common_103 : decode cX11_common 103 = .ok (.goto 9, 3) := by decide +kernel
theorem dX11_common_106 : decode cX11_common 106 = .ok (.aload_n 0, 1) := by decide +kernel
theorem dX11_common_107 : decode cX11_common 107 = .ok (.getfield 26, 3) := by decide +kernel
theorem dX11_common_110 : decode cX11_common 110 = .ok (.iload_n 2, 1) := by decide +kernel
theorem dX11_common_111 : decode cX11_common 111 = .ok (.iaload, 1) := by decide +kernel
theorem dX11_common_112 : decode cX11_common 112 = .ok (.istore_n 3, 1) := by decide +kernel
theorem dX11_common_113 : decode cX11_common 113 = .ok (.aload_n 0, 1) := by decide +kernel
theorem dX11_common_114 : decode cX11_common 114 = .ok (.getfield 26, 3) := by decide +kernel
theorem dX11_common_117 : decode cX11_common 117 = .ok (.iload_n 2, 1) := by decide +kernel
theorem dX11_common_118 : decode cX11_common 118 = .ok (.iconst 1, 1) := by decide +kernel
theorem dX11_common_119 : decode cX11_common 119 = .ok (.iadd, 1) := by decide +kernel
theorem dX11_common_120 : decode cX11_common 120 = .ok (.aload_n 0, 1) := by decide +kernel
theorem dX11_common_121 : decode cX11_common 121 = .ok (.getfield 159, 3) := by decide +kernel
theorem dX11_common_124 : decode cX11_common 124 = .ok (.iload_n 1, 1) := by decide +kernel
theorem dX11_common_125 : decode cX11_common 125 = .ok (.invokestatic 119, 3) := by decide +kernel
theorem dX11_common_128 : decode cX11_common 128 = .ok (.aload_n 0, 1) := by decide +kernel
theorem dX11_common_129 : decode cX11_common 129 = .ok (.getfield 163, 3) := by decide +kernel
theorem dX11_common_132 : decode cX11_common 132 = .ok (.iload_n 2, 1) := by decide +kernel
theorem dX11_common_133 : decode cX11_common 133 = .ok (.invokestatic 119, 3) := by decide +kernel
theorem dX11_common_136 : decode cX11_common 136 = .ok (.if_icmp .ne 14, 3) := by decide +kernel
theorem dX11_common_139 : decode cX11_common 139 = .ok (.aload_n 0, 1) := by decide +kernel
theorem dX11_common_140 : decode cX11_common 140 = .ok (.getfield 29, 3) := by decide +kernel
theorem dX11_common_143 : decode cX11_common 143 = .ok (.iload_n 2, 1) := by decide +kernel
theorem dX11_common_144 : decode cX11_common 144 = .ok (.iaload, 1) := by decide +kernel
theorem dX11_common_145 : decode cX11_common 145 = .ok (.iconst 1, 1) := by decide +kernel
theorem dX11_common_146 : decode cX11_common 146 = .ok (.iadd, 1) := by decide +kernel
theorem dX11_common_147 : decode cX11_common 147 = .ok (.goto 4, 3) := by decide +kernel
theorem dX11_common_150 : decode cX11_common 150 = .ok (.iload_n 3, 1) := by decide +kernel
theorem dX11_common_151 : decode cX11_common 151 = .ok (.iastore, 1) := by decide +kernel
theorem dX11_common_152 : decode cX11_common 152 = .ok (.iinc 2 1, 3) := by decide +kernel
theorem dX11_common_155 : decode cX11_common 155 = .ok (.goto (-88), 3) := by decide +kernel
theorem dX11_common_158 : decode cX11_common 158 = .ok (.iinc 1 1, 3) := by decide +kernel
theorem dX11_common_161 : decode cX11_common 161 = .ok (.goto (-133), 3) := by decide +kernel
theorem dX11_common_164 : decode cX11_common 164 = .ok (.aload_n 0, 1) := by decide +kernel
theorem dX11_common_165 : decode cX11_common 165 = .ok (.getfield 26, 3) := by decide +kernel
theorem dX11_common_168 : decode cX11_common 168 = .ok (.aload_n 0, 1) := by decide +kernel
theorem dX11_common_169 : decode cX11_common 169 = .ok (.getfield 163, 3) := by decide +kernel
theorem dX11_common_172 : decode cX11_common 172 = .ok (.invokestatic 111, 3) := by decide +kernel
theorem dX11_common_175 : decode cX11_common 175 = .ok (.iaload, 1) := by decide +kernel
theorem dX11_common_176 : decode cX11_common 176 = .ok (.ireturn, 1) := by decide +kernel
theorem dX11_subwords_0 : decode cX11_subwords 0 = .ok (.iload_n 1, 1) := by decide +kernel
theorem dX11_subwords_1 : decode cX11_subwords 1 = .ok (.invokestatic 138, 3) := by decide +kernel
theorem dX11_subwords_4 : decode cX11_subwords 4 = .ok (.ifCond .ne 9, 3) := by decide +kernel
theorem dX11_subwords_7 : decode cX11_subwords 7 = .ok (.aload_n 0, 1) := by decide +kernel
theorem dX11_subwords_8 : decode cX11_subwords 8 = .ok (.iconst 1, 1) := by decide +kernel
theorem dX11_subwords_9 : decode cX11_subwords 9 = .ok (.invokevirtual 144, 3) := by decide +kernel
theorem dX11_subwords_12 : decode cX11_subwords 12 = .ok (.ireturn, 1) := by decide +kernel
theorem dX11_subwords_13 : decode cX11_subwords 13 = .ok (.aload_n 0, 1) := by decide +kernel
theorem dX11_subwords_14 : decode cX11_subwords 14 = .ok (.iconst 0, 1) := by decide +kernel
theorem dX11_subwords_15 : decode cX11_subwords 15 = .ok (.putfield 106, 3) := by decide +kernel
theorem dX11_subwords_18 : decode cX11_subwords 18 = .ok (.aload_n 0, 1) := by decide +kernel
theorem dX11_subwords_19 : decode cX11_subwords 19 = .ok (.iload_n 1, 1) := by decide +kernel
theorem dX11_subwords_20 : decode cX11_subwords 20 = .ok (.invokevirtual 172, 3) := by decide +kernel
theorem dX11_subwords_23 : decode cX11_subwords 23 = .ok (.lstore_n 2, 1) := by decide +kernel
theorem dX11_subwords_24 : decode cX11_subwords 24 = .ok (.iconst 1, 1) := by decide +kernel
theorem dX11_subwords_25 : decode cX11_subwords 25 = .ok (.istore 4, 2) := by decide +kernel
theorem dX11_subwords_27 : decode cX11_subwords 27 = .ok (.iconst 3, 1) := by decide +kernel
theorem dX11_subwords_28 : decode cX11_subwords 28 = .ok (.newarray .int, 2) := by decide +kernel
theorem dX11_subwords_30 : decode cX11_subwords 30 = .ok (.dup, 1) := by decide +kernel
theorem dX11_subwords_31 : decode cX11_subwords 31 = .ok (.iconst 0, 1) := by decide +kernel
theorem dX11_subwords_32 : decode cX11_subwords 32 = .ok (.iconst 0, 1) := by decide +kernel
theorem dX11_subwords_33 : decode cX11_subwords 33 = .ok (.iastore, 1) := by decide +kernel
theorem dX11_subwords_34 : decode cX11_subwords 34 = .ok (.dup, 1) := by decide +kernel
theorem dX11_subwords_35 : decode cX11_subwords 35 = .ok (.iconst 1, 1) := by decide +kernel
theorem dX11_subwords_36 : decode cX11_subwords 36 = .ok (.iconst 0, 1) := by decide +kernel
theorem dX11_subwords_37 : decode cX11_subwords 37 = .ok (.iastore, 1) := by decide +kernel
theorem dX11_subwords_38 : decode cX11_subwords 38 = .ok (.dup, 1) := by decide +kernel
theorem dX11_subwords_39 : decode cX11_subwords 39 = .ok (.iconst 2, 1) := by decide +kernel
theorem dX11_subwords_40 : decode cX11_subwords 40 = .ok (.iconst 0, 1) := by decide +kernel
theorem dX11_subwords_41 : decode cX11_subwords 41 = .ok (.iastore, 1) := by decide +kernel
theorem dX11_subwords_42 : decode cX11_subwords 42 = .ok (.astore 5, 2) := by decide +kernel
theorem dX11_subwords_44 : decode cX11_subwords 44 = .ok (.iconst 0, 1) := by decide +kernel
theorem dX11_subwords_45 : decode cX11_subwords 45 = .ok (.istore 6, 2) := by decide +kernel
theorem dX11_subwords_47 : decode cX11_subwords 47 = .ok (.iload 6, 2) := by decide +kernel
theorem dX11_subwords_49 : decode cX11_subwords 49 = .ok (.lload_n 2, 1) := by decide +kernel
theorem dX11_subwords_50 : decode cX11_subwords 50 = .ok (.invokestatic 111, 3) := by decide +kernel
theorem dX11_subwords_53 : decode cX11_subwords 53 = .ok (.if_icmp .ge 41, 3) := by decide +kernel
theorem dX11_subwords_56 : decode cX11_subwords 56 = .ok (.lload_n 2, 1) := by decide +kernel
theorem dX11_subwords_57 : decode cX11_subwords 57 = .ok (.iload 6, 2) := by decide +kernel
theorem dX11_subwords_59 : decode cX11_subwords 59 = .ok (.invokestatic 119, 3) := by decide +kernel
theorem dX11_subwords_62 : decode cX11_subwords 62 = .ok (.istore 7, 2) := by decide +kernel
theorem dX11_subwords_64 : decode cX11_subwords 64 = .ok (.iload 4, 2) := by decide +kernel
theorem dX11_subwords_66 : decode cX11_subwords 66 = .ok (.istore 8, 2) := by decide +kernel
theorem dX11_subwords_68 : decode cX11_subwords 68 = .ok (.iload 4, 2) := by decide +kernel
theorem dX11_subwords_70 : decode cX11_subwords 70 = .ok (.iload 8, 2) := by decide +kernel
theorem dX11_subwords_72 : decode cX11_subwords 72 = .ok (.aload 5, 2) := by decide +kernel
theorem dX11_subwords_74 : decode cX11_subwords 74 = .ok (.iload 7, 2) := by decide +kernel
theorem dX11_subwords_76 : decode cX11_subwords 76 = .ok (.iaload, 1) := by decide +kernel
theorem dX11_subwords_77 : decode cX11_subwords 77 = .ok (.isub, 1) := by decide +kernel
theorem dX11_subwords_78 : decode cX11_subwords 78 = .ok (.iadd, 1) := by decide +kernel
theorem dX11_subwords_79 : decode cX11_subwords 79 = .ok (.istore 4, 2) := by decide +kernel
theorem dX11_subwords_81 : decode cX11_subwords 81 = .ok (.aload 5, 2) := by decide +kernel
theorem dX11_subwords_83 : decode cX11_subwords 83 = .ok (.iload 7, 2) := by decide +kernel
theorem dX11_subwords_85 : decode cX11_subwords 85 = .ok (.iload 8, 2) := by decide +kernel
theorem dX11_subwords_87 : decode cX11_subwords 87 = .ok (.iastore, 1) := by decide +kernel
theorem dX11_subwords_88 : decode cX11_subwords 88 = .ok (.iinc 6 1, 3) := by decide +kernel
theorem dX11_subwords_91 : decode cX11_subwords 91 = .ok (.goto (-44), 3) := by decide +kernel
theorem dX11_subwords_94 : decode cX11_subwords 94 = .ok (.iload 4, 2) := by decide +kernel
theorem dX11_subwords_96 : decode cX11_subwords 96 = .ok (.ireturn, 1) := by decide +kernel
theorem dX11_addsGoal_0 : decode cX11_addsGoal 0 = .ok (.aload_n 0, 1) := by decide +kernel
theorem dX11_addsGoal_1 : decode cX11_addsGoal 1 = .ok (.getfield 32, 3) := by decide +kernel
theorem dX11_addsGoal_4 : decode cX11_addsGoal 4 = .ok (.aload_n 0, 1) := by decide +kernel
theorem dX11_addsGoal_5 : decode cX11_addsGoal 5 = .ok (.getfield 225, 3) := by decide +kernel
theorem dX11_addsGoal_8 : decode cX11_addsGoal 8 = .ok (.iload_n 1, 1) := by decide +kernel
theorem dX11_addsGoal_9 : decode cX11_addsGoal 9 = .ok (.iastore, 1) := by decide +kernel
theorem dX11_addsGoal_10 : decode cX11_addsGoal 10 = .ok (.aload_n 0, 1) := by decide +kernel
theorem dX11_addsGoal_11 : decode cX11_addsGoal 11 = .ok (.getfield 35, 3) := by decide +kernel
theorem dX11_addsGoal_14 : decode cX11_addsGoal 14 = .ok (.aload_n 0, 1) := by decide +kernel
theorem dX11_addsGoal_15 : decode cX11_addsGoal 15 = .ok (.getfield 225, 3) := by decide +kernel
theorem dX11_addsGoal_18 : decode cX11_addsGoal 18 = .ok (.lload_n 2, 1) := by decide +kernel
theorem dX11_addsGoal_19 : decode cX11_addsGoal 19 = .ok (.lastore, 1) := by decide +kernel
theorem dX11_addsGoal_20 : decode cX11_addsGoal 20 = .ok (.aload_n 0, 1) := by decide +kernel
theorem dX11_addsGoal_21 : decode cX11_addsGoal 21 = .ok (.getfield 38, 3) := by decide +kernel
theorem dX11_addsGoal_24 : decode cX11_addsGoal 24 = .ok (.aload_n 0, 1) := by decide +kernel
theorem dX11_addsGoal_25 : decode cX11_addsGoal 25 = .ok (.getfield 225, 3) := by decide +kernel
theorem dX11_addsGoal_28 : decode cX11_addsGoal 28 = .ok (.lload 4, 2) := by decide +kernel
theorem dX11_addsGoal_30 : decode cX11_addsGoal 30 = .ok (.lastore, 1) := by decide +kernel
theorem dX11_addsGoal_31 : decode cX11_addsGoal 31 = .ok (.aload_n 0, 1) := by decide +kernel
theorem dX11_addsGoal_32 : decode cX11_addsGoal 32 = .ok (.dup, 1) := by decide +kernel
theorem dX11_addsGoal_33 : decode cX11_addsGoal 33 = .ok (.getfield 225, 3) := by decide +kernel
theorem dX11_addsGoal_36 : decode cX11_addsGoal 36 = .ok (.iconst 1, 1) := by decide +kernel
theorem dX11_addsGoal_37 : decode cX11_addsGoal 37 = .ok (.iadd, 1) := by decide +kernel
theorem dX11_addsGoal_38 : decode cX11_addsGoal 38 = .ok (.putfield 225, 3) := by decide +kernel
theorem dX11_addsGoal_41 : decode cX11_addsGoal 41 = .ok (.aload_n 0, 1) := by decide +kernel
theorem dX11_addsGoal_42 : decode cX11_addsGoal 42 = .ok (.iconst 0, 1) := by decide +kernel
theorem dX11_addsGoal_43 : decode cX11_addsGoal 43 = .ok (.putfield 126, 3) := by decide +kernel
theorem dX11_addsGoal_46 : decode cX11_addsGoal 46 = .ok (.return_, 1) := by decide +kernel
theorem dX11_addGoal_0 : decode cX11_addGoal 0 = .ok (.aload_n 0, 1) := by decide +kernel
theorem dX11_addGoal_1 : decode cX11_addGoal 1 = .ok (.getfield 225, 3) := by decide +kernel
theorem dX11_addGoal_4 : decode cX11_addGoal 4 = .ok (.iconst 3, 1) := by decide +kernel
theorem dX11_addGoal_5 : decode cX11_addGoal 5 = .ok (.if_icmp .ne 9, 3) := by decide +kernel
theorem dX11_addGoal_8 : decode cX11_addGoal 8 = .ok (.aload_n 0, 1) := by decide +kernel
theorem dX11_addGoal_9 : decode cX11_addGoal 9 = .ok (.iconst 1, 1) := by decide +kernel
theorem dX11_addGoal_10 : decode cX11_addGoal 10 = .ok (.invokevirtual 144, 3) := by decide +kernel
theorem dX11_addGoal_13 : decode cX11_addGoal 13 = .ok (.ireturn, 1) := by decide +kernel
theorem dX11_addGoal_14 : decode cX11_addGoal 14 = .ok (.aload_n 0, 1) := by decide +kernel
theorem dX11_addGoal_15 : decode cX11_addGoal 15 = .ok (.iconst 0, 1) := by decide +kernel
theorem dX11_addGoal_16 : decode cX11_addGoal 16 = .ok (.putfield 106, 3) := by decide +kernel
theorem dX11_addGoal_19 : decode cX11_addGoal 19 = .ok (.aload_n 0, 1) := by decide +kernel
theorem dX11_addGoal_20 : decode cX11_addGoal 20 = .ok (.aload_n 0, 1) := by decide +kernel
theorem dX11_addGoal_21 : decode cX11_addGoal 21 = .ok (.getfield 169, 3) := by decide +kernel
theorem dX11_addGoal_24 : decode cX11_addGoal 24 = .ok (.aload_n 0, 1) := by decide +kernel
theorem dX11_addGoal_25 : decode cX11_addGoal 25 = .ok (.getfield 159, 3) := by decide +kernel
theorem dX11_addGoal_28 : decode cX11_addGoal 28 = .ok (.aload_n 0, 1) := by decide +kernel
theorem dX11_addGoal_29 : decode cX11_addGoal 29 = .ok (.getfield 163, 3) := by decide +kernel
theorem dX11_addGoal_32 : decode cX11_addGoal 32 = .ok (.invokevirtual 228, 3) := by decide +kernel
theorem dX11_addGoal_35 : decode cX11_addGoal 35 = .ok (.aload_n 0, 1) := by decide +kernel
theorem dX11_addGoal_36 : decode cX11_addGoal 36 = .ok (.getfield 225, 3) := by decide +kernel
theorem dX11_addGoal_39 : decode cX11_addGoal 39 = .ok (.ireturn, 1) := by decide +kernel
theorem dX11_clearGoals_0 : decode cX11_clearGoals 0 = .ok (.aload_n 0, 1) := by decide +kernel
theorem dX11_clearGoals_1 : decode cX11_clearGoals 1 = .ok (.iconst 0, 1) := by decide +kernel
theorem dX11_clearGoals_2 : decode cX11_clearGoals 2 = .ok (.putfield 106, 3) := by decide +kernel
theorem dX11_clearGoals_5 : decode cX11_clearGoals 5 = .ok (.aload_n 0, 1) := by decide +kernel
theorem dX11_clearGoals_6 : decode cX11_clearGoals 6 = .ok (.getfield 225, 3) := by decide +kernel
theorem dX11_clearGoals_9 : decode cX11_clearGoals 9 = .ok (.istore_n 1, 1) := by decide +kernel
theorem dX11_clearGoals_10 : decode cX11_clearGoals 10 = .ok (.aload_n 0, 1) := by decide +kernel
theorem dX11_clearGoals_11 : decode cX11_clearGoals 11 = .ok (.iconst 0, 1) := by decide +kernel
theorem dX11_clearGoals_12 : decode cX11_clearGoals 12 = .ok (.putfield 225, 3) := by decide +kernel
theorem dX11_clearGoals_15 : decode cX11_clearGoals 15 = .ok (.aload_n 0, 1) := by decide +kernel
theorem dX11_clearGoals_16 : decode cX11_clearGoals 16 = .ok (.iconst 0, 1) := by decide +kernel
theorem dX11_clearGoals_17 : decode cX11_clearGoals 17 = .ok (.putfield 126, 3) := by decide +kernel
theorem dX11_clearGoals_20 : decode cX11_clearGoals 20 = .ok (.iload_n 1, 1) := by decide +kernel
theorem dX11_clearGoals_21 : decode cX11_clearGoals 21 = .ok (.ireturn, 1) := by decide +kernel
theorem dX11_makes_0 : decode cX11_makes 0 = .ok (.iconst 0, 1) := by decide +kernel
theorem dX11_makes_1 : decode cX11_makes 1 = .ok (.istore 6, 2) := by decide +kernel
theorem dX11_makes_3 : decode cX11_makes 3 = .ok (.iload 6, 2) := by decide +kernel
theorem dX11_makes_5 : decode cX11_makes 5 = .ok (.aload_n 0, 1) := by decide +kernel
theorem dX11_makes_6 : decode cX11_makes 6 = .ok (.getfield 231, 3) := by decide +kernel
theorem dX11_makes_9 : decode cX11_makes 9 = .ok (.if_icmp .ge 50, 3) := by decide +kernel
theorem dX11_makes_12 : decode cX11_makes 12 = .ok (.aload_n 0, 1) := by decide +kernel
theorem dX11_makes_13 : decode cX11_makes 13 = .ok (.getfield 47, 3) := by decide +kernel
theorem dX11_makes_16 : decode cX11_makes 16 = .ok (.iload 6, 2) := by decide +kernel
theorem dX11_makes_18 : decode cX11_makes 18 = .ok (.iaload, 1) := by decide +kernel
theorem dX11_makes_19 : decode cX11_makes 19 = .ok (.iload_n 1, 1) := by decide +kernel
theorem dX11_makes_20 : decode cX11_makes 20 = .ok (.if_icmp .ne 33, 3) := by decide +kernel
theorem dX11_makes_23 : decode cX11_makes 23 = .ok (.aload_n 0, 1) := by decide +kernel
theorem dX11_makes_24 : decode cX11_makes 24 = .ok (.getfield 56, 3) := by decide +kernel
theorem dX11_makes_27 : decode cX11_makes 27 = .ok (.iload 6, 2) := by decide +kernel
theorem dX11_makes_29 : decode cX11_makes 29 = .ok (.laload, 1) := by decide +kernel
theorem dX11_makes_30 : decode cX11_makes 30 = .ok (.lload_n 2, 1) := by decide +kernel
theorem dX11_makes_31 : decode cX11_makes 31 = .ok (.invokestatic 218, 3) := by decide +kernel
theorem dX11_makes_34 : decode cX11_makes 34 = .ok (.ifCond .eq 19, 3) := by decide +kernel
theorem dX11_makes_37 : decode cX11_makes 37 = .ok (.aload_n 0, 1) := by decide +kernel
theorem dX11_makes_38 : decode cX11_makes 38 = .ok (.getfield 59, 3) := by decide +kernel
theorem dX11_makes_41 : decode cX11_makes 41 = .ok (.iload 6, 2) := by decide +kernel
theorem dX11_makes_43 : decode cX11_makes 43 = .ok (.laload, 1) := by decide +kernel
theorem dX11_makes_44 : decode cX11_makes 44 = .ok (.lload 4, 2) := by decide +kernel
theorem dX11_makes_46 : decode cX11_makes 46 = .ok (.invokestatic 218, 3) := by decide +kernel
theorem dX11_makes_49 : decode cX11_makes 49 = .ok (.ifCond .eq 4, 3) := by decide +kernel
theorem dX11_makes_52 : decode cX11_makes 52 = .ok (.return_, 1) := by decide +kernel
theorem dX11_makes_53 : decode cX11_makes 53 = .ok (.iinc 6 1, 3) := by decide +kernel
theorem dX11_makes_56 : decode cX11_makes 56 = .ok (.goto (-53), 3) := by decide +kernel
theorem dX11_makes_59 : decode cX11_makes 59 = .ok (.iconst 0, 1) := by decide +kernel
theorem dX11_makes_60 : decode cX11_makes 60 = .ok (.istore 6, 2) := by decide +kernel
theorem dX11_makes_62 : decode cX11_makes 62 = .ok (.iconst 0, 1) := by decide +kernel
theorem dX11_makes_63 : decode cX11_makes 63 = .ok (.istore 7, 2) := by decide +kernel
theorem dX11_makes_65 : decode cX11_makes 65 = .ok (.iload 7, 2) := by decide +kernel
theorem dX11_makes_67 : decode cX11_makes 67 = .ok (.aload_n 0, 1) := by decide +kernel
theorem dX11_makes_68 : decode cX11_makes 68 = .ok (.getfield 231, 3) := by decide +kernel
theorem dX11_makes_71 : decode cX11_makes 71 = .ok (.if_icmp .ge 97, 3) := by decide +kernel
theorem dX11_makes_74 : decode cX11_makes 74 = .ok (.aload_n 0, 1) := by decide +kernel
theorem dX11_makes_75 : decode cX11_makes 75 = .ok (.getfield 47, 3) := by decide +kernel
theorem dX11_makes_78 : decode cX11_makes 78 = .ok (.iload 7, 2) := by decide +kernel
theorem dX11_makes_80 : decode cX11_makes 80 = .ok (.iaload, 1) := by decide +kernel
theorem dX11_makes_81 : decode cX11_makes 81 = .ok (.iload_n 1, 1) := by decide +kernel
theorem dX11_makes_82 : decode cX11_makes 82 = .ok (.if_icmp .ne 35, 3) := by decide +kernel
theorem dX11_makes_85 : decode cX11_makes 85 = .ok (.lload_n 2, 1) := by decide +kernel
theorem dX11_makes_86 : decode cX11_makes 86 = .ok (.aload_n 0, 1) := by decide +kernel
theorem dX11_makes_87 : decode cX11_makes 87 = .ok (.getfield 56, 3) := by decide +kernel
theorem dX11_makes_90 : decode cX11_makes 90 = .ok (.iload 7, 2) := by decide +kernel
theorem dX11_makes_92 : decode cX11_makes 92 = .ok (.laload, 1) := by decide +kernel
theorem dX11_makes_93 : decode cX11_makes 93 = .ok (.invokestatic 218, 3) := by decide +kernel
theorem dX11_makes_96 : decode cX11_makes 96 = .ok (.ifCond .eq 21, 3) := by decide +kernel
theorem dX11_makes_99 : decode cX11_makes 99 = .ok (.lload 4, 2) := by decide +kernel
theorem dX11_makes_101 : decode cX11_makes 101 = .ok (.aload_n 0, 1) := by decide +kernel
theorem dX11_makes_102 : decode cX11_makes 102 = .ok (.getfield 59, 3) := by decide +kernel
theorem dX11_makes_105 : decode cX11_makes 105 = .ok (.iload 7, 2) := by decide +kernel
theorem dX11_makes_107 : decode cX11_makes 107 = .ok (.laload, 1) := by decide +kernel
theorem dX11_makes_108 : decode cX11_makes 108 = .ok (.invokestatic 218, 3) := by decide +kernel
theorem dX11_makes_111 : decode cX11_makes 111 = .ok (.ifCond .eq 6, 3) := by decide +kernel
theorem dX11_makes_114 : decode cX11_makes 114 = .ok (.goto 48, 3) := by decide +kernel
theorem dX11_makes_117 : decode cX11_makes 117 = .ok (.aload_n 0, 1) := by decide +kernel
theorem dX11_makes_118 : decode cX11_makes 118 = .ok (.getfield 47, 3) := by decide +kernel
theorem dX11_makes_121 : decode cX11_makes 121 = .ok (.iload 6, 2) := by decide +kernel
theorem dX11_makes_123 : decode cX11_makes 123 = .ok (.aload_n 0, 1) := by decide +kernel
theorem dX11_makes_124 : decode cX11_makes 124 = .ok (.getfield 47, 3) := by decide +kernel
theorem dX11_makes_127 : decode cX11_makes 127 = .ok (.iload 7, 2) := by decide +kernel
theorem dX11_makes_129 : decode cX11_makes 129 = .ok (.iaload, 1) := by decide +kernel
theorem dX11_makes_130 : decode cX11_makes 130 = .ok (.iastore, 1) := by decide +kernel
theorem dX11_makes_131 : decode cX11_makes 131 = .ok (.aload_n 0, 1) := by decide +kernel
theorem dX11_makes_132 : decode cX11_makes 132 = .ok (.getfield 56, 3) := by decide +kernel
theorem dX11_makes_135 : decode cX11_makes 135 = .ok (.iload 6, 2) := by decide +kernel
theorem dX11_makes_137 : decode cX11_makes 137 = .ok (.aload_n 0, 1) := by decide +kernel
theorem dX11_makes_138 : decode cX11_makes 138 = .ok (.getfield 56, 3) := by decide +kernel
theorem dX11_makes_141 : decode cX11_makes 141 = .ok (.iload 7, 2) := by decide +kernel
theorem dX11_makes_143 : decode cX11_makes 143 = .ok (.laload, 1) := by decide +kernel
theorem dX11_makes_144 : decode cX11_makes 144 = .ok (.lastore, 1) := by decide +kernel
theorem dX11_makes_145 : decode cX11_makes 145 = .ok (.aload_n 0, 1) := by decide +kernel
theorem dX11_makes_146 : decode cX11_makes 146 = .ok (.getfield 59, 3) := by decide +kernel
theorem dX11_makes_149 : decode cX11_makes 149 = .ok (.iload 6, 2) := by decide +kernel
theorem dX11_makes_151 : decode cX11_makes 151 = .ok (.aload_n 0, 1) := by decide +kernel
theorem dX11_makes_152 : decode cX11_makes 152 = .ok (.getfield 59, 3) := by decide +kernel
theorem dX11_makes_155 : decode cX11_makes 155 = .ok (.iload 7, 2) := by decide +kernel
theorem dX11_makes_157 : decode cX11_makes 157 = .ok (.laload, 1) := by decide +kernel
theorem dX11_makes_158 : decode cX11_makes 158 = .ok (.lastore, 1) := by decide +kernel
theorem dX11_makes_159 : decode cX11_makes 159 = .ok (.iinc 6 1, 3) := by decide +kernel
theorem dX11_makes_162 : decode cX11_makes 162 = .ok (.iinc 7 1, 3) := by decide +kernel
theorem dX11_makes_165 : decode cX11_makes 165 = .ok (.goto (-100), 3) := by decide +kernel
theorem dX11_makes_168 : decode cX11_makes 168 = .ok (.iload 6, 2) := by decide +kernel
theorem dX11_makes_170 : decode cX11_makes 170 = .ok (.istore 7, 2) := by decide +kernel
theorem dX11_makes_172 : decode cX11_makes 172 = .ok (.iload 7, 2) := by decide +kernel
theorem dX11_makes_174 : decode cX11_makes 174 = .ok (.ifCond .le 72, 3) := by decide +kernel
theorem dX11_makes_177 : decode cX11_makes 177 = .ok (.aload_n 0, 1) := by decide +kernel
theorem dX11_makes_178 : decode cX11_makes 178 = .ok (.iload_n 1, 1) := by decide +kernel
theorem dX11_makes_179 : decode cX11_makes 179 = .ok (.lload_n 2, 1) := by decide +kernel
theorem dX11_makes_180 : decode cX11_makes 180 = .ok (.lload 4, 2) := by decide +kernel
theorem dX11_makes_182 : decode cX11_makes 182 = .ok (.iload 7, 2) := by decide +kernel
theorem dX11_makes_184 : decode cX11_makes 184 = .ok (.iconst 1, 1) := by decide +kernel
theorem dX11_makes_185 : decode cX11_makes 185 = .ok (.isub, 1) := by decide +kernel
theorem dX11_makes_186 : decode cX11_makes 186 = .ok (.invokevirtual 234, 3) := by decide +kernel
theorem dX11_makes_189 : decode cX11_makes 189 = .ok (.ifCond .eq 57, 3) := by decide +kernel
theorem dX11_makes_192 : decode cX11_makes 192 = .ok (.aload_n 0, 1) := by decide +kernel
theorem dX11_makes_193 : decode cX11_makes 193 = .ok (.getfield 47, 3) := by decide +kernel
theorem dX11_makes_196 : decode cX11_makes 196 = .ok (.iload 7, 2) := by decide +kernel
theorem dX11_makes_198 : decode cX11_makes 198 = .ok (.aload_n 0, 1) := by decide +kernel
theorem dX11_makes_199 : decode cX11_makes 199 = .ok (.getfield 47, 3) := by decide +kernel
theorem dX11_makes_202 : decode cX11_makes 202 = .ok (.iload 7, 2) := by decide +kernel
theorem dX11_makes_204 : decode cX11_makes 204 = .ok (.iconst 1, 1) := by decide +kernel
theorem dX11_makes_205 : decode cX11_makes 205 = .ok (.isub, 1) := by decide +kernel
theorem dX11_makes_206 : decode cX11_makes 206 = .ok (.iaload, 1) := by decide +kernel
theorem dX11_makes_207 : decode cX11_makes 207 = .ok (.iastore, 1) := by decide +kernel
theorem dX11_makes_208 : decode cX11_makes 208 = .ok (.aload_n 0, 1) := by decide +kernel
theorem dX11_makes_209 : decode cX11_makes 209 = .ok (.getfield 56, 3) := by decide +kernel
theorem dX11_makes_212 : decode cX11_makes 212 = .ok (.iload 7, 2) := by decide +kernel
theorem dX11_makes_214 : decode cX11_makes 214 = .ok (.aload_n 0, 1) := by decide +kernel
theorem dX11_makes_215 : decode cX11_makes 215 = .ok (.getfield 56, 3) := by decide +kernel
theorem dX11_makes_218 : decode cX11_makes 218 = .ok (.iload 7, 2) := by decide +kernel
theorem dX11_makes_220 : decode cX11_makes 220 = .ok (.iconst 1, 1) := by decide +kernel
theorem dX11_makes_221 : decode cX11_makes 221 = .ok (.isub, 1) := by decide +kernel
theorem dX11_makes_222 : decode cX11_makes 222 = .ok (.laload, 1) := by decide +kernel
theorem dX11_makes_223 : decode cX11_makes 223 = .ok (.lastore, 1) := by decide +kernel
theorem dX11_makes_224 : decode cX11_makes 224 = .ok (.aload_n 0, 1) := by decide +kernel
theorem dX11_makes_225 : decode cX11_makes 225 = .ok (.getfield 59, 3) := by decide +kernel
theorem dX11_makes_228 : decode cX11_makes 228 = .ok (.iload 7, 2) := by decide +kernel
theorem dX11_makes_230 : decode cX11_makes 230 = .ok (.aload_n 0, 1) := by decide +kernel
theorem dX11_makes_231 : decode cX11_makes 231 = .ok (.getfield 59, 3) := by decide +kernel
theorem dX11_makes_234 : decode cX11_makes 234 = .ok (.iload 7, 2) := by decide +kernel
theorem dX11_makes_236 : decode cX11_makes 236 = .ok (.iconst 1, 1) := by decide +kernel
theorem dX11_makes_237 : decode cX11_makes 237 = .ok (.isub, 1) := by decide +kernel
theorem dX11_makes_238 : decode cX11_makes 238 = .ok (.laload, 1) := by decide +kernel
theorem dX11_makes_239 : decode cX11_makes 239 = .ok (.lastore, 1) := by decide +kernel
theorem dX11_makes_240 : decode cX11_makes 240 = .ok (.iinc 7 (-1), 3) := by decide +kernel
theorem dX11_makes_243 : decode cX11_makes 243 = .ok (.goto (-71), 3) := by decide +kernel
theorem dX11_makes_246 : decode cX11_makes 246 = .ok (.aload_n 0, 1) := by decide +kernel
theorem dX11_makes_247 : decode cX11_makes 247 = .ok (.getfield 47, 3) := by decide +kernel
theorem dX11_makes_250 : decode cX11_makes 250 = .ok (.iload 7, 2) := by decide +kernel
theorem dX11_makes_252 : decode cX11_makes 252 = .ok (.iload_n 1, 1) := by decide +kernel
theorem dX11_makes_253 : decode cX11_makes 253 = .ok (.iastore, 1) := by decide +kernel
theorem dX11_makes_254 : decode cX11_makes 254 = .ok (.aload_n 0, 1) := by decide +kernel
theorem dX11_makes_255 : decode cX11_makes 255 = .ok (.getfield 56, 3) := by decide +kernel
theorem dX11_makes_258 : decode cX11_makes 258 = .ok (.iload 7, 2) := by decide +kernel
theorem dX11_makes_260 : decode cX11_makes 260 = .ok (.lload_n 2, 1) := by decide +kernel
theorem dX11_makes_261 : decode cX11_makes 261 = .ok (.lastore, 1) := by decide +kernel
theorem dX11_makes_262 : decode cX11_makes 262 = .ok (.aload_n 0, 1) := by decide +kernel
theorem dX11_makes_263 : decode cX11_makes 263 = .ok (.getfield 59, 3) := by decide +kernel
theorem dX11_makes_266 : decode cX11_makes 266 = .ok (.iload 7, 2) := by decide +kernel
theorem dX11_makes_268 : decode cX11_makes 268 = .ok (.lload 4, 2) := by decide +kernel
theorem dX11_makes_270 : decode cX11_makes 270 = .ok (.lastore, 1) := by decide +kernel
theorem dX11_makes_271 : decode cX11_makes 271 = .ok (.aload_n 0, 1) := by decide +kernel
theorem dX11_makes_272 : decode cX11_makes 272 = .ok (.iload 6, 2) := by decide +kernel
theorem dX11_makes_274 : decode cX11_makes 274 = .ok (.iconst 1, 1) := by decide +kernel
theorem dX11_makes_275 : decode cX11_makes 275 = .ok (.iadd, 1) := by decide +kernel
theorem dX11_makes_276 : decode cX11_makes 276 = .ok (.putfield 231, 3) := by decide +kernel
theorem dX11_makes_279 : decode cX11_makes 279 = .ok (.return_, 1) := by decide +kernel
theorem dX11_isAhead_0 : decode cX11_isAhead 0 = .ok (.iload_n 1, 1) := by decide +kernel
theorem dX11_isAhead_1 : decode cX11_isAhead 1 = .ok (.aload_n 0, 1) := by decide +kernel
theorem dX11_isAhead_2 : decode cX11_isAhead 2 = .ok (.getfield 47, 3) := by decide +kernel
theorem dX11_isAhead_5 : decode cX11_isAhead 5 = .ok (.iload 6, 2) := by decide +kernel
theorem dX11_isAhead_7 : decode cX11_isAhead 7 = .ok (.iaload, 1) := by decide +kernel
theorem dX11_isAhead_8 : decode cX11_isAhead 8 = .ok (.if_icmp .eq 20, 3) := by decide +kernel
theorem dX11_isAhead_11 : decode cX11_isAhead 11 = .ok (.iload_n 1, 1) := by decide +kernel
theorem dX11_isAhead_12 : decode cX11_isAhead 12 = .ok (.aload_n 0, 1) := by decide +kernel
theorem dX11_isAhead_13 : decode cX11_isAhead 13 = .ok (.getfield 47, 3) := by decide +kernel
theorem dX11_isAhead_16 : decode cX11_isAhead 16 = .ok (.iload 6, 2) := by decide +kernel
theorem dX11_isAhead_18 : decode cX11_isAhead 18 = .ok (.iaload, 1) := by decide +kernel
theorem dX11_isAhead_19 : decode cX11_isAhead 19 = .ok (.if_icmp .ge 7, 3) := by decide +kernel
theorem dX11_isAhead_22 : decode cX11_isAhead 22 = .ok (.iconst 1, 1) := by decide +kernel
theorem dX11_isAhead_23 : decode cX11_isAhead 23 = .ok (.goto 4, 3) := by decide +kernel
theorem dX11_isAhead_26 : decode cX11_isAhead 26 = .ok (.iconst 0, 1) := by decide +kernel
theorem dX11_isAhead_27 : decode cX11_isAhead 27 = .ok (.ireturn, 1) := by decide +kernel
theorem dX11_isAhead_28 : decode cX11_isAhead 28 = .ok (.lload_n 2, 1) := by decide +kernel
theorem dX11_isAhead_29 : decode cX11_isAhead 29 = .ok (.aload_n 0, 1) := by decide +kernel
theorem dX11_isAhead_30 : decode cX11_isAhead 30 = .ok (.getfield 56, 3) := by decide +kernel
theorem dX11_isAhead_33 : decode cX11_isAhead 33 = .ok (.iload 6, 2) := by decide +kernel
theorem dX11_isAhead_35 : decode cX11_isAhead 35 = .ok (.laload, 1) := by decide +kernel
theorem dX11_isAhead_36 : decode cX11_isAhead 36 = .ok (.lcmp, 1) := by decide +kernel
theorem dX11_isAhead_37 : decode cX11_isAhead 37 = .ok (.ifCond .eq 23, 3) := by decide +kernel
theorem dX11_isAhead_40 : decode cX11_isAhead 40 = .ok (.lload_n 2, 1) := by decide +kernel
theorem dX11_isAhead_41 : decode cX11_isAhead 41 = .ok (.aload_n 0, 1) := by decide +kernel
theorem dX11_isAhead_42 : decode cX11_isAhead 42 = .ok (.getfield 56, 3) := by decide +kernel
theorem dX11_isAhead_45 : decode cX11_isAhead 45 = .ok (.iload 6, 2) := by decide +kernel
theorem dX11_isAhead_47 : decode cX11_isAhead 47 = .ok (.laload, 1) := by decide +kernel
theorem dX11_isAhead_48 : decode cX11_isAhead 48 = .ok (.lcmp, 1) := by decide +kernel
theorem dX11_isAhead_49 : decode cX11_isAhead 49 = .ok (.ifCond .ge 7, 3) := by decide +kernel
theorem dX11_isAhead_52 : decode cX11_isAhead 52 = .ok (.iconst 1, 1) := by decide +kernel
theorem dX11_isAhead_53 : decode cX11_isAhead 53 = .ok (.goto 25, 3) := by decide +kernel
theorem dX11_isAhead_56 : decode cX11_isAhead 56 = .ok (.iconst 0, 1) := by decide +kernel
theorem dX11_isAhead_57 : decode cX11_isAhead 57 = .ok (.goto 21, 3) := by decide +kernel
theorem dX11_isAhead_60 : decode cX11_isAhead 60 = .ok (.lload 4, 2) := by decide +kernel
theorem dX11_isAhead_62 : decode cX11_isAhead 62 = .ok (.aload_n 0, 1) := by decide +kernel
theorem dX11_isAhead_63 : decode cX11_isAhead 63 = .ok (.getfield 59, 3) := by decide +kernel
theorem dX11_isAhead_66 : decode cX11_isAhead 66 = .ok (.iload 6, 2) := by decide +kernel
theorem dX11_isAhead_68 : decode cX11_isAhead 68 = .ok (.laload, 1) := by decide +kernel
theorem dX11_isAhead_69 : decode cX11_isAhead 69 = .ok (.lcmp, 1) := by decide +kernel
theorem dX11_isAhead_70 : decode cX11_isAhead 70 = .ok (.ifCond .ge 7, 3) := by decide +kernel
theorem dX11_isAhead_73 : decode cX11_isAhead 73 = .ok (.iconst 1, 1) := by decide +kernel
theorem dX11_isAhead_74 : decode cX11_isAhead 74 = .ok (.goto 4, 3) := by decide +kernel
theorem dX11_isAhead_77 : decode cX11_isAhead 77 = .ok (.iconst 0, 1) := by decide +kernel
theorem dX11_isAhead_78 : decode cX11_isAhead 78 = .ok (.ireturn, 1) := by decide +kernel
theorem dX11_wordAhead_0 : decode cX11_wordAhead 0 = .ok (.iload_n 2, 1) := by decide +kernel
theorem dX11_wordAhead_1 : decode cX11_wordAhead 1 = .ok (.iconst 1, 1) := by decide +kernel
theorem dX11_wordAhead_2 : decode cX11_wordAhead 2 = .ok (.if_icmp .ne 26, 3) := by decide +kernel
theorem dX11_wordAhead_5 : decode cX11_wordAhead 5 = .ok (.lload_n 0, 1) := by decide +kernel
theorem dX11_wordAhead_6 : decode cX11_wordAhead 6 = .ok (.ldc2_w 109, 3) := by decide +kernel
theorem dX11_wordAhead_9 : decode cX11_wordAhead 9 = .ok (.lrem, 1) := by decide +kernel
theorem dX11_wordAhead_10 : decode cX11_wordAhead 10 = .ok (.iload_n 3, 1) := by decide +kernel
theorem dX11_wordAhead_11 : decode cX11_wordAhead 11 = .ok (.i2l, 1) := by decide +kernel
theorem dX11_wordAhead_12 : decode cX11_wordAhead 12 = .ok (.lconst 1, 1) := by decide +kernel
theorem dX11_wordAhead_13 : decode cX11_wordAhead 13 = .ok (.ladd, 1) := by decide +kernel
theorem dX11_wordAhead_14 : decode cX11_wordAhead 14 = .ok (.lcmp, 1) := by decide +kernel
theorem dX11_wordAhead_15 : decode cX11_wordAhead 15 = .ok (.ifCond .ne 11, 3) := by decide +kernel
theorem dX11_wordAhead_18 : decode cX11_wordAhead 18 = .ok (.lload_n 0, 1) := by decide +kernel
theorem dX11_wordAhead_19 : decode cX11_wordAhead 19 = .ok (.ldc2_w 109, 3) := by decide +kernel
theorem dX11_wordAhead_22 : decode cX11_wordAhead 22 = .ok (.ldiv, 1) := by decide +kernel
theorem dX11_wordAhead_23 : decode cX11_wordAhead 23 = .ok (.goto 4, 3) := by decide +kernel
theorem dX11_wordAhead_26 : decode cX11_wordAhead 26 = .ok (.lload_n 0, 1) := by decide +kernel
theorem dX11_wordAhead_27 : decode cX11_wordAhead 27 = .ok (.lreturn, 1) := by decide +kernel
theorem dX11_wordAhead_28 : decode cX11_wordAhead 28 = .ok (.iload_n 3, 1) := by decide +kernel
theorem dX11_wordAhead_29 : decode cX11_wordAhead 29 = .ok (.i2l, 1) := by decide +kernel
theorem dX11_wordAhead_30 : decode cX11_wordAhead 30 = .ok (.lconst 1, 1) := by decide +kernel
theorem dX11_wordAhead_31 : decode cX11_wordAhead 31 = .ok (.ladd, 1) := by decide +kernel
theorem dX11_wordAhead_32 : decode cX11_wordAhead 32 = .ok (.lload_n 0, 1) := by decide +kernel
theorem dX11_wordAhead_33 : decode cX11_wordAhead 33 = .ok (.invokestatic 111, 3) := by decide +kernel
theorem dX11_wordAhead_36 : decode cX11_wordAhead 36 = .ok (.invokestatic 115, 3) := by decide +kernel
theorem dX11_wordAhead_39 : decode cX11_wordAhead 39 = .ok (.lmul, 1) := by decide +kernel
theorem dX11_wordAhead_40 : decode cX11_wordAhead 40 = .ok (.lload_n 0, 1) := by decide +kernel
theorem dX11_wordAhead_41 : decode cX11_wordAhead 41 = .ok (.ladd, 1) := by decide +kernel
theorem dX11_wordAhead_42 : decode cX11_wordAhead 42 = .ok (.lreturn, 1) := by decide +kernel
theorem dX11_makesAhead_0 : decode cX11_makesAhead 0 = .ok (.aload_n 0, 1) := by decide +kernel
theorem dX11_makesAhead_1 : decode cX11_makesAhead 1 = .ok (.iload_n 1, 1) := by decide +kernel
theorem dX11_makesAhead_2 : decode cX11_makesAhead 2 = .ok (.iconst 2, 1) := by decide +kernel
theorem dX11_makesAhead_3 : decode cX11_makesAhead 3 = .ok (.invokevirtual 155, 3) := by decide +kernel
theorem dX11_makesAhead_6 : decode cX11_makesAhead 6 = .ok (.istore_n 3, 1) := by decide +kernel
theorem dX11_makesAhead_7 : decode cX11_makesAhead 7 = .ok (.aload_n 0, 1) := by decide +kernel
theorem dX11_makesAhead_8 : decode cX11_makesAhead 8 = .ok (.getfield 50, 3) := by decide +kernel
theorem dX11_makesAhead_11 : decode cX11_makesAhead 11 = .ok (.iload_n 2, 1) := by decide +kernel
theorem dX11_makesAhead_12 : decode cX11_makesAhead 12 = .ok (.laload, 1) := by decide +kernel
theorem dX11_makesAhead_13 : decode cX11_makesAhead 13 = .ok (.lstore 4, 2) := by decide +kernel
theorem dX11_makesAhead_15 : decode cX11_makesAhead 15 = .ok (.aload_n 0, 1) := by decide +kernel
theorem dX11_makesAhead_16 : decode cX11_makesAhead 16 = .ok (.getfield 53, 3) := by decide +kernel
theorem dX11_makesAhead_19 : decode cX11_makesAhead 19 = .ok (.iload_n 2, 1) := by decide +kernel
theorem dX11_makesAhead_20 : decode cX11_makesAhead 20 = .ok (.laload, 1) := by decide +kernel
theorem dX11_makesAhead_21 : decode cX11_makesAhead 21 = .ok (.lstore 6, 2) := by decide +kernel
theorem dX11_makesAhead_23 : decode cX11_makesAhead 23 = .ok (.iload_n 3, 1) := by decide +kernel
theorem dX11_makesAhead_24 : decode cX11_makesAhead 24 = .ok (.ifCond .eq 26, 3) := by decide +kernel
theorem dX11_makesAhead_27 : decode cX11_makesAhead 27 = .ok (.aload_n 0, 1) := by decide +kernel
theorem dX11_makesAhead_28 : decode cX11_makesAhead 28 = .ok (.iload_n 1, 1) := by decide +kernel
theorem dX11_makesAhead_29 : decode cX11_makesAhead 29 = .ok (.iconst 3, 1) := by decide +kernel
theorem dX11_makesAhead_30 : decode cX11_makesAhead 30 = .ok (.invokevirtual 155, 3) := by decide +kernel
theorem dX11_makesAhead_33 : decode cX11_makesAhead 33 = .ok (.ifCond .ne 17, 3) := by decide +kernel
theorem dX11_makesAhead_36 : decode cX11_makesAhead 36 = .ok (.lload 4, 2) := by decide +kernel
theorem dX11_makesAhead_38 : decode cX11_makesAhead 38 = .ok (.iload_n 3, 1) := by decide +kernel
theorem dX11_makesAhead_39 : decode cX11_makesAhead 39 = .ok (.aload_n 0, 1) := by decide +kernel
theorem dX11_makesAhead_40 : decode cX11_makesAhead 40 = .ok (.iload_n 1, 1) := by decide +kernel
theorem dX11_makesAhead_41 : decode cX11_makesAhead 41 = .ok (.iconst 4, 1) := by decide +kernel
theorem dX11_makesAhead_42 : decode cX11_makesAhead 42 = .ok (.invokevirtual 155, 3) := by decide +kernel
theorem dX11_makesAhead_45 : decode cX11_makesAhead 45 = .ok (.invokestatic 238, 3) := by decide +kernel
theorem dX11_makesAhead_48 : decode cX11_makesAhead 48 = .ok (.lstore 4, 2) := by decide +kernel
theorem dX11_makesAhead_50 : decode cX11_makesAhead 50 = .ok (.iload_n 3, 1) := by decide +kernel
theorem dX11_makesAhead_51 : decode cX11_makesAhead 51 = .ok (.ifCond .eq 27, 3) := by decide +kernel
theorem dX11_makesAhead_54 : decode cX11_makesAhead 54 = .ok (.aload_n 0, 1) := by decide +kernel
theorem dX11_makesAhead_55 : decode cX11_makesAhead 55 = .ok (.iload_n 1, 1) := by decide +kernel
theorem dX11_makesAhead_56 : decode cX11_makesAhead 56 = .ok (.iconst 3, 1) := by decide +kernel
theorem dX11_makesAhead_57 : decode cX11_makesAhead 57 = .ok (.invokevirtual 155, 3) := by decide +kernel
theorem dX11_makesAhead_60 : decode cX11_makesAhead 60 = .ok (.iconst 1, 1) := by decide +kernel
theorem dX11_makesAhead_61 : decode cX11_makesAhead 61 = .ok (.if_icmp .ne 17, 3) := by decide +kernel
theorem dX11_makesAhead_64 : decode cX11_makesAhead 64 = .ok (.lload 6, 2) := by decide +kernel
theorem dX11_makesAhead_66 : decode cX11_makesAhead 66 = .ok (.iload_n 3, 1) := by decide +kernel
theorem dX11_makesAhead_67 : decode cX11_makesAhead 67 = .ok (.aload_n 0, 1) := by decide +kernel
theorem dX11_makesAhead_68 : decode cX11_makesAhead 68 = .ok (.iload_n 1, 1) := by decide +kernel
theorem dX11_makesAhead_69 : decode cX11_makesAhead 69 = .ok (.iconst 4, 1) := by decide +kernel
theorem dX11_makesAhead_70 : decode cX11_makesAhead 70 = .ok (.invokevirtual 155, 3) := by decide +kernel
theorem dX11_makesAhead_73 : decode cX11_makesAhead 73 = .ok (.invokestatic 238, 3) := by decide +kernel
theorem dX11_makesAhead_76 : decode cX11_makesAhead 76 = .ok (.lstore 6, 2) := by decide +kernel
theorem dX11_makesAhead_78 : decode cX11_makesAhead 78 = .ok (.aload_n 0, 1) := by decide +kernel
theorem dX11_makesAhead_79 : decode cX11_makesAhead 79 = .ok (.aload_n 0, 1) := by decide +kernel
theorem dX11_makesAhead_80 : decode cX11_makesAhead 80 = .ok (.iload_n 1, 1) := by decide +kernel
theorem dX11_makesAhead_81 : decode cX11_makesAhead 81 = .ok (.iconst 0, 1) := by decide +kernel
theorem dX11_makesAhead_82 : decode cX11_makesAhead 82 = .ok (.invokevirtual 155, 3) := by decide +kernel
theorem dX11_makesAhead_85 : decode cX11_makesAhead 85 = .ok (.lload 4, 2) := by decide +kernel
theorem dX11_makesAhead_87 : decode cX11_makesAhead 87 = .ok (.lload 6, 2) := by decide +kernel
theorem dX11_makesAhead_89 : decode cX11_makesAhead 89 = .ok (.invokevirtual 242, 3) := by decide +kernel
theorem dX11_makesAhead_92 : decode cX11_makesAhead 92 = .ok (.return_, 1) := by decide +kernel
theorem dX11_makesNext_0 : decode cX11_makesNext 0 = .ok (.aload_n 0, 1) := by decide +kernel
theorem dX11_makesNext_1 : decode cX11_makesNext 1 = .ok (.iconst 0, 1) := by decide +kernel
theorem dX11_makesNext_2 : decode cX11_makesNext 2 = .ok (.putfield 231, 3) := by decide +kernel
theorem dX11_makesNext_5 : decode cX11_makesNext 5 = .ok (.iconst 0, 1) := by decide +kernel
theorem dX11_makesNext_6 : decode cX11_makesNext 6 = .ok (.istore_n 2, 1) := by decide +kernel
theorem dX11_makesNext_7 : decode cX11_makesNext 7 = .ok (.iload_n 2, 1) := by decide +kernel
theorem dX11_makesNext_8 : decode cX11_makesNext 8 = .ok (.aload_n 0, 1) := by decide +kernel
theorem dX11_makesNext_9 : decode cX11_makesNext 9 = .ok (.getfield 44, 3) := by decide +kernel
theorem dX11_makesNext_12 : decode cX11_makesNext 12 = .ok (.iload_n 1, 1) := by decide +kernel
theorem dX11_makesNext_13 : decode cX11_makesNext 13 = .ok (.iaload, 1) := by decide +kernel
theorem dX11_makesNext_14 : decode cX11_makesNext 14 = .ok (.if_icmp .ge 46, 3) := by decide +kernel
theorem dX11_makesNext_17 : decode cX11_makesNext 17 = .ok (.aload_n 0, 1) := by decide +kernel
theorem dX11_makesNext_18 : decode cX11_makesNext 18 = .ok (.aload_n 0, 1) := by decide +kernel
theorem dX11_makesNext_19 : decode cX11_makesNext 19 = .ok (.getfield 41, 3) := by decide +kernel
theorem dX11_makesNext_22 : decode cX11_makesNext 22 = .ok (.bipush 30, 2) := by decide +kernel
theorem dX11_makesNext_24 : decode cX11_makesNext 24 = .ok (.iload_n 1, 1) := by decide +kernel
theorem dX11_makesNext_25 : decode cX11_makesNext 25 = .ok (.imul, 1) := by decide +kernel
theorem dX11_makesNext_26 : decode cX11_makesNext 26 = .ok (.iload_n 2, 1) := by decide +kernel
theorem dX11_makesNext_27 : decode cX11_makesNext 27 = .ok (.iadd, 1) := by decide +kernel
theorem dX11_makesNext_28 : decode cX11_makesNext 28 = .ok (.iaload, 1) := by decide +kernel
theorem dX11_makesNext_29 : decode cX11_makesNext 29 = .ok (.aload_n 0, 1) := by decide +kernel
theorem dX11_makesNext_30 : decode cX11_makesNext 30 = .ok (.getfield 50, 3) := by decide +kernel
theorem dX11_makesNext_33 : decode cX11_makesNext 33 = .ok (.bipush 30, 2) := by decide +kernel
theorem dX11_makesNext_35 : decode cX11_makesNext 35 = .ok (.iload_n 1, 1) := by decide +kernel
theorem dX11_makesNext_36 : decode cX11_makesNext 36 = .ok (.imul, 1) := by decide +kernel
theorem dX11_makesNext_37 : decode cX11_makesNext 37 = .ok (.iload_n 2, 1) := by decide +kernel
theorem dX11_makesNext_38 : decode cX11_makesNext 38 = .ok (.iadd, 1) := by decide +kernel
theorem dX11_makesNext_39 : decode cX11_makesNext 39 = .ok (.laload, 1) := by decide +kernel
theorem dX11_makesNext_40 : decode cX11_makesNext 40 = .ok (.aload_n 0, 1) := by decide +kernel
theorem dX11_makesNext_41 : decode cX11_makesNext 41 = .ok (.getfield 53, 3) := by decide +kernel
theorem dX11_makesNext_44 : decode cX11_makesNext 44 = .ok (.bipush 30, 2) := by decide +kernel
theorem dX11_makesNext_46 : decode cX11_makesNext 46 = .ok (.iload_n 1, 1) := by decide +kernel
theorem dX11_makesNext_47 : decode cX11_makesNext 47 = .ok (.imul, 1) := by decide +kernel
theorem dX11_makesNext_48 : decode cX11_makesNext 48 = .ok (.iload_n 2, 1) := by decide +kernel
theorem dX11_makesNext_49 : decode cX11_makesNext 49 = .ok (.iadd, 1) := by decide +kernel
theorem dX11_makesNext_50 : decode cX11_makesNext 50 = .ok (.laload, 1) := by decide +kernel
theorem dX11_makesNext_51 : decode cX11_makesNext 51 = .ok (.invokevirtual 242, 3) := by decide +kernel
theorem dX11_makesNext_54 : decode cX11_makesNext 54 = .ok (.iinc 2 1, 3) := by decide +kernel
theorem dX11_makesNext_57 : decode cX11_makesNext 57 = .ok (.goto (-50), 3) := by decide +kernel
theorem dX11_makesNext_60 : decode cX11_makesNext 60 = .ok (.iconst 0, 1) := by decide +kernel
theorem dX11_makesNext_61 : decode cX11_makesNext 61 = .ok (.istore_n 2, 1) := by decide +kernel
theorem dX11_makesNext_62 : decode cX11_makesNext 62 = .ok (.iload_n 2, 1) := by decide +kernel
theorem dX11_makesNext_63 : decode cX11_makesNext 63 = .ok (.aload_n 0, 1) := by decide +kernel
theorem dX11_makesNext_64 : decode cX11_makesNext 64 = .ok (.getfield 123, 3) := by decide +kernel
theorem dX11_makesNext_67 : decode cX11_makesNext 67 = .ok (.if_icmp .ge 58, 3) := by decide +kernel
theorem dX11_makesNext_70 : decode cX11_makesNext 70 = .ok (.iconst 0, 1) := by decide +kernel
theorem dX11_makesNext_71 : decode cX11_makesNext 71 = .ok (.istore_n 3, 1) := by decide +kernel
theorem dX11_makesNext_72 : decode cX11_makesNext 72 = .ok (.iload_n 3, 1) := by decide +kernel
theorem dX11_makesNext_73 : decode cX11_makesNext 73 = .ok (.aload_n 0, 1) := by decide +kernel
theorem dX11_makesNext_74 : decode cX11_makesNext 74 = .ok (.getfield 44, 3) := by decide +kernel
theorem dX11_makesNext_77 : decode cX11_makesNext 77 = .ok (.iload_n 1, 1) := by decide +kernel
theorem dX11_makesNext_78 : decode cX11_makesNext 78 = .ok (.iaload, 1) := by decide +kernel
theorem dX11_makesNext_79 : decode cX11_makesNext 79 = .ok (.if_icmp .ge 40, 3) := by decide +kernel
theorem dX11_makesNext_82 : decode cX11_makesNext 82 = .ok (.aload_n 0, 1) := by decide +kernel
theorem dX11_makesNext_83 : decode cX11_makesNext 83 = .ok (.getfield 41, 3) := by decide +kernel
theorem dX11_makesNext_86 : decode cX11_makesNext 86 = .ok (.bipush 30, 2) := by decide +kernel
theorem dX11_makesNext_88 : decode cX11_makesNext 88 = .ok (.iload_n 1, 1) := by decide +kernel
theorem dX11_makesNext_89 : decode cX11_makesNext 89 = .ok (.imul, 1) := by decide +kernel
theorem dX11_makesNext_90 : decode cX11_makesNext 90 = .ok (.iload_n 3, 1) := by decide +kernel
theorem dX11_makesNext_91 : decode cX11_makesNext 91 = .ok (.iadd, 1) := by decide +kernel
theorem dX11_makesNext_92 : decode cX11_makesNext 92 = .ok (.iaload, 1) := by decide +kernel
theorem dX11_makesNext_93 : decode cX11_makesNext 93 = .ok (.aload_n 0, 1) := by decide +kernel
theorem dX11_makesNext_94 : decode cX11_makesNext 94 = .ok (.iload_n 2, 1) := by decide +kernel
theorem dX11_makesNext_95 : decode cX11_makesNext 95 = .ok (.iconst 1, 1) := by decide +kernel
theorem dX11_makesNext_96 : decode cX11_makesNext 96 = .ok (.invokevirtual 155, 3) := by decide +kernel
theorem dX11_makesNext_99 : decode cX11_makesNext 99 = .ok (.if_icmp .ne 14, 3) := by decide +kernel
theorem dX11_makesNext_102 : decode cX11_makesNext 102 = .ok (.aload_n 0, 1) := by decide +kernel
theorem dX11_makesNext_103 : decode cX11_makesNext 103 = .ok (.iload_n 2, 1) := by decide +kernel
theorem dX11_makesNext_104 : decode cX11_makesNext 104 = .ok (.bipush 30, 2) := by decide +kernel
theorem dX11_makesNext_106 : decode cX11_makesNext 106 = .ok (.iload_n 1, 1) := by decide +kernel
theorem dX11_makesNext_107 : decode cX11_makesNext 107 = .ok (.imul, 1) := by decide +kernel
theorem dX11_makesNext_108 : decode cX11_makesNext 108 = .ok (.iload_n 3, 1) := by decide +kernel
theorem dX11_makesNext_109 : decode cX11_makesNext 109 = .ok (.iadd, 1) := by decide +kernel
theorem dX11_makesNext_110 : decode cX11_makesNext 110 = .ok (.invokevirtual 245, 3) := by decide +kernel
theorem dX11_makesNext_113 : decode cX11_makesNext 113 = .ok (.iinc 3 1, 3) := by decide +kernel
theorem dX11_makesNext_116 : decode cX11_makesNext 116 = .ok (.goto (-44), 3) := by decide +kernel
theorem dX11_makesNext_119 : decode cX11_makesNext 119 = .ok (.iinc 2 1, 3) := by decide +kernel
theorem dX11_makesNext_122 : decode cX11_makesNext 122 = .ok (.goto (-60), 3) := by decide +kernel
theorem dX11_makesNext_125 : decode cX11_makesNext 125 = .ok (.return_, 1) := by decide +kernel
theorem dX11_isLikeMade_0 : decode cX11_isLikeMade 0 = .ok (.aload_n 0, 1) := by decide +kernel
theorem dX11_isLikeMade_1 : decode cX11_isLikeMade 1 = .ok (.getfield 231, 3) := by decide +kernel
theorem dX11_isLikeMade_4 : decode cX11_isLikeMade 4 = .ok (.aload_n 0, 1) := by decide +kernel
theorem dX11_isLikeMade_5 : decode cX11_isLikeMade 5 = .ok (.getfield 44, 3) := by decide +kernel
theorem dX11_isLikeMade_8 : decode cX11_isLikeMade 8 = .ok (.iload_n 1, 1) := by decide +kernel
theorem dX11_isLikeMade_9 : decode cX11_isLikeMade 9 = .ok (.iaload, 1) := by decide +kernel
theorem dX11_isLikeMade_10 : decode cX11_isLikeMade 10 = .ok (.if_icmp .ne 7, 3) := by decide +kernel
theorem dX11_isLikeMade_13 : decode cX11_isLikeMade 13 = .ok (.iconst 1, 1) := by decide +kernel
theorem dX11_isLikeMade_14 : decode cX11_isLikeMade 14 = .ok (.goto 4, 3) := by decide +kernel
theorem dX11_isLikeMade_17 : decode cX11_isLikeMade 17 = .ok (.iconst 0, 1) := by decide +kernel
theorem dX11_isLikeMade_18 : decode cX11_isLikeMade 18 = .ok (.istore_n 2, 1) := by decide +kernel
theorem dX11_isLikeMade_19 : decode cX11_isLikeMade 19 = .ok (.iconst 0, 1) := by decide +kernel
theorem dX11_isLikeMade_20 : decode cX11_isLikeMade 20 = .ok (.istore_n 3, 1) := by decide +kernel
theorem dX11_isLikeMade_21 : decode cX11_isLikeMade 21 = .ok (.iload_n 3, 1) := by decide +kernel
theorem dX11_isLikeMade_22 : decode cX11_isLikeMade 22 = .ok (.aload_n 0, 1) := by decide +kernel
theorem dX11_isLikeMade_23 : decode cX11_isLikeMade 23 = .ok (.getfield 231, 3) := by decide +kernel
theorem dX11_isLikeMade_26 : decode cX11_isLikeMade 26 = .ok (.if_icmp .ge 81, 3) := by decide +kernel
theorem dX11_isLikeMade_29 : decode cX11_isLikeMade 29 = .ok (.iload_n 2, 1) := by decide +kernel
theorem dX11_isLikeMade_30 : decode cX11_isLikeMade 30 = .ok (.ifCond .eq 77, 3) := by decide +kernel
theorem dX11_isLikeMade_33 : decode cX11_isLikeMade 33 = .ok (.aload_n 0, 1) := by decide +kernel
theorem dX11_isLikeMade_34 : decode cX11_isLikeMade 34 = .ok (.getfield 47, 3) := by decide +kernel
theorem dX11_isLikeMade_37 : decode cX11_isLikeMade 37 = .ok (.iload_n 3, 1) := by decide +kernel
theorem dX11_isLikeMade_38 : decode cX11_isLikeMade 38 = .ok (.iaload, 1) := by decide +kernel
theorem dX11_isLikeMade_39 : decode cX11_isLikeMade 39 = .ok (.aload_n 0, 1) := by decide +kernel
theorem dX11_isLikeMade_40 : decode cX11_isLikeMade 40 = .ok (.getfield 41, 3) := by decide +kernel
theorem dX11_isLikeMade_43 : decode cX11_isLikeMade 43 = .ok (.bipush 30, 2) := by decide +kernel
theorem dX11_isLikeMade_45 : decode cX11_isLikeMade 45 = .ok (.iload_n 1, 1) := by decide +kernel
theorem dX11_isLikeMade_46 : decode cX11_isLikeMade 46 = .ok (.imul, 1) := by decide +kernel
theorem dX11_isLikeMade_47 : decode cX11_isLikeMade 47 = .ok (.iload_n 3, 1) := by decide +kernel
theorem dX11_isLikeMade_48 : decode cX11_isLikeMade 48 = .ok (.iadd, 1) := by decide +kernel
theorem dX11_isLikeMade_49 : decode cX11_isLikeMade 49 = .ok (.iaload, 1) := by decide +kernel
theorem dX11_isLikeMade_50 : decode cX11_isLikeMade 50 = .ok (.if_icmp .ne 49, 3) := by decide +kernel
theorem dX11_isLikeMade_53 : decode cX11_isLikeMade 53 = .ok (.aload_n 0, 1) := by decide +kernel
theorem dX11_isLikeMade_54 : decode cX11_isLikeMade 54 = .ok (.getfield 56, 3) := by decide +kernel
theorem dX11_isLikeMade_57 : decode cX11_isLikeMade 57 = .ok (.iload_n 3, 1) := by decide +kernel
theorem dX11_isLikeMade_58 : decode cX11_isLikeMade 58 = .ok (.laload, 1) := by decide +kernel
theorem dX11_isLikeMade_59 : decode cX11_isLikeMade 59 = .ok (.aload_n 0, 1) := by decide +kernel
theorem dX11_isLikeMade_60 : decode cX11_isLikeMade 60 = .ok (.getfield 50, 3) := by decide +kernel
theorem dX11_isLikeMade_63 : decode cX11_isLikeMade 63 = .ok (.bipush 30, 2) := by decide +kernel
theorem dX11_isLikeMade_65 : decode cX11_isLikeMade 65 = .ok (.iload_n 1, 1) := by decide +kernel
theorem dX11_isLikeMade_66 : decode cX11_isLikeMade 66 = .ok (.imul, 1) := by decide +kernel
theorem dX11_isLikeMade_67 : decode cX11_isLikeMade 67 = .ok (.iload_n 3, 1) := by decide +kernel
theorem dX11_isLikeMade_68 : decode cX11_isLikeMade 68 = .ok (.iadd, 1) := by decide +kernel
theorem dX11_isLikeMade_69 : decode cX11_isLikeMade 69 = .ok (.laload, 1) := by decide +kernel
theorem dX11_isLikeMade_70 : decode cX11_isLikeMade 70 = .ok (.lcmp, 1) := by decide +kernel
theorem dX11_isLikeMade_71 : decode cX11_isLikeMade 71 = .ok (.ifCond .ne 28, 3) := by decide +kernel
theorem dX11_isLikeMade_74 : decode cX11_isLikeMade 74 = .ok (.aload_n 0, 1) := by decide +kernel
theorem dX11_isLikeMade_75 : decode cX11_isLikeMade 75 = .ok (.getfield 59, 3) := by decide +kernel
theorem dX11_isLikeMade_78 : decode cX11_isLikeMade 78 = .ok (.iload_n 3, 1) := by decide +kernel
theorem dX11_isLikeMade_79 : decode cX11_isLikeMade 79 = .ok (.laload, 1) := by decide +kernel
theorem dX11_isLikeMade_80 : decode cX11_isLikeMade 80 = .ok (.aload_n 0, 1) := by decide +kernel
theorem dX11_isLikeMade_81 : decode cX11_isLikeMade 81 = .ok (.getfield 53, 3) := by decide +kernel
theorem dX11_isLikeMade_84 : decode cX11_isLikeMade 84 = .ok (.bipush 30, 2) := by decide +kernel
theorem dX11_isLikeMade_86 : decode cX11_isLikeMade 86 = .ok (.iload_n 1, 1) := by decide +kernel
theorem dX11_isLikeMade_87 : decode cX11_isLikeMade 87 = .ok (.imul, 1) := by decide +kernel
theorem dX11_isLikeMade_88 : decode cX11_isLikeMade 88 = .ok (.iload_n 3, 1) := by decide +kernel
theorem dX11_isLikeMade_89 : decode cX11_isLikeMade 89 = .ok (.iadd, 1) := by decide +kernel
theorem dX11_isLikeMade_90 : decode cX11_isLikeMade 90 = .ok (.laload, 1) := by decide +kernel
theorem dX11_isLikeMade_91 : decode cX11_isLikeMade 91 = .ok (.lcmp, 1) := by decide +kernel
theorem dX11_isLikeMade_92 : decode cX11_isLikeMade 92 = .ok (.ifCond .ne 7, 3) := by decide +kernel
theorem dX11_isLikeMade_95 : decode cX11_isLikeMade 95 = .ok (.iconst 1, 1) := by decide +kernel
theorem dX11_isLikeMade_96 : decode cX11_isLikeMade 96 = .ok (.goto 4, 3) := by decide +kernel
theorem dX11_isLikeMade_99 : decode cX11_isLikeMade 99 = .ok (.iconst 0, 1) := by decide +kernel
theorem dX11_isLikeMade_100 : decode cX11_isLikeMade 100 = .ok (.istore_n 2, 1) := by decide +kernel
theorem dX11_isLikeMade_101 : decode cX11_isLikeMade 101 = .ok (.iinc 3 1, 3) := by decide +kernel
theorem dX11_isLikeMade_104 : decode cX11_isLikeMade 104 = .ok (.goto (-83), 3) := by decide +kernel
theorem dX11_isLikeMade_107 : decode cX11_isLikeMade 107 = .ok (.iload_n 2, 1) := by decide +kernel
theorem dX11_isLikeMade_108 : decode cX11_isLikeMade 108 = .ok (.ireturn, 1) := by decide +kernel
theorem dX11_stores_0 : decode cX11_stores 0 = .ok (.aload_n 0, 1) := by decide +kernel
theorem dX11_stores_1 : decode cX11_stores 1 = .ok (.getfield 44, 3) := by decide +kernel
theorem dX11_stores_4 : decode cX11_stores 4 = .ok (.iload_n 1, 1) := by decide +kernel
theorem dX11_stores_5 : decode cX11_stores 5 = .ok (.aload_n 0, 1) := by decide +kernel
theorem dX11_stores_6 : decode cX11_stores 6 = .ok (.getfield 231, 3) := by decide +kernel
theorem dX11_stores_9 : decode cX11_stores 9 = .ok (.iastore, 1) := by decide +kernel
theorem dX11_stores_10 : decode cX11_stores 10 = .ok (.iconst 0, 1) := by decide +kernel
theorem dX11_stores_11 : decode cX11_stores 11 = .ok (.istore_n 2, 1) := by decide +kernel
theorem dX11_stores_12 : decode cX11_stores 12 = .ok (.iload_n 2, 1) := by decide +kernel
theorem dX11_stores_13 : decode cX11_stores 13 = .ok (.aload_n 0, 1) := by decide +kernel
theorem dX11_stores_14 : decode cX11_stores 14 = .ok (.getfield 231, 3) := by decide +kernel
theorem dX11_stores_17 : decode cX11_stores 17 = .ok (.if_icmp .ge 60, 3) := by decide +kernel
theorem dX11_stores_20 : decode cX11_stores 20 = .ok (.aload_n 0, 1) := by decide +kernel
theorem dX11_stores_21 : decode cX11_stores 21 = .ok (.getfield 41, 3) := by decide +kernel
theorem dX11_stores_24 : decode cX11_stores 24 = .ok (.bipush 30, 2) := by decide +kernel
theorem dX11_stores_26 : decode cX11_stores 26 = .ok (.iload_n 1, 1) := by decide +kernel
theorem dX11_stores_27 : decode cX11_stores 27 = .ok (.imul, 1) := by decide +kernel
theorem dX11_stores_28 : decode cX11_stores 28 = .ok (.iload_n 2, 1) := by decide +kernel
theorem dX11_stores_29 : decode cX11_stores 29 = .ok (.iadd, 1) := by decide +kernel
theorem dX11_stores_30 : decode cX11_stores 30 = .ok (.aload_n 0, 1) := by decide +kernel
theorem dX11_stores_31 : decode cX11_stores 31 = .ok (.getfield 47, 3) := by decide +kernel
theorem dX11_stores_34 : decode cX11_stores 34 = .ok (.iload_n 2, 1) := by decide +kernel
theorem dX11_stores_35 : decode cX11_stores 35 = .ok (.iaload, 1) := by decide +kernel
theorem dX11_stores_36 : decode cX11_stores 36 = .ok (.iastore, 1) := by decide +kernel
theorem dX11_stores_37 : decode cX11_stores 37 = .ok (.aload_n 0, 1) := by decide +kernel
theorem dX11_stores_38 : decode cX11_stores 38 = .ok (.getfield 50, 3) := by decide +kernel
theorem dX11_stores_41 : decode cX11_stores 41 = .ok (.bipush 30, 2) := by decide +kernel
theorem dX11_stores_43 : decode cX11_stores 43 = .ok (.iload_n 1, 1) := by decide +kernel
theorem dX11_stores_44 : decode cX11_stores 44 = .ok (.imul, 1) := by decide +kernel
theorem dX11_stores_45 : decode cX11_stores 45 = .ok (.iload_n 2, 1) := by decide +kernel
theorem dX11_stores_46 : decode cX11_stores 46 = .ok (.iadd, 1) := by decide +kernel
theorem dX11_stores_47 : decode cX11_stores 47 = .ok (.aload_n 0, 1) := by decide +kernel
theorem dX11_stores_48 : decode cX11_stores 48 = .ok (.getfield 56, 3) := by decide +kernel
theorem dX11_stores_51 : decode cX11_stores 51 = .ok (.iload_n 2, 1) := by decide +kernel
theorem dX11_stores_52 : decode cX11_stores 52 = .ok (.laload, 1) := by decide +kernel
theorem dX11_stores_53 : decode cX11_stores 53 = .ok (.lastore, 1) := by decide +kernel
theorem dX11_stores_54 : decode cX11_stores 54 = .ok (.aload_n 0, 1) := by decide +kernel
theorem dX11_stores_55 : decode cX11_stores 55 = .ok (.getfield 53, 3) := by decide +kernel
theorem dX11_stores_58 : decode cX11_stores 58 = .ok (.bipush 30, 2) := by decide +kernel
theorem dX11_stores_60 : decode cX11_stores 60 = .ok (.iload_n 1, 1) := by decide +kernel
theorem dX11_stores_61 : decode cX11_stores 61 = .ok (.imul, 1) := by decide +kernel
theorem dX11_stores_62 : decode cX11_stores 62 = .ok (.iload_n 2, 1) := by decide +kernel
theorem dX11_stores_63 : decode cX11_stores 63 = .ok (.iadd, 1) := by decide +kernel
theorem dX11_stores_64 : decode cX11_stores 64 = .ok (.aload_n 0, 1) := by decide +kernel
theorem dX11_stores_65 : decode cX11_stores 65 = .ok (.getfield 59, 3) := by decide +kernel
theorem dX11_stores_68 : decode cX11_stores 68 = .ok (.iload_n 2, 1) := by decide +kernel
theorem dX11_stores_69 : decode cX11_stores 69 = .ok (.laload, 1) := by decide +kernel
theorem dX11_stores_70 : decode cX11_stores 70 = .ok (.lastore, 1) := by decide +kernel
theorem dX11_stores_71 : decode cX11_stores 71 = .ok (.iinc 2 1, 3) := by decide +kernel
theorem dX11_stores_74 : decode cX11_stores 74 = .ok (.goto (-62), 3) := by decide +kernel
theorem dX11_stores_77 : decode cX11_stores 77 = .ok (.return_, 1) := by decide +kernel
theorem dX11_refreshes_0 : decode cX11_refreshes 0 = .ok (.aload_n 0, 1) := by decide +kernel
theorem dX11_refreshes_1 : decode cX11_refreshes 1 = .ok (.getfield 126, 3) := by decide +kernel
theorem dX11_refreshes_4 : decode cX11_refreshes 4 = .ok (.ifCond .eq 4, 3) := by decide +kernel
theorem dX11_refreshes_7 : decode cX11_refreshes 7 = .ok (.return_, 1) := by decide +kernel
theorem dX11_refreshes_8 : decode cX11_refreshes 8 = .ok (.aload_n 0, 1) := by decide +kernel
theorem dX11_refreshes_9 : decode cX11_refreshes 9 = .ok (.iconst 1, 1) := by decide +kernel
theorem dX11_refreshes_10 : decode cX11_refreshes 10 = .ok (.putfield 126, 3) := by decide +kernel
theorem dX11_refreshes_13 : decode cX11_refreshes 13 = .ok (.aload_n 0, 1) := by decide +kernel
theorem dX11_refreshes_14 : decode cX11_refreshes 14 = .ok (.iconst 0, 1) := by decide +kernel
theorem dX11_refreshes_15 : decode cX11_refreshes 15 = .ok (.putfield 249, 3) := by decide +kernel
theorem dX11_refreshes_18 : decode cX11_refreshes 18 = .ok (.aload_n 0, 1) := by decide +kernel
theorem dX11_refreshes_19 : decode cX11_refreshes 19 = .ok (.iconst 0, 1) := by decide +kernel
theorem dX11_refreshes_20 : decode cX11_refreshes 20 = .ok (.putfield 231, 3) := by decide +kernel
theorem dX11_refreshes_23 : decode cX11_refreshes 23 = .ok (.iconst 0, 1) := by decide +kernel
theorem dX11_refreshes_24 : decode cX11_refreshes 24 = .ok (.istore_n 1, 1) := by decide +kernel
theorem dX11_refreshes_25 : decode cX11_refreshes 25 = .ok (.iload_n 1, 1) := by decide +kernel
theorem dX11_refreshes_26 : decode cX11_refreshes 26 = .ok (.aload_n 0, 1) := by decide +kernel
theorem dX11_refreshes_27 : decode cX11_refreshes 27 = .ok (.getfield 225, 3) := by decide +kernel
theorem dX11_refreshes_30 : decode cX11_refreshes 30 = .ok (.if_icmp .ge 31, 3) := by decide +kernel
theorem dX11_refreshes_33 : decode cX11_refreshes 33 = .ok (.aload_n 0, 1) := by decide +kernel
theorem dX11_refreshes_34 : decode cX11_refreshes 34 = .ok (.aload_n 0, 1) := by decide +kernel
theorem dX11_refreshes_35 : decode cX11_refreshes 35 = .ok (.getfield 32, 3) := by decide +kernel
theorem dX11_refreshes_38 : decode cX11_refreshes 38 = .ok (.iload_n 1, 1) := by decide +kernel
theorem dX11_refreshes_39 : decode cX11_refreshes 39 = .ok (.iaload, 1) := by decide +kernel
theorem dX11_refreshes_40 : decode cX11_refreshes 40 = .ok (.aload_n 0, 1) := by decide +kernel
theorem dX11_refreshes_41 : decode cX11_refreshes 41 = .ok (.getfield 35, 3) := by decide +kernel
theorem dX11_refreshes_44 : decode cX11_refreshes 44 = .ok (.iload_n 1, 1) := by decide +kernel
theorem dX11_refreshes_45 : decode cX11_refreshes 45 = .ok (.laload, 1) := by decide +kernel
theorem dX11_refreshes_46 : decode cX11_refreshes 46 = .ok (.aload_n 0, 1) := by decide +kernel
theorem dX11_refreshes_47 : decode cX11_refreshes 47 = .ok (.getfield 38, 3) := by decide +kernel
theorem dX11_refreshes_50 : decode cX11_refreshes 50 = .ok (.iload_n 1, 1) := by decide +kernel
theorem dX11_refreshes_51 : decode cX11_refreshes 51 = .ok (.laload, 1) := by decide +kernel
theorem dX11_refreshes_52 : decode cX11_refreshes 52 = .ok (.invokevirtual 242, 3) := by decide +kernel
theorem dX11_refreshes_55 : decode cX11_refreshes 55 = .ok (.iinc 1 1, 3) := by decide +kernel
theorem dX11_refreshes_58 : decode cX11_refreshes 58 = .ok (.goto (-33), 3) := by decide +kernel
theorem dX11_refreshes_61 : decode cX11_refreshes 61 = .ok (.iconst 0, 1) := by decide +kernel
theorem dX11_refreshes_62 : decode cX11_refreshes 62 = .ok (.istore_n 1, 1) := by decide +kernel
theorem dX11_refreshes_63 : decode cX11_refreshes 63 = .ok (.iload_n 1, 1) := by decide +kernel
theorem dX11_refreshes_64 : decode cX11_refreshes 64 = .ok (.bipush 12, 2) := by decide +kernel
theorem dX11_refreshes_66 : decode cX11_refreshes 66 = .ok (.if_icmp .gt 48, 3) := by decide +kernel
theorem dX11_refreshes_69 : decode cX11_refreshes 69 = .ok (.aload_n 0, 1) := by decide +kernel
theorem dX11_refreshes_70 : decode cX11_refreshes 70 = .ok (.getfield 231, 3) := by decide +kernel
theorem dX11_refreshes_73 : decode cX11_refreshes 73 = .ok (.bipush 30, 2) := by decide +kernel
theorem dX11_refreshes_75 : decode cX11_refreshes 75 = .ok (.if_icmp .le 4, 3) := by decide +kernel
theorem dX11_refreshes_78 : decode cX11_refreshes 78 = .ok (.return_, 1) := by decide +kernel
theorem dX11_refreshes_79 : decode cX11_refreshes 79 = .ok (.aload_n 0, 1) := by decide +kernel
theorem dX11_refreshes_80 : decode cX11_refreshes 80 = .ok (.iload_n 1, 1) := by decide +kernel
theorem dX11_refreshes_81 : decode cX11_refreshes 81 = .ok (.invokevirtual 252, 3) := by decide +kernel
theorem dX11_refreshes_84 : decode cX11_refreshes 84 = .ok (.aload_n 0, 1) := by decide +kernel
theorem dX11_refreshes_85 : decode cX11_refreshes 85 = .ok (.iload_n 1, 1) := by decide +kernel
theorem dX11_refreshes_86 : decode cX11_refreshes 86 = .ok (.invokevirtual 255, 3) := by decide +kernel
theorem dX11_refreshes_89 : decode cX11_refreshes 89 = .ok (.aload_n 0, 1) := by decide +kernel
theorem dX11_refreshes_90 : decode cX11_refreshes 90 = .ok (.iload_n 1, 1) := by decide +kernel
theorem dX11_refreshes_91 : decode cX11_refreshes 91 = .ok (.invokevirtual 258, 3) := by decide +kernel
theorem dX11_refreshes_94 : decode cX11_refreshes 94 = .ok (.ifCond .eq 14, 3) := by decide +kernel
theorem dX11_refreshes_97 : decode cX11_refreshes 97 = .ok (.aload_n 0, 1) := by decide +kernel
theorem dX11_refreshes_98 : decode cX11_refreshes 98 = .ok (.iconst 1, 1) := by decide +kernel
theorem dX11_refreshes_99 : decode cX11_refreshes 99 = .ok (.putfield 249, 3) := by decide +kernel
theorem dX11_refreshes_102 : decode cX11_refreshes 102 = .ok (.aload_n 0, 1) := by decide +kernel
theorem dX11_refreshes_103 : decode cX11_refreshes 103 = .ok (.iload_n 1, 1) := by decide +kernel
theorem dX11_refreshes_104 : decode cX11_refreshes 104 = .ok (.putfield 261, 3) := by decide +kernel
theorem dX11_refreshes_107 : decode cX11_refreshes 107 = .ok (.return_, 1) := by decide +kernel
theorem dX11_refreshes_108 : decode cX11_refreshes 108 = .ok (.iinc 1 1, 3) := by decide +kernel
theorem dX11_refreshes_111 : decode cX11_refreshes 111 = .ok (.goto (-48), 3) := by decide +kernel
theorem dX11_refreshes_114 : decode cX11_refreshes 114 = .ok (.return_, 1) := by decide +kernel
theorem dX11_isAnalyzed_0 : decode cX11_isAnalyzed 0 = .ok (.aload_n 0, 1) := by decide +kernel
theorem dX11_isAnalyzed_1 : decode cX11_isAnalyzed 1 = .ok (.aload_n 0, 1) := by decide +kernel
theorem dX11_isAnalyzed_2 : decode cX11_isAnalyzed 2 = .ok (.getfield 225, 3) := by decide +kernel
theorem dX11_isAnalyzed_5 : decode cX11_isAnalyzed 5 = .ok (.ifCond .ne 7, 3) := by decide +kernel
theorem dX11_isAnalyzed_8 : decode cX11_isAnalyzed 8 = .ok (.iconst 1, 1) := by decide +kernel
theorem dX11_isAnalyzed_9 : decode cX11_isAnalyzed 9 = .ok (.goto 4, 3) := by decide +kernel
theorem dX11_isAnalyzed_12 : decode cX11_isAnalyzed 12 = .ok (.iconst 0, 1) := by decide +kernel
theorem dX11_isAnalyzed_13 : decode cX11_isAnalyzed 13 = .ok (.putfield 106, 3) := by decide +kernel
theorem dX11_isAnalyzed_16 : decode cX11_isAnalyzed 16 = .ok (.aload_n 0, 1) := by decide +kernel
theorem dX11_isAnalyzed_17 : decode cX11_isAnalyzed 17 = .ok (.getfield 106, 3) := by decide +kernel
theorem dX11_isAnalyzed_20 : decode cX11_isAnalyzed 20 = .ok (.ifCond .le 5, 3) := by decide +kernel
theorem dX11_isAnalyzed_23 : decode cX11_isAnalyzed 23 = .ok (.iconst 0, 1) := by decide +kernel
theorem dX11_isAnalyzed_24 : decode cX11_isAnalyzed 24 = .ok (.ireturn, 1) := by decide +kernel
theorem dX11_isAnalyzed_25 : decode cX11_isAnalyzed 25 = .ok (.aload_n 0, 1) := by decide +kernel
theorem dX11_isAnalyzed_26 : decode cX11_isAnalyzed 26 = .ok (.invokevirtual 264, 3) := by decide +kernel
theorem dX11_isAnalyzed_29 : decode cX11_isAnalyzed 29 = .ok (.aload_n 0, 1) := by decide +kernel
theorem dX11_isAnalyzed_30 : decode cX11_isAnalyzed 30 = .ok (.aload_n 0, 1) := by decide +kernel
theorem dX11_isAnalyzed_31 : decode cX11_isAnalyzed 31 = .ok (.getfield 249, 3) := by decide +kernel
theorem dX11_isAnalyzed_34 : decode cX11_isAnalyzed 34 = .ok (.ifCond .eq 7, 3) := by decide +kernel
theorem dX11_isAnalyzed_37 : decode cX11_isAnalyzed 37 = .ok (.iconst 0, 1) := by decide +kernel
theorem dX11_isAnalyzed_38 : decode cX11_isAnalyzed 38 = .ok (.goto 4, 3) := by decide +kernel
theorem dX11_isAnalyzed_41 : decode cX11_isAnalyzed 41 = .ok (.iconst 2, 1) := by decide +kernel
theorem dX11_isAnalyzed_42 : decode cX11_isAnalyzed 42 = .ok (.putfield 106, 3) := by decide +kernel
theorem dX11_isAnalyzed_45 : decode cX11_isAnalyzed 45 = .ok (.aload_n 0, 1) := by decide +kernel
theorem dX11_isAnalyzed_46 : decode cX11_isAnalyzed 46 = .ok (.getfield 249, 3) := by decide +kernel
theorem dX11_isAnalyzed_49 : decode cX11_isAnalyzed 49 = .ok (.ireturn, 1) := by decide +kernel
theorem dX11_analyze_0 : decode cX11_analyze 0 = .ok (.aload_n 0, 1) := by decide +kernel
theorem dX11_analyze_1 : decode cX11_analyze 1 = .ok (.getfield 225, 3) := by decide +kernel
theorem dX11_analyze_4 : decode cX11_analyze 4 = .ok (.ifCond .ne 9, 3) := by decide +kernel
theorem dX11_analyze_7 : decode cX11_analyze 7 = .ok (.aload_n 0, 1) := by decide +kernel
theorem dX11_analyze_8 : decode cX11_analyze 8 = .ok (.iconst 1, 1) := by decide +kernel
theorem dX11_analyze_9 : decode cX11_analyze 9 = .ok (.invokevirtual 144, 3) := by decide +kernel
theorem dX11_analyze_12 : decode cX11_analyze 12 = .ok (.ireturn, 1) := by decide +kernel
theorem dX11_analyze_13 : decode cX11_analyze 13 = .ok (.aload_n 0, 1) := by decide +kernel
theorem dX11_analyze_14 : decode cX11_analyze 14 = .ok (.iconst 0, 1) := by decide +kernel
theorem dX11_analyze_15 : decode cX11_analyze 15 = .ok (.putfield 106, 3) := by decide +kernel
theorem dX11_analyze_18 : decode cX11_analyze 18 = .ok (.aload_n 0, 1) := by decide +kernel
theorem dX11_analyze_19 : decode cX11_analyze 19 = .ok (.invokevirtual 264, 3) := by decide +kernel
theorem dX11_analyze_22 : decode cX11_analyze 22 = .ok (.aload_n 0, 1) := by decide +kernel
theorem dX11_analyze_23 : decode cX11_analyze 23 = .ok (.getfield 249, 3) := by decide +kernel
theorem dX11_analyze_26 : decode cX11_analyze 26 = .ok (.ifCond .eq 7, 3) := by decide +kernel
theorem dX11_analyze_29 : decode cX11_analyze 29 = .ok (.iconst 1, 1) := by decide +kernel
theorem dX11_analyze_30 : decode cX11_analyze 30 = .ok (.goto 4, 3) := by decide +kernel
theorem dX11_analyze_33 : decode cX11_analyze 33 = .ok (.iconst 0, 1) := by decide +kernel
theorem dX11_analyze_34 : decode cX11_analyze 34 = .ok (.ireturn, 1) := by decide +kernel
theorem dX11_lastRound_0 : decode cX11_lastRound 0 = .ok (.aload_n 0, 1) := by decide +kernel
theorem dX11_lastRound_1 : decode cX11_lastRound 1 = .ok (.invokevirtual 267, 3) := by decide +kernel
theorem dX11_lastRound_4 : decode cX11_lastRound 4 = .ok (.ifCond .eq 10, 3) := by decide +kernel
theorem dX11_lastRound_7 : decode cX11_lastRound 7 = .ok (.aload_n 0, 1) := by decide +kernel
theorem dX11_lastRound_8 : decode cX11_lastRound 8 = .ok (.getfield 261, 3) := by decide +kernel
theorem dX11_lastRound_11 : decode cX11_lastRound 11 = .ok (.goto 4, 3) := by decide +kernel
theorem dX11_lastRound_14 : decode cX11_lastRound 14 = .ok (.iconst 0, 1) := by decide +kernel
theorem dX11_lastRound_15 : decode cX11_lastRound 15 = .ok (.ireturn, 1) := by decide +kernel
theorem dX11_basisSize_0 : decode cX11_basisSize 0 = .ok (.aload_n 0, 1) := by decide +kernel
theorem dX11_basisSize_1 : decode cX11_basisSize 1 = .ok (.invokevirtual 267, 3) := by decide +kernel
theorem dX11_basisSize_4 : decode cX11_basisSize 4 = .ok (.ifCond .ne 5, 3) := by decide +kernel
theorem dX11_basisSize_7 : decode cX11_basisSize 7 = .ok (.iconst 0, 1) := by decide +kernel
theorem dX11_basisSize_8 : decode cX11_basisSize 8 = .ok (.ireturn, 1) := by decide +kernel
theorem dX11_basisSize_9 : decode cX11_basisSize 9 = .ok (.iload_n 1, 1) := by decide +kernel
theorem dX11_basisSize_10 : decode cX11_basisSize 10 = .ok (.iconst 0, 1) := by decide +kernel
theorem dX11_basisSize_11 : decode cX11_basisSize 11 = .ok (.aload_n 0, 1) := by decide +kernel
theorem dX11_basisSize_12 : decode cX11_basisSize 12 = .ok (.getfield 261, 3) := by decide +kernel
theorem dX11_basisSize_15 : decode cX11_basisSize 15 = .ok (.invokestatic 134, 3) := by decide +kernel
theorem dX11_basisSize_18 : decode cX11_basisSize 18 = .ok (.ifCond .ne 9, 3) := by decide +kernel
theorem dX11_basisSize_21 : decode cX11_basisSize 21 = .ok (.aload_n 0, 1) := by decide +kernel
theorem dX11_basisSize_22 : decode cX11_basisSize 22 = .ok (.iconst 3, 1) := by decide +kernel
theorem dX11_basisSize_23 : decode cX11_basisSize 23 = .ok (.invokevirtual 144, 3) := by decide +kernel
theorem dX11_basisSize_26 : decode cX11_basisSize 26 = .ok (.ireturn, 1) := by decide +kernel
theorem dX11_basisSize_27 : decode cX11_basisSize 27 = .ok (.aload_n 0, 1) := by decide +kernel
theorem dX11_basisSize_28 : decode cX11_basisSize 28 = .ok (.getfield 44, 3) := by decide +kernel
theorem dX11_basisSize_31 : decode cX11_basisSize 31 = .ok (.iload_n 1, 1) := by decide +kernel
theorem dX11_basisSize_32 : decode cX11_basisSize 32 = .ok (.iaload, 1) := by decide +kernel
theorem dX11_basisSize_33 : decode cX11_basisSize 33 = .ok (.ireturn, 1) := by decide +kernel
theorem dX11_basis_0 : decode cX11_basis 0 = .ok (.aload_n 0, 1) := by decide +kernel
theorem dX11_basis_1 : decode cX11_basis 1 = .ok (.invokevirtual 267, 3) := by decide +kernel
theorem dX11_basis_4 : decode cX11_basis 4 = .ok (.ifCond .ne 5, 3) := by decide +kernel
theorem dX11_basis_7 : decode cX11_basis 7 = .ok (.iconst 0, 1) := by decide +kernel
theorem dX11_basis_8 : decode cX11_basis 8 = .ok (.ireturn, 1) := by decide +kernel
theorem dX11_basis_9 : decode cX11_basis 9 = .ok (.iload_n 1, 1) := by decide +kernel
theorem dX11_basis_10 : decode cX11_basis 10 = .ok (.iconst 0, 1) := by decide +kernel
theorem dX11_basis_11 : decode cX11_basis 11 = .ok (.aload_n 0, 1) := by decide +kernel
theorem dX11_basis_12 : decode cX11_basis 12 = .ok (.getfield 261, 3) := by decide +kernel
theorem dX11_basis_15 : decode cX11_basis 15 = .ok (.invokestatic 134, 3) := by decide +kernel
theorem dX11_basis_18 : decode cX11_basis 18 = .ok (.ifCond .eq 28, 3) := by decide +kernel
theorem dX11_basis_21 : decode cX11_basis 21 = .ok (.iload_n 2, 1) := by decide +kernel
theorem dX11_basis_22 : decode cX11_basis 22 = .ok (.iconst 0, 1) := by decide +kernel
theorem dX11_basis_23 : decode cX11_basis 23 = .ok (.aload_n 0, 1) := by decide +kernel
theorem dX11_basis_24 : decode cX11_basis 24 = .ok (.getfield 44, 3) := by decide +kernel
theorem dX11_basis_27 : decode cX11_basis 27 = .ok (.iload_n 1, 1) := by decide +kernel
theorem dX11_basis_28 : decode cX11_basis 28 = .ok (.iaload, 1) := by decide +kernel
theorem dX11_basis_29 : decode cX11_basis 29 = .ok (.iconst 1, 1) := by decide +kernel
theorem dX11_basis_30 : decode cX11_basis 30 = .ok (.isub, 1) := by decide +kernel
theorem dX11_basis_31 : decode cX11_basis 31 = .ok (.invokestatic 134, 3) := by decide +kernel
theorem dX11_basis_34 : decode cX11_basis 34 = .ok (.ifCond .eq 12, 3) := by decide +kernel
theorem dX11_basis_37 : decode cX11_basis 37 = .ok (.iload_n 3, 1) := by decide +kernel
theorem dX11_basis_38 : decode cX11_basis 38 = .ok (.iconst 0, 1) := by decide +kernel
theorem dX11_basis_39 : decode cX11_basis 39 = .ok (.iconst 2, 1) := by decide +kernel
theorem dX11_basis_40 : decode cX11_basis 40 = .ok (.invokestatic 134, 3) := by decide +kernel
theorem dX11_basis_43 : decode cX11_basis 43 = .ok (.ifCond .ne 9, 3) := by decide +kernel
theorem dX11_basis_46 : decode cX11_basis 46 = .ok (.aload_n 0, 1) := by decide +kernel
theorem dX11_basis_47 : decode cX11_basis 47 = .ok (.iconst 3, 1) := by decide +kernel
theorem dX11_basis_48 : decode cX11_basis 48 = .ok (.invokevirtual 144, 3) := by decide +kernel
theorem dX11_basis_51 : decode cX11_basis 51 = .ok (.ireturn, 1) := by decide +kernel
theorem dX11_basis_52 : decode cX11_basis 52 = .ok (.bipush 30, 2) := by decide +kernel
theorem dX11_basis_54 : decode cX11_basis 54 = .ok (.iload_n 1, 1) := by decide +kernel
theorem dX11_basis_55 : decode cX11_basis 55 = .ok (.imul, 1) := by decide +kernel
theorem dX11_basis_56 : decode cX11_basis 56 = .ok (.iload_n 2, 1) := by decide +kernel
theorem dX11_basis_57 : decode cX11_basis 57 = .ok (.iadd, 1) := by decide +kernel
theorem dX11_basis_58 : decode cX11_basis 58 = .ok (.istore 4, 2) := by decide +kernel
theorem dX11_basis_60 : decode cX11_basis 60 = .ok (.iload_n 3, 1) := by decide +kernel
theorem dX11_basis_61 : decode cX11_basis 61 = .ok (.ifCond .ne 13, 3) := by decide +kernel
theorem dX11_basis_64 : decode cX11_basis 64 = .ok (.aload_n 0, 1) := by decide +kernel
theorem dX11_basis_65 : decode cX11_basis 65 = .ok (.getfield 41, 3) := by decide +kernel
theorem dX11_basis_68 : decode cX11_basis 68 = .ok (.iload 4, 2) := by decide +kernel
theorem dX11_basis_70 : decode cX11_basis 70 = .ok (.iaload, 1) := by decide +kernel
theorem dX11_basis_71 : decode cX11_basis 71 = .ok (.goto 28, 3) := by decide +kernel
theorem dX11_basis_74 : decode cX11_basis 74 = .ok (.iload_n 3, 1) := by decide +kernel
theorem dX11_basis_75 : decode cX11_basis 75 = .ok (.iconst 1, 1) := by decide +kernel
theorem dX11_basis_76 : decode cX11_basis 76 = .ok (.if_icmp .ne 13, 3) := by decide +kernel
theorem dX11_basis_79 : decode cX11_basis 79 = .ok (.aload_n 0, 1) := by decide +kernel
theorem dX11_basis_80 : decode cX11_basis 80 = .ok (.getfield 50, 3) := by decide +kernel
theorem dX11_basis_83 : decode cX11_basis 83 = .ok (.iload 4, 2) := by decide +kernel
theorem dX11_basis_85 : decode cX11_basis 85 = .ok (.laload, 1) := by decide +kernel
theorem dX11_basis_86 : decode cX11_basis 86 = .ok (.goto 10, 3) := by decide +kernel
theorem dX11_basis_89 : decode cX11_basis 89 = .ok (.aload_n 0, 1) := by decide +kernel
theorem dX11_basis_90 : decode cX11_basis 90 = .ok (.getfield 53, 3) := by decide +kernel
theorem dX11_basis_93 : decode cX11_basis 93 = .ok (.iload 4, 2) := by decide +kernel
theorem dX11_basis_95 : decode cX11_basis 95 = .ok (.laload, 1) := by decide +kernel
theorem dX11_basis_96 : decode cX11_basis 96 = .ok (.invokestatic 111, 3) := by decide +kernel
theorem dX11_basis_99 : decode cX11_basis 99 = .ok (.ireturn, 1) := by decide +kernel
theorem dX11_basisLetter_0 : decode cX11_basisLetter 0 = .ok (.aload_n 0, 1) := by decide +kernel
theorem dX11_basisLetter_1 : decode cX11_basisLetter 1 = .ok (.invokevirtual 267, 3) := by decide +kernel
theorem dX11_basisLetter_4 : decode cX11_basisLetter 4 = .ok (.ifCond .ne 5, 3) := by decide +kernel
theorem dX11_basisLetter_7 : decode cX11_basisLetter 7 = .ok (.iconst 0, 1) := by decide +kernel
theorem dX11_basisLetter_8 : decode cX11_basisLetter 8 = .ok (.ireturn, 1) := by decide +kernel
theorem dX11_basisLetter_9 : decode cX11_basisLetter 9 = .ok (.iload_n 1, 1) := by decide +kernel
theorem dX11_basisLetter_10 : decode cX11_basisLetter 10 = .ok (.iconst 0, 1) := by decide +kernel
theorem dX11_basisLetter_11 : decode cX11_basisLetter 11 = .ok (.aload_n 0, 1) := by decide +kernel
theorem dX11_basisLetter_12 : decode cX11_basisLetter 12 = .ok (.getfield 44, 3) := by decide +kernel
theorem dX11_basisLetter_15 : decode cX11_basisLetter 15 = .ok (.aload_n 0, 1) := by decide +kernel
theorem dX11_basisLetter_16 : decode cX11_basisLetter 16 = .ok (.getfield 261, 3) := by decide +kernel
theorem dX11_basisLetter_19 : decode cX11_basisLetter 19 = .ok (.iaload, 1) := by decide +kernel
theorem dX11_basisLetter_20 : decode cX11_basisLetter 20 = .ok (.iconst 1, 1) := by decide +kernel
theorem dX11_basisLetter_21 : decode cX11_basisLetter 21 = .ok (.isub, 1) := by decide +kernel
theorem dX11_basisLetter_22 : decode cX11_basisLetter 22 = .ok (.invokestatic 134, 3) := by decide +kernel
theorem dX11_basisLetter_25 : decode cX11_basisLetter 25 = .ok (.ifCond .eq 10, 3) := by decide +kernel
theorem dX11_basisLetter_28 : decode cX11_basisLetter 28 = .ok (.iload_n 2, 1) := by decide +kernel
theorem dX11_basisLetter_29 : decode cX11_basisLetter 29 = .ok (.invokestatic 138, 3) := by decide +kernel
theorem dX11_basisLetter_32 : decode cX11_basisLetter 32 = .ok (.ifCond .ne 9, 3) := by decide +kernel
theorem dX11_basisLetter_35 : decode cX11_basisLetter 35 = .ok (.aload_n 0, 1) := by decide +kernel
theorem dX11_basisLetter_36 : decode cX11_basisLetter 36 = .ok (.iconst 3, 1) := by decide +kernel
theorem dX11_basisLetter_37 : decode cX11_basisLetter 37 = .ok (.invokevirtual 144, 3) := by decide +kernel
theorem dX11_basisLetter_40 : decode cX11_basisLetter 40 = .ok (.ireturn, 1) := by decide +kernel
theorem dX11_basisLetter_41 : decode cX11_basisLetter 41 = .ok (.iload_n 2, 1) := by decide +kernel
theorem dX11_basisLetter_42 : decode cX11_basisLetter 42 = .ok (.ifCond .ne 20, 3) := by decide +kernel
theorem dX11_basisLetter_45 : decode cX11_basisLetter 45 = .ok (.aload_n 0, 1) := by decide +kernel
theorem dX11_basisLetter_46 : decode cX11_basisLetter 46 = .ok (.getfield 50, 3) := by decide +kernel
theorem dX11_basisLetter_49 : decode cX11_basisLetter 49 = .ok (.bipush 30, 2) := by decide +kernel
theorem dX11_basisLetter_51 : decode cX11_basisLetter 51 = .ok (.aload_n 0, 1) := by decide +kernel
theorem dX11_basisLetter_52 : decode cX11_basisLetter 52 = .ok (.getfield 261, 3) := by decide +kernel
theorem dX11_basisLetter_55 : decode cX11_basisLetter 55 = .ok (.imul, 1) := by decide +kernel
theorem dX11_basisLetter_56 : decode cX11_basisLetter 56 = .ok (.iload_n 1, 1) := by decide +kernel
theorem dX11_basisLetter_57 : decode cX11_basisLetter 57 = .ok (.iadd, 1) := by decide +kernel
theorem dX11_basisLetter_58 : decode cX11_basisLetter 58 = .ok (.laload, 1) := by decide +kernel
theorem dX11_basisLetter_59 : decode cX11_basisLetter 59 = .ok (.goto 17, 3) := by decide +kernel
theorem dX11_basisLetter_62 : decode cX11_basisLetter 62 = .ok (.aload_n 0, 1) := by decide +kernel
theorem dX11_basisLetter_63 : decode cX11_basisLetter 63 = .ok (.getfield 53, 3) := by decide +kernel
theorem dX11_basisLetter_66 : decode cX11_basisLetter 66 = .ok (.bipush 30, 2) := by decide +kernel
theorem dX11_basisLetter_68 : decode cX11_basisLetter 68 = .ok (.aload_n 0, 1) := by decide +kernel
theorem dX11_basisLetter_69 : decode cX11_basisLetter 69 = .ok (.getfield 261, 3) := by decide +kernel
theorem dX11_basisLetter_72 : decode cX11_basisLetter 72 = .ok (.imul, 1) := by decide +kernel
theorem dX11_basisLetter_73 : decode cX11_basisLetter 73 = .ok (.iload_n 1, 1) := by decide +kernel
theorem dX11_basisLetter_74 : decode cX11_basisLetter 74 = .ok (.iadd, 1) := by decide +kernel
theorem dX11_basisLetter_75 : decode cX11_basisLetter 75 = .ok (.laload, 1) := by decide +kernel
theorem dX11_basisLetter_76 : decode cX11_basisLetter 76 = .ok (.lstore 4, 2) := by decide +kernel
theorem dX11_basisLetter_78 : decode cX11_basisLetter 78 = .ok (.iload_n 3, 1) := by decide +kernel
theorem dX11_basisLetter_79 : decode cX11_basisLetter 79 = .ok (.iconst 0, 1) := by decide +kernel
theorem dX11_basisLetter_80 : decode cX11_basisLetter 80 = .ok (.lload 4, 2) := by decide +kernel
theorem dX11_basisLetter_82 : decode cX11_basisLetter 82 = .ok (.invokestatic 111, 3) := by decide +kernel
theorem dX11_basisLetter_85 : decode cX11_basisLetter 85 = .ok (.iconst 1, 1) := by decide +kernel
theorem dX11_basisLetter_86 : decode cX11_basisLetter 86 = .ok (.isub, 1) := by decide +kernel
theorem dX11_basisLetter_87 : decode cX11_basisLetter 87 = .ok (.invokestatic 134, 3) := by decide +kernel
theorem dX11_basisLetter_90 : decode cX11_basisLetter 90 = .ok (.ifCond .eq 12, 3) := by decide +kernel
theorem dX11_basisLetter_93 : decode cX11_basisLetter 93 = .ok (.lload 4, 2) := by decide +kernel
theorem dX11_basisLetter_95 : decode cX11_basisLetter 95 = .ok (.iload_n 3, 1) := by decide +kernel
theorem dX11_basisLetter_96 : decode cX11_basisLetter 96 = .ok (.invokestatic 119, 3) := by decide +kernel
theorem dX11_basisLetter_99 : decode cX11_basisLetter 99 = .ok (.goto 8, 3) := by decide +kernel
theorem dX11_basisLetter_102 : decode cX11_basisLetter 102 = .ok (.aload_n 0, 1) := by decide +kernel
theorem dX11_basisLetter_103 : decode cX11_basisLetter 103 = .ok (.iconst 3, 1) := by decide +kernel
theorem dX11_basisLetter_104 : decode cX11_basisLetter 104 = .ok (.invokevirtual 144, 3) := by decide +kernel
theorem dX11_basisLetter_107 : decode cX11_basisLetter 107 = .ok (.ireturn, 1) := by decide +kernel
theorem dX11_coveringStates_0 : decode cX11_coveringStates 0 = .ok (.aload_n 0, 1) := by decide +kernel
theorem dX11_coveringStates_1 : decode cX11_coveringStates 1 = .ok (.invokevirtual 267, 3) := by decide +kernel
theorem dX11_coveringStates_4 : decode cX11_coveringStates 4 = .ok (.ifCond .ne 5, 3) := by decide +kernel
theorem dX11_coveringStates_7 : decode cX11_coveringStates 7 = .ok (.iconst 0, 1) := by decide +kernel
theorem dX11_coveringStates_8 : decode cX11_coveringStates 8 = .ok (.ireturn, 1) := by decide +kernel
theorem dX11_coveringStates_9 : decode cX11_coveringStates 9 = .ok (.iconst 0, 1) := by decide +kernel
theorem dX11_coveringStates_10 : decode cX11_coveringStates 10 = .ok (.istore_n 1, 1) := by decide +kernel
theorem dX11_coveringStates_11 : decode cX11_coveringStates 11 = .ok (.bipush 30, 2) := by decide +kernel
theorem dX11_coveringStates_13 : decode cX11_coveringStates 13 = .ok (.aload_n 0, 1) := by decide +kernel
theorem dX11_coveringStates_14 : decode cX11_coveringStates 14 = .ok (.getfield 261, 3) := by decide +kernel
theorem dX11_coveringStates_17 : decode cX11_coveringStates 17 = .ok (.imul, 1) := by decide +kernel
theorem dX11_coveringStates_18 : decode cX11_coveringStates 18 = .ok (.istore_n 2, 1) := by decide +kernel
theorem dX11_coveringStates_19 : decode cX11_coveringStates 19 = .ok (.iload_n 2, 1) := by decide +kernel
theorem dX11_coveringStates_20 : decode cX11_coveringStates 20 = .ok (.bipush 30, 2) := by decide +kernel
theorem dX11_coveringStates_22 : decode cX11_coveringStates 22 = .ok (.aload_n 0, 1) := by decide +kernel
theorem dX11_coveringStates_23 : decode cX11_coveringStates 23 = .ok (.getfield 261, 3) := by decide +kernel
theorem dX11_coveringStates_26 : decode cX11_coveringStates 26 = .ok (.imul, 1) := by decide +kernel
theorem dX11_coveringStates_27 : decode cX11_coveringStates 27 = .ok (.aload_n 0, 1) := by decide +kernel
theorem dX11_coveringStates_28 : decode cX11_coveringStates 28 = .ok (.getfield 44, 3) := by decide +kernel
theorem dX11_coveringStates_31 : decode cX11_coveringStates 31 = .ok (.aload_n 0, 1) := by decide +kernel
theorem dX11_coveringStates_32 : decode cX11_coveringStates 32 = .ok (.getfield 261, 3) := by decide +kernel
theorem dX11_coveringStates_35 : decode cX11_coveringStates 35 = .ok (.iaload, 1) := by decide +kernel
theorem dX11_coveringStates_36 : decode cX11_coveringStates 36 = .ok (.iadd, 1) := by decide +kernel
theorem dX11_coveringStates_37 : decode cX11_coveringStates 37 = .ok (.if_icmp .ge 46, 3) := by decide +kernel
theorem dX11_coveringStates_40 : decode cX11_coveringStates 40 = .ok (.iload_n 1, 1) := by decide +kernel
theorem dX11_coveringStates_41 : decode cX11_coveringStates 41 = .ok (.aload_n 0, 1) := by decide +kernel
theorem dX11_coveringStates_42 : decode cX11_coveringStates 42 = .ok (.getfield 50, 3) := by decide +kernel
theorem dX11_coveringStates_45 : decode cX11_coveringStates 45 = .ok (.iload_n 2, 1) := by decide +kernel
theorem dX11_coveringStates_46 : decode cX11_coveringStates 46 = .ok (.laload, 1) := by decide +kernel
theorem dX11_coveringStates_47 : decode cX11_coveringStates 47 = .ok (.lconst 0, 1) := by decide +kernel
theorem dX11_coveringStates_48 : decode cX11_coveringStates 48 = .ok (.lcmp, 1) := by decide +kernel
theorem dX11_coveringStates_49 : decode cX11_coveringStates 49 = .ok (.ifCond .ne 25, 3) := by decide +kernel
theorem dX11_coveringStates_52 : decode cX11_coveringStates 52 = .ok (.aload_n 0, 1) := by decide +kernel
theorem dX11_coveringStates_53 : decode cX11_coveringStates 53 = .ok (.getfield 53, 3) := by decide +kernel
theorem dX11_coveringStates_56 : decode cX11_coveringStates 56 = .ok (.iload_n 2, 1) := by decide +kernel
theorem dX11_coveringStates_57 : decode cX11_coveringStates 57 = .ok (.laload, 1) := by decide +kernel
theorem dX11_coveringStates_58 : decode cX11_coveringStates 58 = .ok (.lconst 0, 1) := by decide +kernel
theorem dX11_coveringStates_59 : decode cX11_coveringStates 59 = .ok (.lcmp, 1) := by decide +kernel
theorem dX11_coveringStates_60 : decode cX11_coveringStates 60 = .ok (.ifCond .ne 14, 3) := by decide +kernel
theorem dX11_coveringStates_63 : decode cX11_coveringStates 63 = .ok (.iconst 1, 1) := by decide +kernel
theorem dX11_coveringStates_64 : decode cX11_coveringStates 64 = .ok (.aload_n 0, 1) := by decide +kernel
theorem dX11_coveringStates_65 : decode cX11_coveringStates 65 = .ok (.getfield 41, 3) := by decide +kernel
theorem dX11_coveringStates_68 : decode cX11_coveringStates 68 = .ok (.iload_n 2, 1) := by decide +kernel
theorem dX11_coveringStates_69 : decode cX11_coveringStates 69 = .ok (.iaload, 1) := by decide +kernel
theorem dX11_coveringStates_70 : decode cX11_coveringStates 70 = .ok (.ishl, 1) := by decide +kernel
theorem dX11_coveringStates_71 : decode cX11_coveringStates 71 = .ok (.goto 4, 3) := by decide +kernel
theorem dX11_coveringStates_74 : decode cX11_coveringStates 74 = .ok (.iconst 0, 1) := by decide +kernel
theorem dX11_coveringStates_75 : decode cX11_coveringStates 75 = .ok (.ior, 1) := by decide +kernel
theorem dX11_coveringStates_76 : decode cX11_coveringStates 76 = .ok (.istore_n 1, 1) := by decide +kernel
theorem dX11_coveringStates_77 : decode cX11_coveringStates 77 = .ok (.iinc 2 1, 3) := by decide +kernel
theorem dX11_coveringStates_80 : decode cX11_coveringStates 80 = .ok (.goto (-61), 3) := by decide +kernel
theorem dX11_coveringStates_83 : decode cX11_coveringStates 83 = .ok (.iload_n 1, 1) := by decide +kernel
theorem dX11_coveringStates_84 : decode cX11_coveringStates 84 = .ok (.ireturn, 1) := by decide +kernel
theorem dX11_least_0 : decode cX11_least 0 = .ok (.aload_n 0, 1) := by decide +kernel
theorem dX11_least_1 : decode cX11_least 1 = .ok (.invokevirtual 267, 3) := by decide +kernel
theorem dX11_least_4 : decode cX11_least 4 = .ok (.ifCond .ne 5, 3) := by decide +kernel
theorem dX11_least_7 : decode cX11_least 7 = .ok (.iconst 0, 1) := by decide +kernel
theorem dX11_least_8 : decode cX11_least 8 = .ok (.ireturn, 1) := by decide +kernel
theorem dX11_least_9 : decode cX11_least 9 = .ok (.iload_n 1, 1) := by decide +kernel
theorem dX11_least_10 : decode cX11_least 10 = .ok (.invokestatic 130, 3) := by decide +kernel
theorem dX11_least_13 : decode cX11_least 13 = .ok (.ifCond .ne 9, 3) := by decide +kernel
theorem dX11_least_16 : decode cX11_least 16 = .ok (.aload_n 0, 1) := by decide +kernel
theorem dX11_least_17 : decode cX11_least 17 = .ok (.iconst 3, 1) := by decide +kernel
theorem dX11_least_18 : decode cX11_least 18 = .ok (.invokevirtual 144, 3) := by decide +kernel
theorem dX11_least_21 : decode cX11_least 21 = .ok (.ireturn, 1) := by decide +kernel
theorem dX11_least_22 : decode cX11_least 22 = .ok (.iconst (-1), 1) := by decide +kernel
theorem dX11_least_23 : decode cX11_least 23 = .ok (.istore_n 2, 1) := by decide +kernel
theorem dX11_least_24 : decode cX11_least 24 = .ok (.bipush 30, 2) := by decide +kernel
theorem dX11_least_26 : decode cX11_least 26 = .ok (.aload_n 0, 1) := by decide +kernel
theorem dX11_least_27 : decode cX11_least 27 = .ok (.getfield 261, 3) := by decide +kernel
theorem dX11_least_30 : decode cX11_least 30 = .ok (.imul, 1) := by decide +kernel
theorem dX11_least_31 : decode cX11_least 31 = .ok (.istore_n 3, 1) := by decide +kernel
theorem dX11_least_32 : decode cX11_least 32 = .ok (.iload_n 3, 1) := by decide +kernel
theorem dX11_least_33 : decode cX11_least 33 = .ok (.bipush 30, 2) := by decide +kernel
theorem dX11_least_35 : decode cX11_least 35 = .ok (.aload_n 0, 1) := by decide +kernel
theorem dX11_least_36 : decode cX11_least 36 = .ok (.getfield 261, 3) := by decide +kernel
theorem dX11_least_39 : decode cX11_least 39 = .ok (.imul, 1) := by decide +kernel
theorem dX11_least_40 : decode cX11_least 40 = .ok (.aload_n 0, 1) := by decide +kernel
theorem dX11_least_41 : decode cX11_least 41 = .ok (.getfield 44, 3) := by decide +kernel
theorem dX11_least_44 : decode cX11_least 44 = .ok (.aload_n 0, 1) := by decide +kernel
theorem dX11_least_45 : decode cX11_least 45 = .ok (.getfield 261, 3) := by decide +kernel
theorem dX11_least_48 : decode cX11_least 48 = .ok (.iaload, 1) := by decide +kernel
theorem dX11_least_49 : decode cX11_least 49 = .ok (.iadd, 1) := by decide +kernel
theorem dX11_least_50 : decode cX11_least 50 = .ok (.if_icmp .ge 53, 3) := by decide +kernel
theorem dX11_least_53 : decode cX11_least 53 = .ok (.aload_n 0, 1) := by decide +kernel
theorem dX11_least_54 : decode cX11_least 54 = .ok (.getfield 50, 3) := by decide +kernel
theorem dX11_least_57 : decode cX11_least 57 = .ok (.iload_n 3, 1) := by decide +kernel
theorem dX11_least_58 : decode cX11_least 58 = .ok (.laload, 1) := by decide +kernel
theorem dX11_least_59 : decode cX11_least 59 = .ok (.invokestatic 111, 3) := by decide +kernel
theorem dX11_least_62 : decode cX11_least 62 = .ok (.aload_n 0, 1) := by decide +kernel
theorem dX11_least_63 : decode cX11_least 63 = .ok (.getfield 53, 3) := by decide +kernel
theorem dX11_least_66 : decode cX11_least 66 = .ok (.iload_n 3, 1) := by decide +kernel
theorem dX11_least_67 : decode cX11_least 67 = .ok (.laload, 1) := by decide +kernel
theorem dX11_least_68 : decode cX11_least 68 = .ok (.invokestatic 111, 3) := by decide +kernel
theorem dX11_least_71 : decode cX11_least 71 = .ok (.iadd, 1) := by decide +kernel
theorem dX11_least_72 : decode cX11_least 72 = .ok (.istore 4, 2) := by decide +kernel
theorem dX11_least_74 : decode cX11_least 74 = .ok (.aload_n 0, 1) := by decide +kernel
theorem dX11_least_75 : decode cX11_least 75 = .ok (.getfield 41, 3) := by decide +kernel
theorem dX11_least_78 : decode cX11_least 78 = .ok (.iload_n 3, 1) := by decide +kernel
theorem dX11_least_79 : decode cX11_least 79 = .ok (.iaload, 1) := by decide +kernel
theorem dX11_least_80 : decode cX11_least 80 = .ok (.iload_n 1, 1) := by decide +kernel
theorem dX11_least_81 : decode cX11_least 81 = .ok (.if_icmp .ne 16, 3) := by decide +kernel
theorem dX11_least_84 : decode cX11_least 84 = .ok (.iload_n 2, 1) := by decide +kernel
theorem dX11_least_85 : decode cX11_least 85 = .ok (.ifCond .lt 9, 3) := by decide +kernel
theorem dX11_least_88 : decode cX11_least 88 = .ok (.iload 4, 2) := by decide +kernel
theorem dX11_least_90 : decode cX11_least 90 = .ok (.iload_n 2, 1) := by decide +kernel
theorem dX11_least_91 : decode cX11_least 91 = .ok (.if_icmp .ge 6, 3) := by decide +kernel
theorem dX11_least_94 : decode cX11_least 94 = .ok (.iload 4, 2) := by decide +kernel
theorem dX11_least_96 : decode cX11_least 96 = .ok (.istore_n 2, 1) := by decide +kernel
theorem dX11_least_97 : decode cX11_least 97 = .ok (.iinc 3 1, 3) := by decide +kernel
theorem dX11_least_100 : decode cX11_least 100 = .ok (.goto (-68), 3) := by decide +kernel
theorem dX11_least_103 : decode cX11_least 103 = .ok (.iload_n 2, 1) := by decide +kernel
theorem dX11_least_104 : decode cX11_least 104 = .ok (.ireturn, 1) := by decide +kernel
theorem dX11_isCovered_0 : decode cX11_isCovered 0 = .ok (.bipush 30, 2) := by decide +kernel
theorem dX11_isCovered_2 : decode cX11_isCovered 2 = .ok (.iload_n 1, 1) := by decide +kernel
theorem dX11_isCovered_3 : decode cX11_isCovered 3 = .ok (.imul, 1) := by decide +kernel
theorem dX11_isCovered_4 : decode cX11_isCovered 4 = .ok (.istore_n 2, 1) := by decide +kernel
theorem dX11_isCovered_5 : decode cX11_isCovered 5 = .ok (.iload_n 2, 1) := by decide +kernel
theorem dX11_isCovered_6 : decode cX11_isCovered 6 = .ok (.bipush 30, 2) := by decide +kernel
theorem dX11_isCovered_8 : decode cX11_isCovered 8 = .ok (.iload_n 1, 1) := by decide +kernel
theorem dX11_isCovered_9 : decode cX11_isCovered 9 = .ok (.imul, 1) := by decide +kernel
theorem dX11_isCovered_10 : decode cX11_isCovered 10 = .ok (.aload_n 0, 1) := by decide +kernel
theorem dX11_isCovered_11 : decode cX11_isCovered 11 = .ok (.getfield 44, 3) := by decide +kernel
theorem dX11_isCovered_14 : decode cX11_isCovered 14 = .ok (.iload_n 1, 1) := by decide +kernel
theorem dX11_isCovered_15 : decode cX11_isCovered 15 = .ok (.iaload, 1) := by decide +kernel
theorem dX11_isCovered_16 : decode cX11_isCovered 16 = .ok (.iadd, 1) := by decide +kernel
theorem dX11_isCovered_17 : decode cX11_isCovered 17 = .ok (.if_icmp .ge 56, 3) := by decide +kernel
theorem dX11_isCovered_20 : decode cX11_isCovered 20 = .ok (.aload_n 0, 1) := by decide +kernel
theorem dX11_isCovered_21 : decode cX11_isCovered 21 = .ok (.getfield 41, 3) := by decide +kernel
theorem dX11_isCovered_24 : decode cX11_isCovered 24 = .ok (.iload_n 2, 1) := by decide +kernel
theorem dX11_isCovered_25 : decode cX11_isCovered 25 = .ok (.iaload, 1) := by decide +kernel
theorem dX11_isCovered_26 : decode cX11_isCovered 26 = .ok (.aload_n 0, 1) := by decide +kernel
theorem dX11_isCovered_27 : decode cX11_isCovered 27 = .ok (.getfield 179, 3) := by decide +kernel
theorem dX11_isCovered_30 : decode cX11_isCovered 30 = .ok (.if_icmp .ne 37, 3) := by decide +kernel
theorem dX11_isCovered_33 : decode cX11_isCovered 33 = .ok (.aload_n 0, 1) := by decide +kernel
theorem dX11_isCovered_34 : decode cX11_isCovered 34 = .ok (.getfield 50, 3) := by decide +kernel
theorem dX11_isCovered_37 : decode cX11_isCovered 37 = .ok (.iload_n 2, 1) := by decide +kernel
theorem dX11_isCovered_38 : decode cX11_isCovered 38 = .ok (.laload, 1) := by decide +kernel
theorem dX11_isCovered_39 : decode cX11_isCovered 39 = .ok (.aload_n 0, 1) := by decide +kernel
theorem dX11_isCovered_40 : decode cX11_isCovered 40 = .ok (.getfield 182, 3) := by decide +kernel
theorem dX11_isCovered_43 : decode cX11_isCovered 43 = .ok (.invokestatic 218, 3) := by decide +kernel
theorem dX11_isCovered_46 : decode cX11_isCovered 46 = .ok (.ifCond .eq 21, 3) := by decide +kernel
theorem dX11_isCovered_49 : decode cX11_isCovered 49 = .ok (.aload_n 0, 1) := by decide +kernel
theorem dX11_isCovered_50 : decode cX11_isCovered 50 = .ok (.getfield 53, 3) := by decide +kernel
theorem dX11_isCovered_53 : decode cX11_isCovered 53 = .ok (.iload_n 2, 1) := by decide +kernel
theorem dX11_isCovered_54 : decode cX11_isCovered 54 = .ok (.laload, 1) := by decide +kernel
theorem dX11_isCovered_55 : decode cX11_isCovered 55 = .ok (.aload_n 0, 1) := by decide +kernel
theorem dX11_isCovered_56 : decode cX11_isCovered 56 = .ok (.getfield 185, 3) := by decide +kernel
theorem dX11_isCovered_59 : decode cX11_isCovered 59 = .ok (.invokestatic 218, 3) := by decide +kernel
theorem dX11_isCovered_62 : decode cX11_isCovered 62 = .ok (.ifCond .eq 5, 3) := by decide +kernel
theorem dX11_isCovered_65 : decode cX11_isCovered 65 = .ok (.iconst 1, 1) := by decide +kernel
theorem dX11_isCovered_66 : decode cX11_isCovered 66 = .ok (.ireturn, 1) := by decide +kernel
theorem dX11_isCovered_67 : decode cX11_isCovered 67 = .ok (.iinc 2 1, 3) := by decide +kernel
theorem dX11_isCovered_70 : decode cX11_isCovered 70 = .ok (.goto (-65), 3) := by decide +kernel
theorem dX11_isCovered_73 : decode cX11_isCovered 73 = .ok (.iconst 0, 1) := by decide +kernel
theorem dX11_isCovered_74 : decode cX11_isCovered 74 = .ok (.ireturn, 1) := by decide +kernel
theorem dX11_distanceNow_0 : decode cX11_distanceNow 0 = .ok (.aload_n 0, 1) := by decide +kernel
theorem dX11_distanceNow_1 : decode cX11_distanceNow 1 = .ok (.aload_n 0, 1) := by decide +kernel
theorem dX11_distanceNow_2 : decode cX11_distanceNow 2 = .ok (.getfield 169, 3) := by decide +kernel
theorem dX11_distanceNow_5 : decode cX11_distanceNow 5 = .ok (.aload_n 0, 1) := by decide +kernel
theorem dX11_distanceNow_6 : decode cX11_distanceNow 6 = .ok (.getfield 159, 3) := by decide +kernel
theorem dX11_distanceNow_9 : decode cX11_distanceNow 9 = .ok (.aload_n 0, 1) := by decide +kernel
theorem dX11_distanceNow_10 : decode cX11_distanceNow 10 = .ok (.getfield 163, 3) := by decide +kernel
theorem dX11_distanceNow_13 : decode cX11_distanceNow 13 = .ok (.invokevirtual 198, 3) := by decide +kernel
theorem dX11_distanceNow_16 : decode cX11_distanceNow 16 = .ok (.iconst 0, 1) := by decide +kernel
theorem dX11_distanceNow_17 : decode cX11_distanceNow 17 = .ok (.istore_n 1, 1) := by decide +kernel
theorem dX11_distanceNow_18 : decode cX11_distanceNow 18 = .ok (.iload_n 1, 1) := by decide +kernel
theorem dX11_distanceNow_19 : decode cX11_distanceNow 19 = .ok (.aload_n 0, 1) := by decide +kernel
theorem dX11_distanceNow_20 : decode cX11_distanceNow 20 = .ok (.getfield 261, 3) := by decide +kernel
theorem dX11_distanceNow_23 : decode cX11_distanceNow 23 = .ok (.if_icmp .gt 19, 3) := by decide +kernel
theorem dX11_distanceNow_26 : decode cX11_distanceNow 26 = .ok (.aload_n 0, 1) := by decide +kernel
theorem dX11_distanceNow_27 : decode cX11_distanceNow 27 = .ok (.iload_n 1, 1) := by decide +kernel
theorem dX11_distanceNow_28 : decode cX11_distanceNow 28 = .ok (.invokevirtual 271, 3) := by decide +kernel
theorem dX11_distanceNow_31 : decode cX11_distanceNow 31 = .ok (.ifCond .eq 5, 3) := by decide +kernel
theorem dX11_distanceNow_34 : decode cX11_distanceNow 34 = .ok (.iload_n 1, 1) := by decide +kernel
theorem dX11_distanceNow_35 : decode cX11_distanceNow 35 = .ok (.ireturn, 1) := by decide +kernel
theorem dX11_distanceNow_36 : decode cX11_distanceNow 36 = .ok (.iinc 1 1, 3) := by decide +kernel
theorem dX11_distanceNow_39 : decode cX11_distanceNow 39 = .ok (.goto (-21), 3) := by decide +kernel
theorem dX11_distanceNow_42 : decode cX11_distanceNow 42 = .ok (.iconst (-1), 1) := by decide +kernel
theorem dX11_distanceNow_43 : decode cX11_distanceNow 43 = .ok (.ireturn, 1) := by decide +kernel
theorem dX11_distance_0 : decode cX11_distance 0 = .ok (.aload_n 0, 1) := by decide +kernel
theorem dX11_distance_1 : decode cX11_distance 1 = .ok (.invokevirtual 267, 3) := by decide +kernel
theorem dX11_distance_4 : decode cX11_distance 4 = .ok (.ifCond .eq 10, 3) := by decide +kernel
theorem dX11_distance_7 : decode cX11_distance 7 = .ok (.aload_n 0, 1) := by decide +kernel
theorem dX11_distance_8 : decode cX11_distance 8 = .ok (.invokevirtual 274, 3) := by decide +kernel
theorem dX11_distance_11 : decode cX11_distance 11 = .ok (.goto 4, 3) := by decide +kernel
theorem dX11_distance_14 : decode cX11_distance 14 = .ok (.iconst 0, 1) := by decide +kernel
theorem dX11_distance_15 : decode cX11_distance 15 = .ok (.ireturn, 1) := by decide +kernel
theorem dX11_firesNext_0 : decode cX11_firesNext 0 = .ok (.aload_n 0, 1) := by decide +kernel
theorem dX11_firesNext_1 : decode cX11_firesNext 1 = .ok (.getfield 179, 3) := by decide +kernel
theorem dX11_firesNext_4 : decode cX11_firesNext 4 = .ok (.istore_n 2, 1) := by decide +kernel
theorem dX11_firesNext_5 : decode cX11_firesNext 5 = .ok (.aload_n 0, 1) := by decide +kernel
theorem dX11_firesNext_6 : decode cX11_firesNext 6 = .ok (.getfield 182, 3) := by decide +kernel
theorem dX11_firesNext_9 : decode cX11_firesNext 9 = .ok (.lstore_n 3, 1) := by decide +kernel
theorem dX11_firesNext_10 : decode cX11_firesNext 10 = .ok (.aload_n 0, 1) := by decide +kernel
theorem dX11_firesNext_11 : decode cX11_firesNext 11 = .ok (.getfield 185, 3) := by decide +kernel
theorem dX11_firesNext_14 : decode cX11_firesNext 14 = .ok (.lstore 5, 2) := by decide +kernel
theorem dX11_firesNext_16 : decode cX11_firesNext 16 = .ok (.iconst 0, 1) := by decide +kernel
theorem dX11_firesNext_17 : decode cX11_firesNext 17 = .ok (.istore 7, 2) := by decide +kernel
theorem dX11_firesNext_19 : decode cX11_firesNext 19 = .ok (.iload 7, 2) := by decide +kernel
theorem dX11_firesNext_21 : decode cX11_firesNext 21 = .ok (.aload_n 0, 1) := by decide +kernel
theorem dX11_firesNext_22 : decode cX11_firesNext 22 = .ok (.getfield 123, 3) := by decide +kernel
theorem dX11_firesNext_25 : decode cX11_firesNext 25 = .ok (.if_icmp .ge 48, 3) := by decide +kernel
theorem dX11_firesNext_28 : decode cX11_firesNext 28 = .ok (.aload_n 0, 1) := by decide +kernel
theorem dX11_firesNext_29 : decode cX11_firesNext 29 = .ok (.iload_n 2, 1) := by decide +kernel
theorem dX11_firesNext_30 : decode cX11_firesNext 30 = .ok (.lload_n 3, 1) := by decide +kernel
theorem dX11_firesNext_31 : decode cX11_firesNext 31 = .ok (.lload 5, 2) := by decide +kernel
theorem dX11_firesNext_33 : decode cX11_firesNext 33 = .ok (.invokevirtual 198, 3) := by decide +kernel
theorem dX11_firesNext_36 : decode cX11_firesNext 36 = .ok (.aload_n 0, 1) := by decide +kernel
theorem dX11_firesNext_37 : decode cX11_firesNext 37 = .ok (.iload 7, 2) := by decide +kernel
theorem dX11_firesNext_39 : decode cX11_firesNext 39 = .ok (.invokevirtual 202, 3) := by decide +kernel
theorem dX11_firesNext_42 : decode cX11_firesNext 42 = .ok (.ifCond .ne 6, 3) := by decide +kernel
theorem dX11_firesNext_45 : decode cX11_firesNext 45 = .ok (.goto 22, 3) := by decide +kernel
theorem dX11_firesNext_48 : decode cX11_firesNext 48 = .ok (.aload_n 0, 1) := by decide +kernel
theorem dX11_firesNext_49 : decode cX11_firesNext 49 = .ok (.iload 7, 2) := by decide +kernel
theorem dX11_firesNext_51 : decode cX11_firesNext 51 = .ok (.invokevirtual 212, 3) := by decide +kernel
theorem dX11_firesNext_54 : decode cX11_firesNext 54 = .ok (.aload_n 0, 1) := by decide +kernel
theorem dX11_firesNext_55 : decode cX11_firesNext 55 = .ok (.iload_n 1, 1) := by decide +kernel
theorem dX11_firesNext_56 : decode cX11_firesNext 56 = .ok (.iconst 1, 1) := by decide +kernel
theorem dX11_firesNext_57 : decode cX11_firesNext 57 = .ok (.isub, 1) := by decide +kernel
theorem dX11_firesNext_58 : decode cX11_firesNext 58 = .ok (.invokevirtual 271, 3) := by decide +kernel
theorem dX11_firesNext_61 : decode cX11_firesNext 61 = .ok (.ifCond .eq 6, 3) := by decide +kernel
theorem dX11_firesNext_64 : decode cX11_firesNext 64 = .ok (.iload 7, 2) := by decide +kernel
theorem dX11_firesNext_66 : decode cX11_firesNext 66 = .ok (.ireturn, 1) := by decide +kernel
theorem dX11_firesNext_67 : decode cX11_firesNext 67 = .ok (.iinc 7 1, 3) := by decide +kernel
theorem dX11_firesNext_70 : decode cX11_firesNext 70 = .ok (.goto (-51), 3) := by decide +kernel
theorem dX11_firesNext_73 : decode cX11_firesNext 73 = .ok (.iconst (-1), 1) := by decide +kernel
theorem dX11_firesNext_74 : decode cX11_firesNext 74 = .ok (.ireturn, 1) := by decide +kernel
theorem dX11_goesTo_0 : decode cX11_goesTo 0 = .ok (.aload_n 0, 1) := by decide +kernel
theorem dX11_goesTo_1 : decode cX11_goesTo 1 = .ok (.invokevirtual 274, 3) := by decide +kernel
theorem dX11_goesTo_4 : decode cX11_goesTo 4 = .ok (.istore_n 2, 1) := by decide +kernel
theorem dX11_goesTo_5 : decode cX11_goesTo 5 = .ok (.iload_n 1, 1) := by decide +kernel
theorem dX11_goesTo_6 : decode cX11_goesTo 6 = .ok (.iconst 0, 1) := by decide +kernel
theorem dX11_goesTo_7 : decode cX11_goesTo 7 = .ok (.iload_n 2, 1) := by decide +kernel
theorem dX11_goesTo_8 : decode cX11_goesTo 8 = .ok (.iconst 1, 1) := by decide +kernel
theorem dX11_goesTo_9 : decode cX11_goesTo 9 = .ok (.isub, 1) := by decide +kernel
theorem dX11_goesTo_10 : decode cX11_goesTo 10 = .ok (.invokestatic 134, 3) := by decide +kernel
theorem dX11_goesTo_13 : decode cX11_goesTo 13 = .ok (.ifCond .ne 11, 3) := by decide +kernel
theorem dX11_goesTo_16 : decode cX11_goesTo 16 = .ok (.aload_n 0, 1) := by decide +kernel
theorem dX11_goesTo_17 : decode cX11_goesTo 17 = .ok (.iconst 3, 1) := by decide +kernel
theorem dX11_goesTo_18 : decode cX11_goesTo 18 = .ok (.invokevirtual 144, 3) := by decide +kernel
theorem dX11_goesTo_21 : decode cX11_goesTo 21 = .ok (.iconst 1, 1) := by decide +kernel
theorem dX11_goesTo_22 : decode cX11_goesTo 22 = .ok (.isub, 1) := by decide +kernel
theorem dX11_goesTo_23 : decode cX11_goesTo 23 = .ok (.ireturn, 1) := by decide +kernel
theorem dX11_goesTo_24 : decode cX11_goesTo 24 = .ok (.aload_n 0, 1) := by decide +kernel
theorem dX11_goesTo_25 : decode cX11_goesTo 25 = .ok (.aload_n 0, 1) := by decide +kernel
theorem dX11_goesTo_26 : decode cX11_goesTo 26 = .ok (.getfield 169, 3) := by decide +kernel
theorem dX11_goesTo_29 : decode cX11_goesTo 29 = .ok (.aload_n 0, 1) := by decide +kernel
theorem dX11_goesTo_30 : decode cX11_goesTo 30 = .ok (.getfield 159, 3) := by decide +kernel
theorem dX11_goesTo_33 : decode cX11_goesTo 33 = .ok (.aload_n 0, 1) := by decide +kernel
theorem dX11_goesTo_34 : decode cX11_goesTo 34 = .ok (.getfield 163, 3) := by decide +kernel
theorem dX11_goesTo_37 : decode cX11_goesTo 37 = .ok (.invokevirtual 198, 3) := by decide +kernel
theorem dX11_goesTo_40 : decode cX11_goesTo 40 = .ok (.iconst 0, 1) := by decide +kernel
theorem dX11_goesTo_41 : decode cX11_goesTo 41 = .ok (.istore_n 3, 1) := by decide +kernel
theorem dX11_goesTo_42 : decode cX11_goesTo 42 = .ok (.iconst 0, 1) := by decide +kernel
theorem dX11_goesTo_43 : decode cX11_goesTo 43 = .ok (.istore 4, 2) := by decide +kernel
theorem dX11_goesTo_45 : decode cX11_goesTo 45 = .ok (.iload 4, 2) := by decide +kernel
theorem dX11_goesTo_47 : decode cX11_goesTo 47 = .ok (.iload_n 1, 1) := by decide +kernel
theorem dX11_goesTo_48 : decode cX11_goesTo 48 = .ok (.if_icmp .gt 18, 3) := by decide +kernel
theorem dX11_goesTo_51 : decode cX11_goesTo 51 = .ok (.aload_n 0, 1) := by decide +kernel
theorem dX11_goesTo_52 : decode cX11_goesTo 52 = .ok (.iload_n 2, 1) := by decide +kernel
theorem dX11_goesTo_53 : decode cX11_goesTo 53 = .ok (.iload 4, 2) := by decide +kernel
theorem dX11_goesTo_55 : decode cX11_goesTo 55 = .ok (.isub, 1) := by decide +kernel
theorem dX11_goesTo_56 : decode cX11_goesTo 56 = .ok (.invokevirtual 278, 3) := by decide +kernel
theorem dX11_goesTo_59 : decode cX11_goesTo 59 = .ok (.istore_n 3, 1) := by decide +kernel
theorem dX11_goesTo_60 : decode cX11_goesTo 60 = .ok (.iinc 4 1, 3) := by decide +kernel
theorem dX11_goesTo_63 : decode cX11_goesTo 63 = .ok (.goto (-18), 3) := by decide +kernel
theorem dX11_goesTo_66 : decode cX11_goesTo 66 = .ok (.iload_n 3, 1) := by decide +kernel
theorem dX11_goesTo_67 : decode cX11_goesTo 67 = .ok (.ireturn, 1) := by decide +kernel
theorem dX11_covering_0 : decode cX11_covering 0 = .ok (.aload_n 0, 1) := by decide +kernel
theorem dX11_covering_1 : decode cX11_covering 1 = .ok (.invokevirtual 267, 3) := by decide +kernel
theorem dX11_covering_4 : decode cX11_covering 4 = .ok (.ifCond .ne 5, 3) := by decide +kernel
theorem dX11_covering_7 : decode cX11_covering 7 = .ok (.iconst 0, 1) := by decide +kernel
theorem dX11_covering_8 : decode cX11_covering 8 = .ok (.ireturn, 1) := by decide +kernel
theorem dX11_covering_9 : decode cX11_covering 9 = .ok (.aload_n 0, 1) := by decide +kernel
theorem dX11_covering_10 : decode cX11_covering 10 = .ok (.iload_n 1, 1) := by decide +kernel
theorem dX11_covering_11 : decode cX11_covering 11 = .ok (.invokevirtual 281, 3) := by decide +kernel
theorem dX11_covering_14 : decode cX11_covering 14 = .ok (.istore_n 2, 1) := by decide +kernel
theorem dX11_covering_15 : decode cX11_covering 15 = .ok (.aload_n 0, 1) := by decide +kernel
theorem dX11_covering_16 : decode cX11_covering 16 = .ok (.getfield 106, 3) := by decide +kernel
theorem dX11_covering_19 : decode cX11_covering 19 = .ok (.ifCond .le 7, 3) := by decide +kernel
theorem dX11_covering_22 : decode cX11_covering 22 = .ok (.iconst 0, 1) := by decide +kernel
theorem dX11_covering_23 : decode cX11_covering 23 = .ok (.goto 4, 3) := by decide +kernel
theorem dX11_covering_26 : decode cX11_covering 26 = .ok (.iload_n 2, 1) := by decide +kernel
theorem dX11_covering_27 : decode cX11_covering 27 = .ok (.ireturn, 1) := by decide +kernel
theorem dX11_lost_0 : decode cX11_lost 0 = .ok (.aload_n 0, 1) := by decide +kernel
theorem dX11_lost_1 : decode cX11_lost 1 = .ok (.invokevirtual 267, 3) := by decide +kernel
theorem dX11_lost_4 : decode cX11_lost 4 = .ok (.ifCond .ne 5, 3) := by decide +kernel
theorem dX11_lost_7 : decode cX11_lost 7 = .ok (.iconst 0, 1) := by decide +kernel
theorem dX11_lost_8 : decode cX11_lost 8 = .ok (.ireturn, 1) := by decide +kernel
theorem dX11_lost_9 : decode cX11_lost 9 = .ok (.aload_n 0, 1) := by decide +kernel
theorem dX11_lost_10 : decode cX11_lost 10 = .ok (.iload_n 1, 1) := by decide +kernel
theorem dX11_lost_11 : decode cX11_lost 11 = .ok (.invokevirtual 281, 3) := by decide +kernel
theorem dX11_lost_14 : decode cX11_lost 14 = .ok (.pop, 1) := by decide +kernel
theorem dX11_lost_15 : decode cX11_lost 15 = .ok (.aload_n 0, 1) := by decide +kernel
theorem dX11_lost_16 : decode cX11_lost 16 = .ok (.getfield 106, 3) := by decide +kernel
theorem dX11_lost_19 : decode cX11_lost 19 = .ok (.ifCond .le 7, 3) := by decide +kernel
theorem dX11_lost_22 : decode cX11_lost 22 = .ok (.iconst 0, 1) := by decide +kernel
theorem dX11_lost_23 : decode cX11_lost 23 = .ok (.goto 7, 3) := by decide +kernel
theorem dX11_lost_26 : decode cX11_lost 26 = .ok (.aload_n 0, 1) := by decide +kernel
theorem dX11_lost_27 : decode cX11_lost 27 = .ok (.getfield 191, 3) := by decide +kernel
theorem dX11_lost_30 : decode cX11_lost 30 = .ok (.ireturn, 1) := by decide +kernel
theorem dX11_begins_0 : decode cX11_begins 0 = .ok (.aload_n 0, 1) := by decide +kernel
theorem dX11_begins_1 : decode cX11_begins 1 = .ok (.iconst 0, 1) := by decide +kernel
theorem dX11_begins_2 : decode cX11_begins 2 = .ok (.putfield 284, 3) := by decide +kernel
theorem dX11_begins_5 : decode cX11_begins 5 = .ok (.aload_n 0, 1) := by decide +kernel
theorem dX11_begins_6 : decode cX11_begins 6 = .ok (.aload_n 0, 1) := by decide +kernel
theorem dX11_begins_7 : decode cX11_begins 7 = .ok (.getfield 169, 3) := by decide +kernel
theorem dX11_begins_10 : decode cX11_begins 10 = .ok (.aload_n 0, 1) := by decide +kernel
theorem dX11_begins_11 : decode cX11_begins 11 = .ok (.getfield 159, 3) := by decide +kernel
theorem dX11_begins_14 : decode cX11_begins 14 = .ok (.aload_n 0, 1) := by decide +kernel
theorem dX11_begins_15 : decode cX11_begins 15 = .ok (.getfield 163, 3) := by decide +kernel
theorem dX11_begins_18 : decode cX11_begins 18 = .ok (.invokevirtual 198, 3) := by decide +kernel
theorem dX11_begins_21 : decode cX11_begins 21 = .ok (.aload_n 0, 1) := by decide +kernel
theorem dX11_begins_22 : decode cX11_begins 22 = .ok (.invokevirtual 287, 3) := by decide +kernel
theorem dX11_begins_25 : decode cX11_begins 25 = .ok (.return_, 1) := by decide +kernel
theorem dX11_rests_0 : decode cX11_rests 0 = .ok (.aload_n 0, 1) := by decide +kernel
theorem dX11_rests_1 : decode cX11_rests 1 = .ok (.getfield 62, 3) := by decide +kernel
theorem dX11_rests_4 : decode cX11_rests 4 = .ok (.aload_n 0, 1) := by decide +kernel
theorem dX11_rests_5 : decode cX11_rests 5 = .ok (.getfield 284, 3) := by decide +kernel
theorem dX11_rests_8 : decode cX11_rests 8 = .ok (.aload_n 0, 1) := by decide +kernel
theorem dX11_rests_9 : decode cX11_rests 9 = .ok (.getfield 179, 3) := by decide +kernel
theorem dX11_rests_12 : decode cX11_rests 12 = .ok (.iastore, 1) := by decide +kernel
theorem dX11_rests_13 : decode cX11_rests 13 = .ok (.aload_n 0, 1) := by decide +kernel
theorem dX11_rests_14 : decode cX11_rests 14 = .ok (.getfield 68, 3) := by decide +kernel
theorem dX11_rests_17 : decode cX11_rests 17 = .ok (.aload_n 0, 1) := by decide +kernel
theorem dX11_rests_18 : decode cX11_rests 18 = .ok (.getfield 284, 3) := by decide +kernel
theorem dX11_rests_21 : decode cX11_rests 21 = .ok (.aload_n 0, 1) := by decide +kernel
theorem dX11_rests_22 : decode cX11_rests 22 = .ok (.getfield 182, 3) := by decide +kernel
theorem dX11_rests_25 : decode cX11_rests 25 = .ok (.lastore, 1) := by decide +kernel
theorem dX11_rests_26 : decode cX11_rests 26 = .ok (.aload_n 0, 1) := by decide +kernel
theorem dX11_rests_27 : decode cX11_rests 27 = .ok (.getfield 71, 3) := by decide +kernel
theorem dX11_rests_30 : decode cX11_rests 30 = .ok (.aload_n 0, 1) := by decide +kernel
theorem dX11_rests_31 : decode cX11_rests 31 = .ok (.getfield 284, 3) := by decide +kernel
theorem dX11_rests_34 : decode cX11_rests 34 = .ok (.aload_n 0, 1) := by decide +kernel
theorem dX11_rests_35 : decode cX11_rests 35 = .ok (.getfield 185, 3) := by decide +kernel
theorem dX11_rests_38 : decode cX11_rests 38 = .ok (.lastore, 1) := by decide +kernel
theorem dX11_rests_39 : decode cX11_rests 39 = .ok (.aload_n 0, 1) := by decide +kernel
theorem dX11_rests_40 : decode cX11_rests 40 = .ok (.getfield 65, 3) := by decide +kernel
theorem dX11_rests_43 : decode cX11_rests 43 = .ok (.aload_n 0, 1) := by decide +kernel
theorem dX11_rests_44 : decode cX11_rests 44 = .ok (.getfield 284, 3) := by decide +kernel
theorem dX11_rests_47 : decode cX11_rests 47 = .ok (.iconst 0, 1) := by decide +kernel
theorem dX11_rests_48 : decode cX11_rests 48 = .ok (.iastore, 1) := by decide +kernel
theorem dX11_rests_49 : decode cX11_rests 49 = .ok (.return_, 1) := by decide +kernel
theorem dX11_goesOn_0 : decode cX11_goesOn 0 = .ok (.aload_n 0, 1) := by decide +kernel
theorem dX11_goesOn_1 : decode cX11_goesOn 1 = .ok (.getfield 284, 3) := by decide +kernel
theorem dX11_goesOn_4 : decode cX11_goesOn 4 = .ok (.ifCond .lt 137, 3) := by decide +kernel
theorem dX11_goesOn_7 : decode cX11_goesOn 7 = .ok (.aload_n 0, 1) := by decide +kernel
theorem dX11_goesOn_8 : decode cX11_goesOn 8 = .ok (.getfield 284, 3) := by decide +kernel
theorem dX11_goesOn_11 : decode cX11_goesOn 11 = .ok (.iload_n 1, 1) := by decide +kernel
theorem dX11_goesOn_12 : decode cX11_goesOn 12 = .ok (.if_icmp .eq 19, 3) := by decide +kernel
theorem dX11_goesOn_15 : decode cX11_goesOn 15 = .ok (.aload_n 0, 1) := by decide +kernel
theorem dX11_goesOn_16 : decode cX11_goesOn 16 = .ok (.getfield 65, 3) := by decide +kernel
theorem dX11_goesOn_19 : decode cX11_goesOn 19 = .ok (.aload_n 0, 1) := by decide +kernel
theorem dX11_goesOn_20 : decode cX11_goesOn 20 = .ok (.getfield 284, 3) := by decide +kernel
theorem dX11_goesOn_23 : decode cX11_goesOn 23 = .ok (.iaload, 1) := by decide +kernel
theorem dX11_goesOn_24 : decode cX11_goesOn 24 = .ok (.aload_n 0, 1) := by decide +kernel
theorem dX11_goesOn_25 : decode cX11_goesOn 25 = .ok (.getfield 123, 3) := by decide +kernel
theorem dX11_goesOn_28 : decode cX11_goesOn 28 = .ok (.if_icmp .ne 16, 3) := by decide +kernel
theorem dX11_goesOn_31 : decode cX11_goesOn 31 = .ok (.aload_n 0, 1) := by decide +kernel
theorem dX11_goesOn_32 : decode cX11_goesOn 32 = .ok (.dup, 1) := by decide +kernel
theorem dX11_goesOn_33 : decode cX11_goesOn 33 = .ok (.getfield 284, 3) := by decide +kernel
theorem dX11_goesOn_36 : decode cX11_goesOn 36 = .ok (.iconst 1, 1) := by decide +kernel
theorem dX11_goesOn_37 : decode cX11_goesOn 37 = .ok (.isub, 1) := by decide +kernel
theorem dX11_goesOn_38 : decode cX11_goesOn 38 = .ok (.putfield 284, 3) := by decide +kernel
theorem dX11_goesOn_41 : decode cX11_goesOn 41 = .ok (.goto (-41), 3) := by decide +kernel
theorem dX11_goesOn_44 : decode cX11_goesOn 44 = .ok (.aload_n 0, 1) := by decide +kernel
theorem dX11_goesOn_45 : decode cX11_goesOn 45 = .ok (.getfield 65, 3) := by decide +kernel
theorem dX11_goesOn_48 : decode cX11_goesOn 48 = .ok (.aload_n 0, 1) := by decide +kernel
theorem dX11_goesOn_49 : decode cX11_goesOn 49 = .ok (.getfield 284, 3) := by decide +kernel
theorem dX11_goesOn_52 : decode cX11_goesOn 52 = .ok (.iaload, 1) := by decide +kernel
theorem dX11_goesOn_53 : decode cX11_goesOn 53 = .ok (.istore_n 2, 1) := by decide +kernel
theorem dX11_goesOn_54 : decode cX11_goesOn 54 = .ok (.aload_n 0, 1) := by decide +kernel
theorem dX11_goesOn_55 : decode cX11_goesOn 55 = .ok (.getfield 65, 3) := by decide +kernel
theorem dX11_goesOn_58 : decode cX11_goesOn 58 = .ok (.aload_n 0, 1) := by decide +kernel
theorem dX11_goesOn_59 : decode cX11_goesOn 59 = .ok (.getfield 284, 3) := by decide +kernel
theorem dX11_goesOn_62 : decode cX11_goesOn 62 = .ok (.dup2, 1) := by decide +kernel
theorem dX11_goesOn_63 : decode cX11_goesOn 63 = .ok (.iaload, 1) := by decide +kernel
theorem dX11_goesOn_64 : decode cX11_goesOn 64 = .ok (.iconst 1, 1) := by decide +kernel
theorem dX11_goesOn_65 : decode cX11_goesOn 65 = .ok (.iadd, 1) := by decide +kernel
theorem dX11_goesOn_66 : decode cX11_goesOn 66 = .ok (.iastore, 1) := by decide +kernel
theorem dX11_goesOn_67 : decode cX11_goesOn 67 = .ok (.aload_n 0, 1) := by decide +kernel
theorem dX11_goesOn_68 : decode cX11_goesOn 68 = .ok (.aload_n 0, 1) := by decide +kernel
theorem dX11_goesOn_69 : decode cX11_goesOn 69 = .ok (.getfield 62, 3) := by decide +kernel
theorem dX11_goesOn_72 : decode cX11_goesOn 72 = .ok (.aload_n 0, 1) := by decide +kernel
theorem dX11_goesOn_73 : decode cX11_goesOn 73 = .ok (.getfield 284, 3) := by decide +kernel
theorem dX11_goesOn_76 : decode cX11_goesOn 76 = .ok (.iaload, 1) := by decide +kernel
theorem dX11_goesOn_77 : decode cX11_goesOn 77 = .ok (.aload_n 0, 1) := by decide +kernel
theorem dX11_goesOn_78 : decode cX11_goesOn 78 = .ok (.getfield 68, 3) := by decide +kernel
theorem dX11_goesOn_81 : decode cX11_goesOn 81 = .ok (.aload_n 0, 1) := by decide +kernel
theorem dX11_goesOn_82 : decode cX11_goesOn 82 = .ok (.getfield 284, 3) := by decide +kernel
theorem dX11_goesOn_85 : decode cX11_goesOn 85 = .ok (.laload, 1) := by decide +kernel
theorem dX11_goesOn_86 : decode cX11_goesOn 86 = .ok (.aload_n 0, 1) := by decide +kernel
theorem dX11_goesOn_87 : decode cX11_goesOn 87 = .ok (.getfield 71, 3) := by decide +kernel
theorem dX11_goesOn_90 : decode cX11_goesOn 90 = .ok (.aload_n 0, 1) := by decide +kernel
theorem dX11_goesOn_91 : decode cX11_goesOn 91 = .ok (.getfield 284, 3) := by decide +kernel
theorem dX11_goesOn_94 : decode cX11_goesOn 94 = .ok (.laload, 1) := by decide +kernel
theorem dX11_goesOn_95 : decode cX11_goesOn 95 = .ok (.invokevirtual 198, 3) := by decide +kernel
theorem dX11_goesOn_98 : decode cX11_goesOn 98 = .ok (.aload_n 0, 1) := by decide +kernel
theorem dX11_goesOn_99 : decode cX11_goesOn 99 = .ok (.iload_n 2, 1) := by decide +kernel
theorem dX11_goesOn_100 : decode cX11_goesOn 100 = .ok (.invokevirtual 202, 3) := by decide +kernel
theorem dX11_goesOn_103 : decode cX11_goesOn 103 = .ok (.ifCond .ne 6, 3) := by decide +kernel
theorem dX11_goesOn_106 : decode cX11_goesOn 106 = .ok (.goto (-106), 3) := by decide +kernel
theorem dX11_goesOn_109 : decode cX11_goesOn 109 = .ok (.aload_n 0, 1) := by decide +kernel
theorem dX11_goesOn_110 : decode cX11_goesOn 110 = .ok (.iload_n 2, 1) := by decide +kernel
theorem dX11_goesOn_111 : decode cX11_goesOn 111 = .ok (.invokevirtual 212, 3) := by decide +kernel
theorem dX11_goesOn_114 : decode cX11_goesOn 114 = .ok (.aload_n 0, 1) := by decide +kernel
theorem dX11_goesOn_115 : decode cX11_goesOn 115 = .ok (.dup, 1) := by decide +kernel
theorem dX11_goesOn_116 : decode cX11_goesOn 116 = .ok (.getfield 284, 3) := by decide +kernel
theorem dX11_goesOn_119 : decode cX11_goesOn 119 = .ok (.iconst 1, 1) := by decide +kernel
theorem dX11_goesOn_120 : decode cX11_goesOn 120 = .ok (.iadd, 1) := by decide +kernel
theorem dX11_goesOn_121 : decode cX11_goesOn 121 = .ok (.putfield 284, 3) := by decide +kernel
theorem dX11_goesOn_124 : decode cX11_goesOn 124 = .ok (.aload_n 0, 1) := by decide +kernel
theorem dX11_goesOn_125 : decode cX11_goesOn 125 = .ok (.invokevirtual 287, 3) := by decide +kernel
theorem dX11_goesOn_128 : decode cX11_goesOn 128 = .ok (.aload_n 0, 1) := by decide +kernel
theorem dX11_goesOn_129 : decode cX11_goesOn 129 = .ok (.getfield 284, 3) := by decide +kernel
theorem dX11_goesOn_132 : decode cX11_goesOn 132 = .ok (.iload_n 1, 1) := by decide +kernel
theorem dX11_goesOn_133 : decode cX11_goesOn 133 = .ok (.if_icmp .ne 5, 3) := by decide +kernel
theorem dX11_goesOn_136 : decode cX11_goesOn 136 = .ok (.iconst 1, 1) := by decide +kernel
theorem dX11_goesOn_137 : decode cX11_goesOn 137 = .ok (.ireturn, 1) := by decide +kernel
theorem dX11_goesOn_138 : decode cX11_goesOn 138 = .ok (.goto (-138), 3) := by decide +kernel
theorem dX11_goesOn_141 : decode cX11_goesOn 141 = .ok (.iconst 0, 1) := by decide +kernel
theorem dX11_goesOn_142 : decode cX11_goesOn 142 = .ok (.ireturn, 1) := by decide +kernel
theorem dX11_statesAfter_0 : decode cX11_statesAfter 0 = .ok (.iload_n 1, 1) := by decide +kernel
theorem dX11_statesAfter_1 : decode cX11_statesAfter 1 = .ok (.iconst 0, 1) := by decide +kernel
theorem dX11_statesAfter_2 : decode cX11_statesAfter 2 = .ok (.iconst 4, 1) := by decide +kernel
theorem dX11_statesAfter_3 : decode cX11_statesAfter 3 = .ok (.invokestatic 134, 3) := by decide +kernel
theorem dX11_statesAfter_6 : decode cX11_statesAfter 6 = .ok (.ifCond .ne 9, 3) := by decide +kernel
theorem dX11_statesAfter_9 : decode cX11_statesAfter 9 = .ok (.aload_n 0, 1) := by decide +kernel
theorem dX11_statesAfter_10 : decode cX11_statesAfter 10 = .ok (.iconst 1, 1) := by decide +kernel
theorem dX11_statesAfter_11 : decode cX11_statesAfter 11 = .ok (.invokevirtual 144, 3) := by decide +kernel
theorem dX11_statesAfter_14 : decode cX11_statesAfter 14 = .ok (.ireturn, 1) := by decide +kernel
theorem dX11_statesAfter_15 : decode cX11_statesAfter 15 = .ok (.aload_n 0, 1) := by decide +kernel
theorem dX11_statesAfter_16 : decode cX11_statesAfter 16 = .ok (.iconst 0, 1) := by decide +kernel
theorem dX11_statesAfter_17 : decode cX11_statesAfter 17 = .ok (.putfield 106, 3) := by decide +kernel
theorem dX11_statesAfter_20 : decode cX11_statesAfter 20 = .ok (.iload_n 1, 1) := by decide +kernel
theorem dX11_statesAfter_21 : decode cX11_statesAfter 21 = .ok (.ifCond .ne 10, 3) := by decide +kernel
theorem dX11_statesAfter_24 : decode cX11_statesAfter 24 = .ok (.iconst 1, 1) := by decide +kernel
theorem dX11_statesAfter_25 : decode cX11_statesAfter 25 = .ok (.aload_n 0, 1) := by decide +kernel
theorem dX11_statesAfter_26 : decode cX11_statesAfter 26 = .ok (.getfield 169, 3) := by decide +kernel
theorem dX11_statesAfter_29 : decode cX11_statesAfter 29 = .ok (.ishl, 1) := by decide +kernel
theorem dX11_statesAfter_30 : decode cX11_statesAfter 30 = .ok (.ireturn, 1) := by decide +kernel
theorem dX11_statesAfter_31 : decode cX11_statesAfter 31 = .ok (.aload_n 0, 1) := by decide +kernel
theorem dX11_statesAfter_32 : decode cX11_statesAfter 32 = .ok (.invokevirtual 290, 3) := by decide +kernel
theorem dX11_statesAfter_35 : decode cX11_statesAfter 35 = .ok (.iconst 0, 1) := by decide +kernel
theorem dX11_statesAfter_36 : decode cX11_statesAfter 36 = .ok (.istore_n 2, 1) := by decide +kernel
theorem dX11_statesAfter_37 : decode cX11_statesAfter 37 = .ok (.aload_n 0, 1) := by decide +kernel
theorem dX11_statesAfter_38 : decode cX11_statesAfter 38 = .ok (.iload_n 1, 1) := by decide +kernel
theorem dX11_statesAfter_39 : decode cX11_statesAfter 39 = .ok (.invokevirtual 293, 3) := by decide +kernel
theorem dX11_statesAfter_42 : decode cX11_statesAfter 42 = .ok (.ifCond .eq 15, 3) := by decide +kernel
theorem dX11_statesAfter_45 : decode cX11_statesAfter 45 = .ok (.iload_n 2, 1) := by decide +kernel
theorem dX11_statesAfter_46 : decode cX11_statesAfter 46 = .ok (.iconst 1, 1) := by decide +kernel
theorem dX11_statesAfter_47 : decode cX11_statesAfter 47 = .ok (.aload_n 0, 1) := by decide +kernel
theorem dX11_statesAfter_48 : decode cX11_statesAfter 48 = .ok (.getfield 179, 3) := by decide +kernel
theorem dX11_statesAfter_51 : decode cX11_statesAfter 51 = .ok (.ishl, 1) := by decide +kernel
theorem dX11_statesAfter_52 : decode cX11_statesAfter 52 = .ok (.ior, 1) := by decide +kernel
theorem dX11_statesAfter_53 : decode cX11_statesAfter 53 = .ok (.istore_n 2, 1) := by decide +kernel
theorem dX11_statesAfter_54 : decode cX11_statesAfter 54 = .ok (.goto (-17), 3) := by decide +kernel
theorem dX11_statesAfter_57 : decode cX11_statesAfter 57 = .ok (.iload_n 2, 1) := by decide +kernel
theorem dX11_statesAfter_58 : decode cX11_statesAfter 58 = .ok (.ireturn, 1) := by decide +kernel
theorem dX11_isLast_0 : decode cX11_isLast 0 = .ok (.aload_n 0, 1) := by decide +kernel
theorem dX11_isLast_1 : decode cX11_isLast 1 = .ok (.iload_n 1, 1) := by decide +kernel
theorem dX11_isLast_2 : decode cX11_isLast 2 = .ok (.invokevirtual 152, 3) := by decide +kernel
theorem dX11_isLast_5 : decode cX11_isLast 5 = .ok (.ifCond .ne 9, 3) := by decide +kernel
theorem dX11_isLast_8 : decode cX11_isLast 8 = .ok (.aload_n 0, 1) := by decide +kernel
theorem dX11_isLast_9 : decode cX11_isLast 9 = .ok (.iconst 1, 1) := by decide +kernel
theorem dX11_isLast_10 : decode cX11_isLast 10 = .ok (.invokevirtual 222, 3) := by decide +kernel
theorem dX11_isLast_13 : decode cX11_isLast 13 = .ok (.ireturn, 1) := by decide +kernel
theorem dX11_isLast_14 : decode cX11_isLast 14 = .ok (.iload_n 2, 1) := by decide +kernel
theorem dX11_isLast_15 : decode cX11_isLast 15 = .ok (.iconst 1, 1) := by decide +kernel
theorem dX11_isLast_16 : decode cX11_isLast 16 = .ok (.iconst 4, 1) := by decide +kernel
theorem dX11_isLast_17 : decode cX11_isLast 17 = .ok (.invokestatic 134, 3) := by decide +kernel
theorem dX11_isLast_20 : decode cX11_isLast 20 = .ok (.ifCond .ne 9, 3) := by decide +kernel
theorem dX11_isLast_23 : decode cX11_isLast 23 = .ok (.aload_n 0, 1) := by decide +kernel
theorem dX11_isLast_24 : decode cX11_isLast 24 = .ok (.iconst 2, 1) := by decide +kernel
theorem dX11_isLast_25 : decode cX11_isLast 25 = .ok (.invokevirtual 222, 3) := by decide +kernel
theorem dX11_isLast_28 : decode cX11_isLast 28 = .ok (.ireturn, 1) := by decide +kernel
theorem dX11_isLast_29 : decode cX11_isLast 29 = .ok (.aload_n 0, 1) := by decide +kernel
theorem dX11_isLast_30 : decode cX11_isLast 30 = .ok (.iconst 0, 1) := by decide +kernel
theorem dX11_isLast_31 : decode cX11_isLast 31 = .ok (.putfield 106, 3) := by decide +kernel
theorem dX11_isLast_34 : decode cX11_isLast 34 = .ok (.aload_n 0, 1) := by decide +kernel
theorem dX11_isLast_35 : decode cX11_isLast 35 = .ok (.invokevirtual 290, 3) := by decide +kernel
theorem dX11_isLast_38 : decode cX11_isLast 38 = .ok (.iload_n 2, 1) := by decide +kernel
theorem dX11_isLast_39 : decode cX11_isLast 39 = .ok (.iconst 1, 1) := by decide +kernel
theorem dX11_isLast_40 : decode cX11_isLast 40 = .ok (.if_icmp .ne 9, 3) := by decide +kernel
theorem dX11_isLast_43 : decode cX11_isLast 43 = .ok (.aload_n 0, 1) := by decide +kernel
theorem dX11_isLast_44 : decode cX11_isLast 44 = .ok (.iload_n 1, 1) := by decide +kernel
theorem dX11_isLast_45 : decode cX11_isLast 45 = .ok (.invokevirtual 202, 3) := by decide +kernel
theorem dX11_isLast_48 : decode cX11_isLast 48 = .ok (.ireturn, 1) := by decide +kernel
theorem dX11_isLast_49 : decode cX11_isLast 49 = .ok (.aload_n 0, 1) := by decide +kernel
theorem dX11_isLast_50 : decode cX11_isLast 50 = .ok (.iload_n 2, 1) := by decide +kernel
theorem dX11_isLast_51 : decode cX11_isLast 51 = .ok (.iconst 1, 1) := by decide +kernel
theorem dX11_isLast_52 : decode cX11_isLast 52 = .ok (.isub, 1) := by decide +kernel
theorem dX11_isLast_53 : decode cX11_isLast 53 = .ok (.invokevirtual 293, 3) := by decide +kernel
theorem dX11_isLast_56 : decode cX11_isLast 56 = .ok (.ifCond .eq 13, 3) := by decide +kernel
theorem dX11_isLast_59 : decode cX11_isLast 59 = .ok (.aload_n 0, 1) := by decide +kernel
theorem dX11_isLast_60 : decode cX11_isLast 60 = .ok (.iload_n 1, 1) := by decide +kernel
theorem dX11_isLast_61 : decode cX11_isLast 61 = .ok (.invokevirtual 202, 3) := by decide +kernel
theorem dX11_isLast_64 : decode cX11_isLast 64 = .ok (.ifCond .eq (-15), 3) := by decide +kernel
theorem dX11_isLast_67 : decode cX11_isLast 67 = .ok (.iconst 1, 1) := by decide +kernel
theorem dX11_isLast_68 : decode cX11_isLast 68 = .ok (.ireturn, 1) := by decide +kernel
theorem dX11_isLast_69 : decode cX11_isLast 69 = .ok (.iconst 0, 1) := by decide +kernel
theorem dX11_isLast_70 : decode cX11_isLast 70 = .ok (.ireturn, 1) := by decide +kernel
theorem dX11_append_0 : decode cX11_append 0 = .ok (.aload_n 0, 1) := by decide +kernel
theorem dX11_append_1 : decode cX11_append 1 = .ok (.aload_n 0, 1) := by decide +kernel
theorem dX11_append_2 : decode cX11_append 2 = .ok (.getfield 296, 3) := by decide +kernel
theorem dX11_append_5 : decode cX11_append 5 = .ok (.bipush 80, 2) := by decide +kernel
theorem dX11_append_7 : decode cX11_append 7 = .ok (.if_icmp .ne 7, 3) := by decide +kernel
theorem dX11_append_10 : decode cX11_append 10 = .ok (.iconst 1, 1) := by decide +kernel
theorem dX11_append_11 : decode cX11_append 11 = .ok (.goto 4, 3) := by decide +kernel
theorem dX11_append_14 : decode cX11_append 14 = .ok (.iconst 0, 1) := by decide +kernel
theorem dX11_append_15 : decode cX11_append 15 = .ok (.putfield 106, 3) := by decide +kernel
theorem dX11_append_18 : decode cX11_append 18 = .ok (.aload_n 0, 1) := by decide +kernel
theorem dX11_append_19 : decode cX11_append 19 = .ok (.getfield 106, 3) := by decide +kernel
theorem dX11_append_22 : decode cX11_append 22 = .ok (.ifCond .le 4, 3) := by decide +kernel
theorem dX11_append_25 : decode cX11_append 25 = .ok (.return_, 1) := by decide +kernel
theorem dX11_append_26 : decode cX11_append 26 = .ok (.aload_n 0, 1) := by decide +kernel
theorem dX11_append_27 : decode cX11_append 27 = .ok (.getfield 74, 3) := by decide +kernel
theorem dX11_append_30 : decode cX11_append 30 = .ok (.aload_n 0, 1) := by decide +kernel
theorem dX11_append_31 : decode cX11_append 31 = .ok (.getfield 296, 3) := by decide +kernel
theorem dX11_append_34 : decode cX11_append 34 = .ok (.iload_n 1, 1) := by decide +kernel
theorem dX11_append_35 : decode cX11_append 35 = .ok (.castore, 1) := by decide +kernel
theorem dX11_append_36 : decode cX11_append 36 = .ok (.aload_n 0, 1) := by decide +kernel
theorem dX11_append_37 : decode cX11_append 37 = .ok (.dup, 1) := by decide +kernel
theorem dX11_append_38 : decode cX11_append 38 = .ok (.getfield 296, 3) := by decide +kernel
theorem dX11_append_41 : decode cX11_append 41 = .ok (.iconst 1, 1) := by decide +kernel
theorem dX11_append_42 : decode cX11_append 42 = .ok (.iadd, 1) := by decide +kernel
theorem dX11_append_43 : decode cX11_append 43 = .ok (.putfield 296, 3) := by decide +kernel
theorem dX11_append_46 : decode cX11_append 46 = .ok (.return_, 1) := by decide +kernel
theorem dX11_isAt_0 : decode cX11_isAt 0 = .ok (.aload_n 0, 1) := by decide +kernel
theorem dX11_isAt_1 : decode cX11_isAt 1 = .ok (.getfield 299, 3) := by decide +kernel
theorem dX11_isAt_4 : decode cX11_isAt 4 = .ok (.aload_n 0, 1) := by decide +kernel
theorem dX11_isAt_5 : decode cX11_isAt 5 = .ok (.getfield 296, 3) := by decide +kernel
theorem dX11_isAt_8 : decode cX11_isAt 8 = .ok (.if_icmp .ge 24, 3) := by decide +kernel
theorem dX11_isAt_11 : decode cX11_isAt 11 = .ok (.aload_n 0, 1) := by decide +kernel
theorem dX11_isAt_12 : decode cX11_isAt 12 = .ok (.getfield 74, 3) := by decide +kernel
theorem dX11_isAt_15 : decode cX11_isAt 15 = .ok (.aload_n 0, 1) := by decide +kernel
theorem dX11_isAt_16 : decode cX11_isAt 16 = .ok (.getfield 299, 3) := by decide +kernel
theorem dX11_isAt_19 : decode cX11_isAt 19 = .ok (.caload, 1) := by decide +kernel
theorem dX11_isAt_20 : decode cX11_isAt 20 = .ok (.iload_n 1, 1) := by decide +kernel
theorem dX11_isAt_21 : decode cX11_isAt 21 = .ok (.iload_n 2, 1) := by decide +kernel
theorem dX11_isAt_22 : decode cX11_isAt 22 = .ok (.invokestatic 134, 3) := by decide +kernel
theorem dX11_isAt_25 : decode cX11_isAt 25 = .ok (.ifCond .eq 7, 3) := by decide +kernel
theorem dX11_isAt_28 : decode cX11_isAt 28 = .ok (.iconst 1, 1) := by decide +kernel
theorem dX11_isAt_29 : decode cX11_isAt 29 = .ok (.goto 4, 3) := by decide +kernel
theorem dX11_isAt_32 : decode cX11_isAt 32 = .ok (.iconst 0, 1) := by decide +kernel
theorem dX11_isAt_33 : decode cX11_isAt 33 = .ok (.ireturn, 1) := by decide +kernel
theorem dX11_skips_0 : decode cX11_skips 0 = .ok (.aload_n 0, 1) := by decide +kernel
theorem dX11_skips_1 : decode cX11_skips 1 = .ok (.iload_n 1, 1) := by decide +kernel
theorem dX11_skips_2 : decode cX11_skips 2 = .ok (.iload_n 1, 1) := by decide +kernel
theorem dX11_skips_3 : decode cX11_skips 3 = .ok (.invokevirtual 302, 3) := by decide +kernel
theorem dX11_skips_6 : decode cX11_skips 6 = .ok (.ifCond .ne 5, 3) := by decide +kernel
theorem dX11_skips_9 : decode cX11_skips 9 = .ok (.iconst 0, 1) := by decide +kernel
theorem dX11_skips_10 : decode cX11_skips 10 = .ok (.ireturn, 1) := by decide +kernel
theorem dX11_skips_11 : decode cX11_skips 11 = .ok (.aload_n 0, 1) := by decide +kernel
theorem dX11_skips_12 : decode cX11_skips 12 = .ok (.dup, 1) := by decide +kernel
theorem dX11_skips_13 : decode cX11_skips 13 = .ok (.getfield 299, 3) := by decide +kernel
theorem dX11_skips_16 : decode cX11_skips 16 = .ok (.iconst 1, 1) := by decide +kernel
theorem dX11_skips_17 : decode cX11_skips 17 = .ok (.iadd, 1) := by decide +kernel
theorem dX11_skips_18 : decode cX11_skips 18 = .ok (.putfield 299, 3) := by decide +kernel
theorem dX11_skips_21 : decode cX11_skips 21 = .ok (.iconst 1, 1) := by decide +kernel
theorem dX11_skips_22 : decode cX11_skips 22 = .ok (.ireturn, 1) := by decide +kernel
theorem dX11_isWord_0 : decode cX11_isWord 0 = .ok (.iload_n 3, 1) := by decide +kernel
theorem dX11_isWord_1 : decode cX11_isWord 1 = .ok (.iload_n 2, 1) := by decide +kernel
theorem dX11_isWord_2 : decode cX11_isWord 2 = .ok (.isub, 1) := by decide +kernel
theorem dX11_isWord_3 : decode cX11_isWord 3 = .ok (.aload_n 1, 1) := by decide +kernel
theorem dX11_isWord_4 : decode cX11_isWord 4 = .ok (.arraylength, 1) := by decide +kernel
theorem dX11_isWord_5 : decode cX11_isWord 5 = .ok (.if_icmp .ne 7, 3) := by decide +kernel
theorem dX11_isWord_8 : decode cX11_isWord 8 = .ok (.iconst 1, 1) := by decide +kernel
theorem dX11_isWord_9 : decode cX11_isWord 9 = .ok (.goto 4, 3) := by decide +kernel
theorem dX11_isWord_12 : decode cX11_isWord 12 = .ok (.iconst 0, 1) := by decide +kernel
theorem dX11_isWord_13 : decode cX11_isWord 13 = .ok (.istore 4, 2) := by decide +kernel
theorem dX11_isWord_15 : decode cX11_isWord 15 = .ok (.iconst 0, 1) := by decide +kernel
theorem dX11_isWord_16 : decode cX11_isWord 16 = .ok (.istore 5, 2) := by decide +kernel
theorem dX11_isWord_18 : decode cX11_isWord 18 = .ok (.iload 5, 2) := by decide +kernel
theorem dX11_isWord_20 : decode cX11_isWord 20 = .ok (.aload_n 1, 1) := by decide +kernel
theorem dX11_isWord_21 : decode cX11_isWord 21 = .ok (.arraylength, 1) := by decide +kernel
theorem dX11_isWord_22 : decode cX11_isWord 22 = .ok (.if_icmp .ge 37, 3) := by decide +kernel
theorem dX11_isWord_25 : decode cX11_isWord 25 = .ok (.iload 4, 2) := by decide +kernel
theorem dX11_isWord_27 : decode cX11_isWord 27 = .ok (.ifCond .eq 32, 3) := by decide +kernel
theorem dX11_isWord_30 : decode cX11_isWord 30 = .ok (.aload_n 0, 1) := by decide +kernel
theorem dX11_isWord_31 : decode cX11_isWord 31 = .ok (.getfield 74, 3) := by decide +kernel
theorem dX11_isWord_34 : decode cX11_isWord 34 = .ok (.iload_n 2, 1) := by decide +kernel
theorem dX11_isWord_35 : decode cX11_isWord 35 = .ok (.iload 5, 2) := by decide +kernel
theorem dX11_isWord_37 : decode cX11_isWord 37 = .ok (.iadd, 1) := by decide +kernel
theorem dX11_isWord_38 : decode cX11_isWord 38 = .ok (.caload, 1) := by decide +kernel
theorem dX11_isWord_39 : decode cX11_isWord 39 = .ok (.aload_n 1, 1) := by decide +kernel
theorem dX11_isWord_40 : decode cX11_isWord 40 = .ok (.iload 5, 2) := by decide +kernel
theorem dX11_isWord_42 : decode cX11_isWord 42 = .ok (.caload, 1) := by decide +kernel
theorem dX11_isWord_43 : decode cX11_isWord 43 = .ok (.if_icmp .ne 7, 3) := by decide +kernel
theorem dX11_isWord_46 : decode cX11_isWord 46 = .ok (.iconst 1, 1) := by decide +kernel
theorem dX11_isWord_47 : decode cX11_isWord 47 = .ok (.goto 4, 3) := by decide +kernel
theorem dX11_isWord_50 : decode cX11_isWord 50 = .ok (.iconst 0, 1) := by decide +kernel
theorem dX11_isWord_51 : decode cX11_isWord 51 = .ok (.istore 4, 2) := by decide +kernel
theorem dX11_isWord_53 : decode cX11_isWord 53 = .ok (.iinc 5 1, 3) := by decide +kernel
theorem dX11_isWord_56 : decode cX11_isWord 56 = .ok (.goto (-38), 3) := by decide +kernel
theorem dX11_isWord_59 : decode cX11_isWord 59 = .ok (.iload 4, 2) := by decide +kernel
theorem dX11_isWord_61 : decode cX11_isWord 61 = .ok (.ireturn, 1) := by decide +kernel
theorem dX11_takesKind_0 : decode cX11_takesKind 0 = .ok (.aload_n 0, 1) := by decide +kernel
theorem dX11_takesKind_1 : decode cX11_takesKind 1 = .ok (.getfield 299, 3) := by decide +kernel
theorem dX11_takesKind_4 : decode cX11_takesKind 4 = .ok (.istore_n 1, 1) := by decide +kernel
theorem dX11_takesKind_5 : decode cX11_takesKind 5 = .ok (.aload_n 0, 1) := by decide +kernel
theorem dX11_takesKind_6 : decode cX11_takesKind 6 = .ok (.bipush 97, 2) := by decide +kernel
theorem dX11_takesKind_8 : decode cX11_takesKind 8 = .ok (.bipush 122, 2) := by decide +kernel
theorem dX11_takesKind_10 : decode cX11_takesKind 10 = .ok (.invokevirtual 302, 3) := by decide +kernel
theorem dX11_takesKind_13 : decode cX11_takesKind 13 = .ok (.ifCond .eq 16, 3) := by decide +kernel
theorem dX11_takesKind_16 : decode cX11_takesKind 16 = .ok (.aload_n 0, 1) := by decide +kernel
theorem dX11_takesKind_17 : decode cX11_takesKind 17 = .ok (.dup, 1) := by decide +kernel
theorem dX11_takesKind_18 : decode cX11_takesKind 18 = .ok (.getfield 299, 3) := by decide +kernel
theorem dX11_takesKind_21 : decode cX11_takesKind 21 = .ok (.iconst 1, 1) := by decide +kernel
theorem dX11_takesKind_22 : decode cX11_takesKind 22 = .ok (.iadd, 1) := by decide +kernel
theorem dX11_takesKind_23 : decode cX11_takesKind 23 = .ok (.putfield 299, 3) := by decide +kernel
theorem dX11_takesKind_26 : decode cX11_takesKind 26 = .ok (.goto (-21), 3) := by decide +kernel
theorem dX11_takesKind_29 : decode cX11_takesKind 29 = .ok (.aload_n 0, 1) := by decide +kernel
theorem dX11_takesKind_30 : decode cX11_takesKind 30 = .ok (.getstatic 306, 3) := by decide +kernel
theorem dX11_takesKind_33 : decode cX11_takesKind 33 = .ok (.iload_n 1, 1) := by decide +kernel
theorem dX11_takesKind_34 : decode cX11_takesKind 34 = .ok (.aload_n 0, 1) := by decide +kernel
theorem dX11_takesKind_35 : decode cX11_takesKind 35 = .ok (.getfield 299, 3) := by decide +kernel
theorem dX11_takesKind_38 : decode cX11_takesKind 38 = .ok (.invokevirtual 309, 3) := by decide +kernel
theorem dX11_takesKind_41 : decode cX11_takesKind 41 = .ok (.ifCond .eq 7, 3) := by decide +kernel
theorem dX11_takesKind_44 : decode cX11_takesKind 44 = .ok (.iconst 0, 1) := by decide +kernel
theorem dX11_takesKind_45 : decode cX11_takesKind 45 = .ok (.goto 61, 3) := by decide +kernel
theorem dX11_takesKind_48 : decode cX11_takesKind 48 = .ok (.aload_n 0, 1) := by decide +kernel
theorem dX11_takesKind_49 : decode cX11_takesKind 49 = .ok (.getstatic 313, 3) := by decide +kernel
theorem dX11_takesKind_52 : decode cX11_takesKind 52 = .ok (.iload_n 1, 1) := by decide +kernel
theorem dX11_takesKind_53 : decode cX11_takesKind 53 = .ok (.aload_n 0, 1) := by decide +kernel
theorem dX11_takesKind_54 : decode cX11_takesKind 54 = .ok (.getfield 299, 3) := by decide +kernel
theorem dX11_takesKind_57 : decode cX11_takesKind 57 = .ok (.invokevirtual 309, 3) := by decide +kernel
theorem dX11_takesKind_60 : decode cX11_takesKind 60 = .ok (.ifCond .eq 7, 3) := by decide +kernel
theorem dX11_takesKind_63 : decode cX11_takesKind 63 = .ok (.iconst 1, 1) := by decide +kernel
theorem dX11_takesKind_64 : decode cX11_takesKind 64 = .ok (.goto 42, 3) := by decide +kernel
theorem dX11_takesKind_67 : decode cX11_takesKind 67 = .ok (.aload_n 0, 1) := by decide +kernel
theorem dX11_takesKind_68 : decode cX11_takesKind 68 = .ok (.getstatic 316, 3) := by decide +kernel
theorem dX11_takesKind_71 : decode cX11_takesKind 71 = .ok (.iload_n 1, 1) := by decide +kernel
theorem dX11_takesKind_72 : decode cX11_takesKind 72 = .ok (.aload_n 0, 1) := by decide +kernel
theorem dX11_takesKind_73 : decode cX11_takesKind 73 = .ok (.getfield 299, 3) := by decide +kernel
theorem dX11_takesKind_76 : decode cX11_takesKind 76 = .ok (.invokevirtual 309, 3) := by decide +kernel
theorem dX11_takesKind_79 : decode cX11_takesKind 79 = .ok (.ifCond .eq 7, 3) := by decide +kernel
theorem dX11_takesKind_82 : decode cX11_takesKind 82 = .ok (.iconst 2, 1) := by decide +kernel
theorem dX11_takesKind_83 : decode cX11_takesKind 83 = .ok (.goto 23, 3) := by decide +kernel
theorem dX11_takesKind_86 : decode cX11_takesKind 86 = .ok (.aload_n 0, 1) := by decide +kernel
theorem dX11_takesKind_87 : decode cX11_takesKind 87 = .ok (.getstatic 319, 3) := by decide +kernel
theorem dX11_takesKind_90 : decode cX11_takesKind 90 = .ok (.iload_n 1, 1) := by decide +kernel
theorem dX11_takesKind_91 : decode cX11_takesKind 91 = .ok (.aload_n 0, 1) := by decide +kernel
theorem dX11_takesKind_92 : decode cX11_takesKind 92 = .ok (.getfield 299, 3) := by decide +kernel
theorem dX11_takesKind_95 : decode cX11_takesKind 95 = .ok (.invokevirtual 309, 3) := by decide +kernel
theorem dX11_takesKind_98 : decode cX11_takesKind 98 = .ok (.ifCond .eq 7, 3) := by decide +kernel
theorem dX11_takesKind_101 : decode cX11_takesKind 101 = .ok (.iconst 3, 1) := by decide +kernel
theorem dX11_takesKind_102 : decode cX11_takesKind 102 = .ok (.goto 4, 3) := by decide +kernel
theorem dX11_takesKind_105 : decode cX11_takesKind 105 = .ok (.iconst (-1), 1) := by decide +kernel
theorem dX11_takesKind_106 : decode cX11_takesKind 106 = .ok (.istore_n 2, 1) := by decide +kernel
theorem dX11_takesKind_107 : decode cX11_takesKind 107 = .ok (.iload_n 2, 1) := by decide +kernel
theorem dX11_takesKind_108 : decode cX11_takesKind 108 = .ok (.ifCond .ge 8, 3) := by decide +kernel
theorem dX11_takesKind_111 : decode cX11_takesKind 111 = .ok (.aload_n 0, 1) := by decide +kernel
theorem dX11_takesKind_112 : decode cX11_takesKind 112 = .ok (.iload_n 1, 1) := by decide +kernel
theorem dX11_takesKind_113 : decode cX11_takesKind 113 = .ok (.putfield 299, 3) := by decide +kernel
theorem dX11_takesKind_116 : decode cX11_takesKind 116 = .ok (.iload_n 2, 1) := by decide +kernel
theorem dX11_takesKind_117 : decode cX11_takesKind 117 = .ok (.ireturn, 1) := by decide +kernel
theorem dX11_takesSign_0 : decode cX11_takesSign 0 = .ok (.aload_n 0, 1) := by decide +kernel
theorem dX11_takesSign_1 : decode cX11_takesSign 1 = .ok (.iload_n 2, 1) := by decide +kernel
theorem dX11_takesSign_2 : decode cX11_takesSign 2 = .ok (.iload_n 3, 1) := by decide +kernel
theorem dX11_takesSign_3 : decode cX11_takesSign 3 = .ok (.invokevirtual 302, 3) := by decide +kernel
theorem dX11_takesSign_6 : decode cX11_takesSign 6 = .ok (.ifCond .ne 5, 3) := by decide +kernel
theorem dX11_takesSign_9 : decode cX11_takesSign 9 = .ok (.iconst 0, 1) := by decide +kernel
theorem dX11_takesSign_10 : decode cX11_takesSign 10 = .ok (.ireturn, 1) := by decide +kernel
theorem dX11_takesSign_11 : decode cX11_takesSign 11 = .ok (.aload_n 0, 1) := by decide +kernel
theorem dX11_takesSign_12 : decode cX11_takesSign 12 = .ok (.getfield 322, 3) := by decide +kernel
theorem dX11_takesSign_15 : decode cX11_takesSign 15 = .ok (.bipush 10, 2) := by decide +kernel
theorem dX11_takesSign_17 : decode cX11_takesSign 17 = .ok (.if_icmp .ge 27, 3) := by decide +kernel
theorem dX11_takesSign_20 : decode cX11_takesSign 20 = .ok (.aload_n 0, 1) := by decide +kernel
theorem dX11_takesSign_21 : decode cX11_takesSign 21 = .ok (.getfield 81, 3) := by decide +kernel
theorem dX11_takesSign_24 : decode cX11_takesSign 24 = .ok (.iconst 4, 1) := by decide +kernel
theorem dX11_takesSign_25 : decode cX11_takesSign 25 = .ok (.aload_n 0, 1) := by decide +kernel
theorem dX11_takesSign_26 : decode cX11_takesSign 26 = .ok (.getfield 322, 3) := by decide +kernel
theorem dX11_takesSign_29 : decode cX11_takesSign 29 = .ok (.imul, 1) := by decide +kernel
theorem dX11_takesSign_30 : decode cX11_takesSign 30 = .ok (.iload_n 1, 1) := by decide +kernel
theorem dX11_takesSign_31 : decode cX11_takesSign 31 = .ok (.iadd, 1) := by decide +kernel
theorem dX11_takesSign_32 : decode cX11_takesSign 32 = .ok (.aload_n 0, 1) := by decide +kernel
theorem dX11_takesSign_33 : decode cX11_takesSign 33 = .ok (.getfield 74, 3) := by decide +kernel
theorem dX11_takesSign_36 : decode cX11_takesSign 36 = .ok (.aload_n 0, 1) := by decide +kernel
theorem dX11_takesSign_37 : decode cX11_takesSign 37 = .ok (.getfield 299, 3) := by decide +kernel
theorem dX11_takesSign_40 : decode cX11_takesSign 40 = .ok (.caload, 1) := by decide +kernel
theorem dX11_takesSign_41 : decode cX11_takesSign 41 = .ok (.iload_n 2, 1) := by decide +kernel
theorem dX11_takesSign_42 : decode cX11_takesSign 42 = .ok (.isub, 1) := by decide +kernel
theorem dX11_takesSign_43 : decode cX11_takesSign 43 = .ok (.iastore, 1) := by decide +kernel
theorem dX11_takesSign_44 : decode cX11_takesSign 44 = .ok (.aload_n 0, 1) := by decide +kernel
theorem dX11_takesSign_45 : decode cX11_takesSign 45 = .ok (.dup, 1) := by decide +kernel
theorem dX11_takesSign_46 : decode cX11_takesSign 46 = .ok (.getfield 299, 3) := by decide +kernel
theorem dX11_takesSign_49 : decode cX11_takesSign 49 = .ok (.iconst 1, 1) := by decide +kernel
theorem dX11_takesSign_50 : decode cX11_takesSign 50 = .ok (.iadd, 1) := by decide +kernel
theorem dX11_takesSign_51 : decode cX11_takesSign 51 = .ok (.putfield 299, 3) := by decide +kernel
theorem dX11_takesSign_54 : decode cX11_takesSign 54 = .ok (.iconst 1, 1) := by decide +kernel
theorem dX11_takesSign_55 : decode cX11_takesSign 55 = .ok (.ireturn, 1) := by decide +kernel
theorem dX11_takesWord_0 : decode cX11_takesWord 0 = .ok (.lconst 0, 1) := by decide +kernel
theorem dX11_takesWord_1 : decode cX11_takesWord 1 = .ok (.lstore_n 1, 1) := by decide +kernel
theorem dX11_takesWord_2 : decode cX11_takesWord 2 = .ok (.iconst 0, 1) := by decide +kernel
theorem dX11_takesWord_3 : decode cX11_takesWord 3 = .ok (.istore_n 3, 1) := by decide +kernel
theorem dX11_takesWord_4 : decode cX11_takesWord 4 = .ok (.iload_n 3, 1) := by decide +kernel
theorem dX11_takesWord_5 : decode cX11_takesWord 5 = .ok (.bipush 10, 2) := by decide +kernel
theorem dX11_takesWord_7 : decode cX11_takesWord 7 = .ok (.if_icmp .ge 53, 3) := by decide +kernel
theorem dX11_takesWord_10 : decode cX11_takesWord 10 = .ok (.aload_n 0, 1) := by decide +kernel
theorem dX11_takesWord_11 : decode cX11_takesWord 11 = .ok (.bipush 97, 2) := by decide +kernel
theorem dX11_takesWord_13 : decode cX11_takesWord 13 = .ok (.bipush 99, 2) := by decide +kernel
theorem dX11_takesWord_15 : decode cX11_takesWord 15 = .ok (.invokevirtual 302, 3) := by decide +kernel
theorem dX11_takesWord_18 : decode cX11_takesWord 18 = .ok (.ifCond .eq 42, 3) := by decide +kernel
theorem dX11_takesWord_21 : decode cX11_takesWord 21 = .ok (.ldc2_w 109, 3) := by decide +kernel
theorem dX11_takesWord_24 : decode cX11_takesWord 24 = .ok (.lload_n 1, 1) := by decide +kernel
theorem dX11_takesWord_25 : decode cX11_takesWord 25 = .ok (.lmul, 1) := by decide +kernel
theorem dX11_takesWord_26 : decode cX11_takesWord 26 = .ok (.aload_n 0, 1) := by decide +kernel
theorem dX11_takesWord_27 : decode cX11_takesWord 27 = .ok (.getfield 74, 3) := by decide +kernel
theorem dX11_takesWord_30 : decode cX11_takesWord 30 = .ok (.aload_n 0, 1) := by decide +kernel
theorem dX11_takesWord_31 : decode cX11_takesWord 31 = .ok (.getfield 299, 3) := by decide +kernel
theorem dX11_takesWord_34 : decode cX11_takesWord 34 = .ok (.caload, 1) := by decide +kernel
theorem dX11_takesWord_35 : decode cX11_takesWord 35 = .ok (.i2l, 1) := by decide +kernel
theorem dX11_takesWord_36 : decode cX11_takesWord 36 = .ok (.ladd, 1) := by decide +kernel
theorem dX11_takesWord_37 : decode cX11_takesWord 37 = .ok (.ldc2_w 325, 3) := by decide +kernel
theorem dX11_takesWord_40 : decode cX11_takesWord 40 = .ok (.lsub, 1) := by decide +kernel
theorem dX11_takesWord_41 : decode cX11_takesWord 41 = .ok (.lconst 1, 1) := by decide +kernel
theorem dX11_takesWord_42 : decode cX11_takesWord 42 = .ok (.ladd, 1) := by decide +kernel
theorem dX11_takesWord_43 : decode cX11_takesWord 43 = .ok (.lstore_n 1, 1) := by decide +kernel
theorem dX11_takesWord_44 : decode cX11_takesWord 44 = .ok (.aload_n 0, 1) := by decide +kernel
theorem dX11_takesWord_45 : decode cX11_takesWord 45 = .ok (.dup, 1) := by decide +kernel
theorem dX11_takesWord_46 : decode cX11_takesWord 46 = .ok (.getfield 299, 3) := by decide +kernel
theorem dX11_takesWord_49 : decode cX11_takesWord 49 = .ok (.iconst 1, 1) := by decide +kernel
theorem dX11_takesWord_50 : decode cX11_takesWord 50 = .ok (.iadd, 1) := by decide +kernel
theorem dX11_takesWord_51 : decode cX11_takesWord 51 = .ok (.putfield 299, 3) := by decide +kernel
theorem dX11_takesWord_54 : decode cX11_takesWord 54 = .ok (.iinc 3 1, 3) := by decide +kernel
theorem dX11_takesWord_57 : decode cX11_takesWord 57 = .ok (.goto (-53), 3) := by decide +kernel
theorem dX11_takesWord_60 : decode cX11_takesWord 60 = .ok (.lload_n 1, 1) := by decide +kernel
theorem dX11_takesWord_61 : decode cX11_takesWord 61 = .ok (.lreturn, 1) := by decide +kernel
theorem dX11_takesCommand_0 : decode cX11_takesCommand 0 = .ok (.aload_n 0, 1) := by decide +kernel
theorem dX11_takesCommand_1 : decode cX11_takesCommand 1 = .ok (.invokevirtual 327, 3) := by decide +kernel
theorem dX11_takesCommand_4 : decode cX11_takesCommand 4 = .ok (.istore_n 1, 1) := by decide +kernel
theorem dX11_takesCommand_5 : decode cX11_takesCommand 5 = .ok (.iload_n 1, 1) := by decide +kernel
theorem dX11_takesCommand_6 : decode cX11_takesCommand 6 = .ok (.ifCond .lt 33, 3) := by decide +kernel
theorem dX11_takesCommand_9 : decode cX11_takesCommand 9 = .ok (.aload_n 0, 1) := by decide +kernel
theorem dX11_takesCommand_10 : decode cX11_takesCommand 10 = .ok (.bipush 40, 2) := by decide +kernel
theorem dX11_takesCommand_12 : decode cX11_takesCommand 12 = .ok (.invokevirtual 330, 3) := by decide +kernel
theorem dX11_takesCommand_15 : decode cX11_takesCommand 15 = .ok (.ifCond .eq 24, 3) := by decide +kernel
theorem dX11_takesCommand_18 : decode cX11_takesCommand 18 = .ok (.aload_n 0, 1) := by decide +kernel
theorem dX11_takesCommand_19 : decode cX11_takesCommand 19 = .ok (.iconst 0, 1) := by decide +kernel
theorem dX11_takesCommand_20 : decode cX11_takesCommand 20 = .ok (.bipush 48, 2) := by decide +kernel
theorem dX11_takesCommand_22 : decode cX11_takesCommand 22 = .ok (.bipush 53, 2) := by decide +kernel
theorem dX11_takesCommand_24 : decode cX11_takesCommand 24 = .ok (.invokevirtual 333, 3) := by decide +kernel
theorem dX11_takesCommand_27 : decode cX11_takesCommand 27 = .ok (.ifCond .eq 12, 3) := by decide +kernel
theorem dX11_takesCommand_30 : decode cX11_takesCommand 30 = .ok (.aload_n 0, 1) := by decide +kernel
theorem dX11_takesCommand_31 : decode cX11_takesCommand 31 = .ok (.bipush 44, 2) := by decide +kernel
theorem dX11_takesCommand_33 : decode cX11_takesCommand 33 = .ok (.invokevirtual 330, 3) := by decide +kernel
theorem dX11_takesCommand_36 : decode cX11_takesCommand 36 = .ok (.ifCond .ne 5, 3) := by decide +kernel
theorem dX11_takesCommand_39 : decode cX11_takesCommand 39 = .ok (.iconst 0, 1) := by decide +kernel
theorem dX11_takesCommand_40 : decode cX11_takesCommand 40 = .ok (.ireturn, 1) := by decide +kernel
theorem dX11_takesCommand_41 : decode cX11_takesCommand 41 = .ok (.aload_n 0, 1) := by decide +kernel
theorem dX11_takesCommand_42 : decode cX11_takesCommand 42 = .ok (.getfield 322, 3) := by decide +kernel
theorem dX11_takesCommand_45 : decode cX11_takesCommand 45 = .ok (.bipush 10, 2) := by decide +kernel
theorem dX11_takesCommand_47 : decode cX11_takesCommand 47 = .ok (.if_icmp .ge 13, 3) := by decide +kernel
theorem dX11_takesCommand_50 : decode cX11_takesCommand 50 = .ok (.aload_n 0, 1) := by decide +kernel
theorem dX11_takesCommand_51 : decode cX11_takesCommand 51 = .ok (.getfield 78, 3) := by decide +kernel
theorem dX11_takesCommand_54 : decode cX11_takesCommand 54 = .ok (.aload_n 0, 1) := by decide +kernel
theorem dX11_takesCommand_55 : decode cX11_takesCommand 55 = .ok (.getfield 322, 3) := by decide +kernel
theorem dX11_takesCommand_58 : decode cX11_takesCommand 58 = .ok (.iload_n 1, 1) := by decide +kernel
theorem dX11_takesCommand_59 : decode cX11_takesCommand 59 = .ok (.iastore, 1) := by decide +kernel
theorem dX11_takesCommand_60 : decode cX11_takesCommand 60 = .ok (.iload_n 1, 1) := by decide +kernel
theorem dX11_takesCommand_61 : decode cX11_takesCommand 61 = .ok (.iconst 3, 1) := by decide +kernel
theorem dX11_takesCommand_62 : decode cX11_takesCommand 62 = .ok (.if_icmp .ne 58, 3) := by decide +kernel
theorem dX11_takesCommand_65 : decode cX11_takesCommand 65 = .ok (.aload_n 0, 1) := by decide +kernel
theorem dX11_takesCommand_66 : decode cX11_takesCommand 66 = .ok (.invokevirtual 336, 3) := by decide +kernel
theorem dX11_takesCommand_69 : decode cX11_takesCommand 69 = .ok (.lstore_n 2, 1) := by decide +kernel
theorem dX11_takesCommand_70 : decode cX11_takesCommand 70 = .ok (.aload_n 0, 1) := by decide +kernel
theorem dX11_takesCommand_71 : decode cX11_takesCommand 71 = .ok (.bipush 44, 2) := by decide +kernel
theorem dX11_takesCommand_73 : decode cX11_takesCommand 73 = .ok (.invokevirtual 330, 3) := by decide +kernel
theorem dX11_takesCommand_76 : decode cX11_takesCommand 76 = .ok (.ifCond .ne 5, 3) := by decide +kernel
theorem dX11_takesCommand_79 : decode cX11_takesCommand 79 = .ok (.iconst 0, 1) := by decide +kernel
theorem dX11_takesCommand_80 : decode cX11_takesCommand 80 = .ok (.ireturn, 1) := by decide +kernel
theorem dX11_takesCommand_81 : decode cX11_takesCommand 81 = .ok (.aload_n 0, 1) := by decide +kernel
theorem dX11_takesCommand_82 : decode cX11_takesCommand 82 = .ok (.invokevirtual 336, 3) := by decide +kernel
theorem dX11_takesCommand_85 : decode cX11_takesCommand 85 = .ok (.lstore 4, 2) := by decide +kernel
theorem dX11_takesCommand_87 : decode cX11_takesCommand 87 = .ok (.aload_n 0, 1) := by decide +kernel
theorem dX11_takesCommand_88 : decode cX11_takesCommand 88 = .ok (.getfield 322, 3) := by decide +kernel
theorem dX11_takesCommand_91 : decode cX11_takesCommand 91 = .ok (.bipush 10, 2) := by decide +kernel
theorem dX11_takesCommand_93 : decode cX11_takesCommand 93 = .ok (.if_icmp .ge 24, 3) := by decide +kernel
theorem dX11_takesCommand_96 : decode cX11_takesCommand 96 = .ok (.aload_n 0, 1) := by decide +kernel
theorem dX11_takesCommand_97 : decode cX11_takesCommand 97 = .ok (.getfield 84, 3) := by decide +kernel
theorem dX11_takesCommand_100 : decode cX11_takesCommand 100 = .ok (.aload_n 0, 1) := by decide +kernel
theorem dX11_takesCommand_101 : decode cX11_takesCommand 101 = .ok (.getfield 322, 3) := by decide +kernel
theorem dX11_takesCommand_104 : decode cX11_takesCommand 104 = .ok (.lload_n 2, 1) := by decide +kernel
theorem dX11_takesCommand_105 : decode cX11_takesCommand 105 = .ok (.lastore, 1) := by decide +kernel
theorem dX11_takesCommand_106 : decode cX11_takesCommand 106 = .ok (.aload_n 0, 1) := by decide +kernel
theorem dX11_takesCommand_107 : decode cX11_takesCommand 107 = .ok (.getfield 87, 3) := by decide +kernel
theorem dX11_takesCommand_110 : decode cX11_takesCommand 110 = .ok (.aload_n 0, 1) := by decide +kernel
theorem dX11_takesCommand_111 : decode cX11_takesCommand 111 = .ok (.getfield 322, 3) := by decide +kernel
theorem dX11_takesCommand_114 : decode cX11_takesCommand 114 = .ok (.lload 4, 2) := by decide +kernel
theorem dX11_takesCommand_116 : decode cX11_takesCommand 116 = .ok (.lastore, 1) := by decide +kernel
theorem dX11_takesCommand_117 : decode cX11_takesCommand 117 = .ok (.goto 66, 3) := by decide +kernel
theorem dX11_takesCommand_120 : decode cX11_takesCommand 120 = .ok (.aload_n 0, 1) := by decide +kernel
theorem dX11_takesCommand_121 : decode cX11_takesCommand 121 = .ok (.iconst 1, 1) := by decide +kernel
theorem dX11_takesCommand_122 : decode cX11_takesCommand 122 = .ok (.bipush 48, 2) := by decide +kernel
theorem dX11_takesCommand_124 : decode cX11_takesCommand 124 = .ok (.bipush 53, 2) := by decide +kernel
theorem dX11_takesCommand_126 : decode cX11_takesCommand 126 = .ok (.invokevirtual 333, 3) := by decide +kernel
theorem dX11_takesCommand_129 : decode cX11_takesCommand 129 = .ok (.ifCond .ne 5, 3) := by decide +kernel
theorem dX11_takesCommand_132 : decode cX11_takesCommand 132 = .ok (.iconst 0, 1) := by decide +kernel
theorem dX11_takesCommand_133 : decode cX11_takesCommand 133 = .ok (.ireturn, 1) := by decide +kernel
theorem dX11_takesCommand_134 : decode cX11_takesCommand 134 = .ok (.iload_n 1, 1) := by decide +kernel
theorem dX11_takesCommand_135 : decode cX11_takesCommand 135 = .ok (.iconst 2, 1) := by decide +kernel
theorem dX11_takesCommand_136 : decode cX11_takesCommand 136 = .ok (.if_icmp .ge 47, 3) := by decide +kernel
theorem dX11_takesCommand_139 : decode cX11_takesCommand 139 = .ok (.aload_n 0, 1) := by decide +kernel
theorem dX11_takesCommand_140 : decode cX11_takesCommand 140 = .ok (.bipush 44, 2) := by decide +kernel
theorem dX11_takesCommand_142 : decode cX11_takesCommand 142 = .ok (.invokevirtual 330, 3) := by decide +kernel
theorem dX11_takesCommand_145 : decode cX11_takesCommand 145 = .ok (.ifCond .eq 36, 3) := by decide +kernel
theorem dX11_takesCommand_148 : decode cX11_takesCommand 148 = .ok (.aload_n 0, 1) := by decide +kernel
theorem dX11_takesCommand_149 : decode cX11_takesCommand 149 = .ok (.iconst 2, 1) := by decide +kernel
theorem dX11_takesCommand_150 : decode cX11_takesCommand 150 = .ok (.bipush 48, 2) := by decide +kernel
theorem dX11_takesCommand_152 : decode cX11_takesCommand 152 = .ok (.bipush 49, 2) := by decide +kernel
theorem dX11_takesCommand_154 : decode cX11_takesCommand 154 = .ok (.invokevirtual 333, 3) := by decide +kernel
theorem dX11_takesCommand_157 : decode cX11_takesCommand 157 = .ok (.ifCond .eq 24, 3) := by decide +kernel
theorem dX11_takesCommand_160 : decode cX11_takesCommand 160 = .ok (.aload_n 0, 1) := by decide +kernel
theorem dX11_takesCommand_161 : decode cX11_takesCommand 161 = .ok (.bipush 44, 2) := by decide +kernel
theorem dX11_takesCommand_163 : decode cX11_takesCommand 163 = .ok (.invokevirtual 330, 3) := by decide +kernel
theorem dX11_takesCommand_166 : decode cX11_takesCommand 166 = .ok (.ifCond .eq 15, 3) := by decide +kernel
theorem dX11_takesCommand_169 : decode cX11_takesCommand 169 = .ok (.aload_n 0, 1) := by decide +kernel
theorem dX11_takesCommand_170 : decode cX11_takesCommand 170 = .ok (.iconst 3, 1) := by decide +kernel
theorem dX11_takesCommand_171 : decode cX11_takesCommand 171 = .ok (.bipush 97, 2) := by decide +kernel
theorem dX11_takesCommand_173 : decode cX11_takesCommand 173 = .ok (.bipush 99, 2) := by decide +kernel
theorem dX11_takesCommand_175 : decode cX11_takesCommand 175 = .ok (.invokevirtual 333, 3) := by decide +kernel
theorem dX11_takesCommand_178 : decode cX11_takesCommand 178 = .ok (.ifCond .ne 5, 3) := by decide +kernel
theorem dX11_takesCommand_181 : decode cX11_takesCommand 181 = .ok (.iconst 0, 1) := by decide +kernel
theorem dX11_takesCommand_182 : decode cX11_takesCommand 182 = .ok (.ireturn, 1) := by decide +kernel
theorem dX11_takesCommand_183 : decode cX11_takesCommand 183 = .ok (.aload_n 0, 1) := by decide +kernel
theorem dX11_takesCommand_184 : decode cX11_takesCommand 184 = .ok (.bipush 41, 2) := by decide +kernel
theorem dX11_takesCommand_186 : decode cX11_takesCommand 186 = .ok (.invokevirtual 330, 3) := by decide +kernel
theorem dX11_takesCommand_189 : decode cX11_takesCommand 189 = .ok (.ifCond .eq 16, 3) := by decide +kernel
theorem dX11_takesCommand_192 : decode cX11_takesCommand 192 = .ok (.aload_n 0, 1) := by decide +kernel
theorem dX11_takesCommand_193 : decode cX11_takesCommand 193 = .ok (.bipush 59, 2) := by decide +kernel
theorem dX11_takesCommand_195 : decode cX11_takesCommand 195 = .ok (.invokevirtual 330, 3) := by decide +kernel
theorem dX11_takesCommand_198 : decode cX11_takesCommand 198 = .ok (.ifCond .eq 7, 3) := by decide +kernel
theorem dX11_takesCommand_201 : decode cX11_takesCommand 201 = .ok (.iconst 1, 1) := by decide +kernel
theorem dX11_takesCommand_202 : decode cX11_takesCommand 202 = .ok (.goto 4, 3) := by decide +kernel
theorem dX11_takesCommand_205 : decode cX11_takesCommand 205 = .ok (.iconst 0, 1) := by decide +kernel
theorem dX11_takesCommand_206 : decode cX11_takesCommand 206 = .ok (.ireturn, 1) := by decide +kernel
theorem dX11_takesText_0 : decode cX11_takesText 0 = .ok (.aload_n 0, 1) := by decide +kernel
theorem dX11_takesText_1 : decode cX11_takesText 1 = .ok (.iconst 0, 1) := by decide +kernel
theorem dX11_takesText_2 : decode cX11_takesText 2 = .ok (.putfield 299, 3) := by decide +kernel
theorem dX11_takesText_5 : decode cX11_takesText 5 = .ok (.aload_n 0, 1) := by decide +kernel
theorem dX11_takesText_6 : decode cX11_takesText 6 = .ok (.iconst 0, 1) := by decide +kernel
theorem dX11_takesText_7 : decode cX11_takesText 7 = .ok (.putfield 322, 3) := by decide +kernel
theorem dX11_takesText_10 : decode cX11_takesText 10 = .ok (.aload_n 0, 1) := by decide +kernel
theorem dX11_takesText_11 : decode cX11_takesText 11 = .ok (.getfield 322, 3) := by decide +kernel
theorem dX11_takesText_14 : decode cX11_takesText 14 = .ok (.ifCond .eq 14, 3) := by decide +kernel
theorem dX11_takesText_17 : decode cX11_takesText 17 = .ok (.aload_n 0, 1) := by decide +kernel
theorem dX11_takesText_18 : decode cX11_takesText 18 = .ok (.getfield 299, 3) := by decide +kernel
theorem dX11_takesText_21 : decode cX11_takesText 21 = .ok (.aload_n 0, 1) := by decide +kernel
theorem dX11_takesText_22 : decode cX11_takesText 22 = .ok (.getfield 296, 3) := by decide +kernel
theorem dX11_takesText_25 : decode cX11_takesText 25 = .ok (.if_icmp .ge 25, 3) := by decide +kernel
theorem dX11_takesText_28 : decode cX11_takesText 28 = .ok (.aload_n 0, 1) := by decide +kernel
theorem dX11_takesText_29 : decode cX11_takesText 29 = .ok (.invokevirtual 340, 3) := by decide +kernel
theorem dX11_takesText_32 : decode cX11_takesText 32 = .ok (.ifCond .ne 5, 3) := by decide +kernel
theorem dX11_takesText_35 : decode cX11_takesText 35 = .ok (.iconst 0, 1) := by decide +kernel
theorem dX11_takesText_36 : decode cX11_takesText 36 = .ok (.ireturn, 1) := by decide +kernel
theorem dX11_takesText_37 : decode cX11_takesText 37 = .ok (.aload_n 0, 1) := by decide +kernel
theorem dX11_takesText_38 : decode cX11_takesText 38 = .ok (.dup, 1) := by decide +kernel
theorem dX11_takesText_39 : decode cX11_takesText 39 = .ok (.getfield 322, 3) := by decide +kernel
theorem dX11_takesText_42 : decode cX11_takesText 42 = .ok (.iconst 1, 1) := by decide +kernel
theorem dX11_takesText_43 : decode cX11_takesText 43 = .ok (.iadd, 1) := by decide +kernel
theorem dX11_takesText_44 : decode cX11_takesText 44 = .ok (.putfield 322, 3) := by decide +kernel
theorem dX11_takesText_47 : decode cX11_takesText 47 = .ok (.goto (-37), 3) := by decide +kernel
theorem dX11_takesText_50 : decode cX11_takesText 50 = .ok (.iconst 1, 1) := by decide +kernel
theorem dX11_takesText_51 : decode cX11_takesText 51 = .ok (.ireturn, 1) := by decide +kernel
theorem dX11_read_0 : decode cX11_read 0 = .ok (.aload_n 0, 1) := by decide +kernel
theorem dX11_read_1 : decode cX11_read 1 = .ok (.invokevirtual 343, 3) := by decide +kernel
theorem dX11_read_4 : decode cX11_read 4 = .ok (.istore_n 1, 1) := by decide +kernel
theorem dX11_read_5 : decode cX11_read 5 = .ok (.aload_n 0, 1) := by decide +kernel
theorem dX11_read_6 : decode cX11_read 6 = .ok (.iconst 0, 1) := by decide +kernel
theorem dX11_read_7 : decode cX11_read 7 = .ok (.putfield 296, 3) := by decide +kernel
theorem dX11_read_10 : decode cX11_read 10 = .ok (.aload_n 0, 1) := by decide +kernel
theorem dX11_read_11 : decode cX11_read 11 = .ok (.iload_n 1, 1) := by decide +kernel
theorem dX11_read_12 : decode cX11_read 12 = .ok (.ifCond .eq 7, 3) := by decide +kernel
theorem dX11_read_15 : decode cX11_read 15 = .ok (.iconst (-1), 1) := by decide +kernel
theorem dX11_read_16 : decode cX11_read 16 = .ok (.goto 7, 3) := by decide +kernel
theorem dX11_read_19 : decode cX11_read 19 = .ok (.aload_n 0, 1) := by decide +kernel
theorem dX11_read_20 : decode cX11_read 20 = .ok (.getfield 299, 3) := by decide +kernel
theorem dX11_read_23 : decode cX11_read 23 = .ok (.putfield 90, 3) := by decide +kernel
theorem dX11_read_26 : decode cX11_read 26 = .ok (.iload_n 1, 1) := by decide +kernel
theorem dX11_read_27 : decode cX11_read 27 = .ok (.ifCond .ne 9, 3) := by decide +kernel
theorem dX11_read_30 : decode cX11_read 30 = .ok (.aload_n 0, 1) := by decide +kernel
theorem dX11_read_31 : decode cX11_read 31 = .ok (.iconst 1, 1) := by decide +kernel
theorem dX11_read_32 : decode cX11_read 32 = .ok (.invokevirtual 144, 3) := by decide +kernel
theorem dX11_read_35 : decode cX11_read 35 = .ok (.ireturn, 1) := by decide +kernel
theorem dX11_read_36 : decode cX11_read 36 = .ok (.iconst 0, 1) := by decide +kernel
theorem dX11_read_37 : decode cX11_read 37 = .ok (.istore_n 2, 1) := by decide +kernel
theorem dX11_read_38 : decode cX11_read 38 = .ok (.iconst 0, 1) := by decide +kernel
theorem dX11_read_39 : decode cX11_read 39 = .ok (.istore_n 3, 1) := by decide +kernel
theorem dX11_read_40 : decode cX11_read 40 = .ok (.iload_n 3, 1) := by decide +kernel
theorem dX11_read_41 : decode cX11_read 41 = .ok (.aload_n 0, 1) := by decide +kernel
theorem dX11_read_42 : decode cX11_read 42 = .ok (.getfield 322, 3) := by decide +kernel
theorem dX11_read_45 : decode cX11_read 45 = .ok (.if_icmp .ge 27, 3) := by decide +kernel
theorem dX11_read_48 : decode cX11_read 48 = .ok (.iload_n 2, 1) := by decide +kernel
theorem dX11_read_49 : decode cX11_read 49 = .ok (.aload_n 0, 1) := by decide +kernel
theorem dX11_read_50 : decode cX11_read 50 = .ok (.getfield 78, 3) := by decide +kernel
theorem dX11_read_53 : decode cX11_read 53 = .ok (.iload_n 3, 1) := by decide +kernel
theorem dX11_read_54 : decode cX11_read 54 = .ok (.iaload, 1) := by decide +kernel
theorem dX11_read_55 : decode cX11_read 55 = .ok (.iconst 3, 1) := by decide +kernel
theorem dX11_read_56 : decode cX11_read 56 = .ok (.if_icmp .ne 7, 3) := by decide +kernel
theorem dX11_read_59 : decode cX11_read 59 = .ok (.iconst 1, 1) := by decide +kernel
theorem dX11_read_60 : decode cX11_read 60 = .ok (.goto 4, 3) := by decide +kernel
theorem dX11_read_63 : decode cX11_read 63 = .ok (.iconst 0, 1) := by decide +kernel
theorem dX11_read_64 : decode cX11_read 64 = .ok (.iadd, 1) := by decide +kernel
theorem dX11_read_65 : decode cX11_read 65 = .ok (.istore_n 2, 1) := by decide +kernel
theorem dX11_read_66 : decode cX11_read 66 = .ok (.iinc 3 1, 3) := by decide +kernel
theorem dX11_read_69 : decode cX11_read 69 = .ok (.goto (-29), 3) := by decide +kernel
theorem dX11_read_72 : decode cX11_read 72 = .ok (.aload_n 0, 1) := by decide +kernel
theorem dX11_read_73 : decode cX11_read 73 = .ok (.getfield 225, 3) := by decide +kernel
theorem dX11_read_76 : decode cX11_read 76 = .ok (.iload_n 2, 1) := by decide +kernel
theorem dX11_read_77 : decode cX11_read 77 = .ok (.iadd, 1) := by decide +kernel
theorem dX11_read_78 : decode cX11_read 78 = .ok (.iconst 3, 1) := by decide +kernel
theorem dX11_read_79 : decode cX11_read 79 = .ok (.if_icmp .gt 19, 3) := by decide +kernel
theorem dX11_read_82 : decode cX11_read 82 = .ok (.aload_n 0, 1) := by decide +kernel
theorem dX11_read_83 : decode cX11_read 83 = .ok (.getfield 123, 3) := by decide +kernel
theorem dX11_read_86 : decode cX11_read 86 = .ok (.aload_n 0, 1) := by decide +kernel
theorem dX11_read_87 : decode cX11_read 87 = .ok (.getfield 322, 3) := by decide +kernel
theorem dX11_read_90 : decode cX11_read 90 = .ok (.iadd, 1) := by decide +kernel
theorem dX11_read_91 : decode cX11_read 91 = .ok (.iload_n 2, 1) := by decide +kernel
theorem dX11_read_92 : decode cX11_read 92 = .ok (.isub, 1) := by decide +kernel
theorem dX11_read_93 : decode cX11_read 93 = .ok (.bipush 10, 2) := by decide +kernel
theorem dX11_read_95 : decode cX11_read 95 = .ok (.if_icmp .le 9, 3) := by decide +kernel
theorem dX11_read_98 : decode cX11_read 98 = .ok (.aload_n 0, 1) := by decide +kernel
theorem dX11_read_99 : decode cX11_read 99 = .ok (.iconst 2, 1) := by decide +kernel
theorem dX11_read_100 : decode cX11_read 100 = .ok (.invokevirtual 144, 3) := by decide +kernel
theorem dX11_read_103 : decode cX11_read 103 = .ok (.ireturn, 1) := by decide +kernel
theorem dX11_read_104 : decode cX11_read 104 = .ok (.aload_n 0, 1) := by decide +kernel
theorem dX11_read_105 : decode cX11_read 105 = .ok (.iconst 0, 1) := by decide +kernel
theorem dX11_read_106 : decode cX11_read 106 = .ok (.putfield 106, 3) := by decide +kernel
theorem dX11_read_109 : decode cX11_read 109 = .ok (.iconst 0, 1) := by decide +kernel
theorem dX11_read_110 : decode cX11_read 110 = .ok (.istore_n 3, 1) := by decide +kernel
theorem dX11_read_111 : decode cX11_read 111 = .ok (.iload_n 3, 1) := by decide +kernel
theorem dX11_read_112 : decode cX11_read 112 = .ok (.aload_n 0, 1) := by decide +kernel
theorem dX11_read_113 : decode cX11_read 113 = .ok (.getfield 322, 3) := by decide +kernel
theorem dX11_read_116 : decode cX11_read 116 = .ok (.if_icmp .ge 116, 3) := by decide +kernel
theorem dX11_read_119 : decode cX11_read 119 = .ok (.iconst 4, 1) := by decide +kernel
theorem dX11_read_120 : decode cX11_read 120 = .ok (.iload_n 3, 1) := by decide +kernel
theorem dX11_read_121 : decode cX11_read 121 = .ok (.imul, 1) := by decide +kernel
theorem dX11_read_122 : decode cX11_read 122 = .ok (.istore 4, 2) := by decide +kernel
theorem dX11_read_124 : decode cX11_read 124 = .ok (.aload_n 0, 1) := by decide +kernel
theorem dX11_read_125 : decode cX11_read 125 = .ok (.getfield 78, 3) := by decide +kernel
theorem dX11_read_128 : decode cX11_read 128 = .ok (.iload_n 3, 1) := by decide +kernel
theorem dX11_read_129 : decode cX11_read 129 = .ok (.iaload, 1) := by decide +kernel
theorem dX11_read_130 : decode cX11_read 130 = .ok (.iconst 3, 1) := by decide +kernel
theorem dX11_read_131 : decode cX11_read 131 = .ok (.if_icmp .ne 29, 3) := by decide +kernel
theorem dX11_read_134 : decode cX11_read 134 = .ok (.aload_n 0, 1) := by decide +kernel
theorem dX11_read_135 : decode cX11_read 135 = .ok (.aload_n 0, 1) := by decide +kernel
theorem dX11_read_136 : decode cX11_read 136 = .ok (.getfield 81, 3) := by decide +kernel
theorem dX11_read_139 : decode cX11_read 139 = .ok (.iload 4, 2) := by decide +kernel
theorem dX11_read_141 : decode cX11_read 141 = .ok (.iaload, 1) := by decide +kernel
theorem dX11_read_142 : decode cX11_read 142 = .ok (.aload_n 0, 1) := by decide +kernel
theorem dX11_read_143 : decode cX11_read 143 = .ok (.getfield 84, 3) := by decide +kernel
theorem dX11_read_146 : decode cX11_read 146 = .ok (.iload_n 3, 1) := by decide +kernel
theorem dX11_read_147 : decode cX11_read 147 = .ok (.laload, 1) := by decide +kernel
theorem dX11_read_148 : decode cX11_read 148 = .ok (.aload_n 0, 1) := by decide +kernel
theorem dX11_read_149 : decode cX11_read 149 = .ok (.getfield 87, 3) := by decide +kernel
theorem dX11_read_152 : decode cX11_read 152 = .ok (.iload_n 3, 1) := by decide +kernel
theorem dX11_read_153 : decode cX11_read 153 = .ok (.laload, 1) := by decide +kernel
theorem dX11_read_154 : decode cX11_read 154 = .ok (.invokevirtual 228, 3) := by decide +kernel
theorem dX11_read_157 : decode cX11_read 157 = .ok (.goto 69, 3) := by decide +kernel
theorem dX11_read_160 : decode cX11_read 160 = .ok (.aload_n 0, 1) := by decide +kernel
theorem dX11_read_161 : decode cX11_read 161 = .ok (.aload_n 0, 1) := by decide +kernel
theorem dX11_read_162 : decode cX11_read 162 = .ok (.getfield 81, 3) := by decide +kernel
theorem dX11_read_165 : decode cX11_read 165 = .ok (.iload 4, 2) := by decide +kernel
theorem dX11_read_167 : decode cX11_read 167 = .ok (.iaload, 1) := by decide +kernel
theorem dX11_read_168 : decode cX11_read 168 = .ok (.aload_n 0, 1) := by decide +kernel
theorem dX11_read_169 : decode cX11_read 169 = .ok (.getfield 81, 3) := by decide +kernel
theorem dX11_read_172 : decode cX11_read 172 = .ok (.iload 4, 2) := by decide +kernel
theorem dX11_read_174 : decode cX11_read 174 = .ok (.iconst 1, 1) := by decide +kernel
theorem dX11_read_175 : decode cX11_read 175 = .ok (.iadd, 1) := by decide +kernel
theorem dX11_read_176 : decode cX11_read 176 = .ok (.iaload, 1) := by decide +kernel
theorem dX11_read_177 : decode cX11_read 177 = .ok (.aload_n 0, 1) := by decide +kernel
theorem dX11_read_178 : decode cX11_read 178 = .ok (.getfield 78, 3) := by decide +kernel
theorem dX11_read_181 : decode cX11_read 181 = .ok (.iload_n 3, 1) := by decide +kernel
theorem dX11_read_182 : decode cX11_read 182 = .ok (.iaload, 1) := by decide +kernel
theorem dX11_read_183 : decode cX11_read 183 = .ok (.iconst 2, 1) := by decide +kernel
theorem dX11_read_184 : decode cX11_read 184 = .ok (.if_icmp .ne 7, 3) := by decide +kernel
theorem dX11_read_187 : decode cX11_read 187 = .ok (.iconst 0, 1) := by decide +kernel
theorem dX11_read_188 : decode cX11_read 188 = .ok (.goto 17, 3) := by decide +kernel
theorem dX11_read_191 : decode cX11_read 191 = .ok (.aload_n 0, 1) := by decide +kernel
theorem dX11_read_192 : decode cX11_read 192 = .ok (.getfield 78, 3) := by decide +kernel
theorem dX11_read_195 : decode cX11_read 195 = .ok (.iload_n 3, 1) := by decide +kernel
theorem dX11_read_196 : decode cX11_read 196 = .ok (.iaload, 1) := by decide +kernel
theorem dX11_read_197 : decode cX11_read 197 = .ok (.ifCond .ne 7, 3) := by decide +kernel
theorem dX11_read_200 : decode cX11_read 200 = .ok (.iconst 1, 1) := by decide +kernel
theorem dX11_read_201 : decode cX11_read 201 = .ok (.goto 4, 3) := by decide +kernel
theorem dX11_read_204 : decode cX11_read 204 = .ok (.iconst 2, 1) := by decide +kernel
theorem dX11_read_205 : decode cX11_read 205 = .ok (.aload_n 0, 1) := by decide +kernel
theorem dX11_read_206 : decode cX11_read 206 = .ok (.getfield 81, 3) := by decide +kernel
theorem dX11_read_209 : decode cX11_read 209 = .ok (.iload 4, 2) := by decide +kernel
theorem dX11_read_211 : decode cX11_read 211 = .ok (.iconst 2, 1) := by decide +kernel
theorem dX11_read_212 : decode cX11_read 212 = .ok (.iadd, 1) := by decide +kernel
theorem dX11_read_213 : decode cX11_read 213 = .ok (.iaload, 1) := by decide +kernel
theorem dX11_read_214 : decode cX11_read 214 = .ok (.aload_n 0, 1) := by decide +kernel
theorem dX11_read_215 : decode cX11_read 215 = .ok (.getfield 81, 3) := by decide +kernel
theorem dX11_read_218 : decode cX11_read 218 = .ok (.iload 4, 2) := by decide +kernel
theorem dX11_read_220 : decode cX11_read 220 = .ok (.iconst 3, 1) := by decide +kernel
theorem dX11_read_221 : decode cX11_read 221 = .ok (.iadd, 1) := by decide +kernel
theorem dX11_read_222 : decode cX11_read 222 = .ok (.iaload, 1) := by decide +kernel
theorem dX11_read_223 : decode cX11_read 223 = .ok (.invokevirtual 148, 3) := by decide +kernel
theorem dX11_read_226 : decode cX11_read 226 = .ok (.iinc 3 1, 3) := by decide +kernel
theorem dX11_read_229 : decode cX11_read 229 = .ok (.goto (-118), 3) := by decide +kernel
theorem dX11_read_232 : decode cX11_read 232 = .ok (.aload_n 0, 1) := by decide +kernel
theorem dX11_read_233 : decode cX11_read 233 = .ok (.getfield 322, 3) := by decide +kernel
theorem dX11_read_236 : decode cX11_read 236 = .ok (.ireturn, 1) := by decide +kernel
theorem dX11_faultPosition_0 : decode cX11_faultPosition 0 = .ok (.aload_n 0, 1) := by decide +kernel
theorem dX11_faultPosition_1 : decode cX11_faultPosition 1 = .ok (.iconst 0, 1) := by decide +kernel
theorem dX11_faultPosition_2 : decode cX11_faultPosition 2 = .ok (.putfield 106, 3) := by decide +kernel
theorem dX11_faultPosition_5 : decode cX11_faultPosition 5 = .ok (.aload_n 0, 1) := by decide +kernel
theorem dX11_faultPosition_6 : decode cX11_faultPosition 6 = .ok (.getfield 90, 3) := by decide +kernel
theorem dX11_faultPosition_9 : decode cX11_faultPosition 9 = .ok (.ireturn, 1) := by decide +kernel
theorem dX11_save_0 : decode cX11_save 0 = .ok (.aload_n 0, 1) := by decide +kernel
theorem dX11_save_1 : decode cX11_save 1 = .ok (.iconst 0, 1) := by decide +kernel
theorem dX11_save_2 : decode cX11_save 2 = .ok (.putfield 106, 3) := by decide +kernel
theorem dX11_save_5 : decode cX11_save 5 = .ok (.aload_n 0, 1) := by decide +kernel
theorem dX11_save_6 : decode cX11_save 6 = .ok (.iconst 1, 1) := by decide +kernel
theorem dX11_save_7 : decode cX11_save 7 = .ok (.putfield 346, 3) := by decide +kernel
theorem dX11_save_10 : decode cX11_save 10 = .ok (.aload_n 0, 1) := by decide +kernel
theorem dX11_save_11 : decode cX11_save 11 = .ok (.aload_n 0, 1) := by decide +kernel
theorem dX11_save_12 : decode cX11_save 12 = .ok (.getfield 123, 3) := by decide +kernel
theorem dX11_save_15 : decode cX11_save 15 = .ok (.putfield 349, 3) := by decide +kernel
theorem dX11_save_18 : decode cX11_save 18 = .ok (.iconst 0, 1) := by decide +kernel
theorem dX11_save_19 : decode cX11_save 19 = .ok (.istore_n 1, 1) := by decide +kernel
theorem dX11_save_20 : decode cX11_save 20 = .ok (.iload_n 1, 1) := by decide +kernel
theorem dX11_save_21 : decode cX11_save 21 = .ok (.bipush 50, 2) := by decide +kernel
theorem dX11_save_23 : decode cX11_save 23 = .ok (.if_icmp .ge 21, 3) := by decide +kernel
theorem dX11_save_26 : decode cX11_save 26 = .ok (.aload_n 0, 1) := by decide +kernel
theorem dX11_save_27 : decode cX11_save 27 = .ok (.getfield 94, 3) := by decide +kernel
theorem dX11_save_30 : decode cX11_save 30 = .ok (.iload_n 1, 1) := by decide +kernel
theorem dX11_save_31 : decode cX11_save 31 = .ok (.aload_n 0, 1) := by decide +kernel
theorem dX11_save_32 : decode cX11_save 32 = .ok (.getfield 7, 3) := by decide +kernel
theorem dX11_save_35 : decode cX11_save 35 = .ok (.iload_n 1, 1) := by decide +kernel
theorem dX11_save_36 : decode cX11_save 36 = .ok (.iaload, 1) := by decide +kernel
theorem dX11_save_37 : decode cX11_save 37 = .ok (.iastore, 1) := by decide +kernel
theorem dX11_save_38 : decode cX11_save 38 = .ok (.iinc 1 1, 3) := by decide +kernel
theorem dX11_save_41 : decode cX11_save 41 = .ok (.goto (-21), 3) := by decide +kernel
theorem dX11_save_44 : decode cX11_save 44 = .ok (.aload_n 0, 1) := by decide +kernel
theorem dX11_save_45 : decode cX11_save 45 = .ok (.aload_n 0, 1) := by decide +kernel
theorem dX11_save_46 : decode cX11_save 46 = .ok (.getfield 225, 3) := by decide +kernel
theorem dX11_save_49 : decode cX11_save 49 = .ok (.putfield 352, 3) := by decide +kernel
theorem dX11_save_52 : decode cX11_save 52 = .ok (.iconst 0, 1) := by decide +kernel
theorem dX11_save_53 : decode cX11_save 53 = .ok (.istore_n 1, 1) := by decide +kernel
theorem dX11_save_54 : decode cX11_save 54 = .ok (.iload_n 1, 1) := by decide +kernel
theorem dX11_save_55 : decode cX11_save 55 = .ok (.iconst 3, 1) := by decide +kernel
theorem dX11_save_56 : decode cX11_save 56 = .ok (.if_icmp .ge 45, 3) := by decide +kernel
theorem dX11_save_59 : decode cX11_save 59 = .ok (.aload_n 0, 1) := by decide +kernel
theorem dX11_save_60 : decode cX11_save 60 = .ok (.getfield 97, 3) := by decide +kernel
theorem dX11_save_63 : decode cX11_save 63 = .ok (.iload_n 1, 1) := by decide +kernel
theorem dX11_save_64 : decode cX11_save 64 = .ok (.aload_n 0, 1) := by decide +kernel
theorem dX11_save_65 : decode cX11_save 65 = .ok (.getfield 32, 3) := by decide +kernel
theorem dX11_save_68 : decode cX11_save 68 = .ok (.iload_n 1, 1) := by decide +kernel
theorem dX11_save_69 : decode cX11_save 69 = .ok (.iaload, 1) := by decide +kernel
theorem dX11_save_70 : decode cX11_save 70 = .ok (.iastore, 1) := by decide +kernel
theorem dX11_save_71 : decode cX11_save 71 = .ok (.aload_n 0, 1) := by decide +kernel
theorem dX11_save_72 : decode cX11_save 72 = .ok (.getfield 100, 3) := by decide +kernel
theorem dX11_save_75 : decode cX11_save 75 = .ok (.iload_n 1, 1) := by decide +kernel
theorem dX11_save_76 : decode cX11_save 76 = .ok (.aload_n 0, 1) := by decide +kernel
theorem dX11_save_77 : decode cX11_save 77 = .ok (.getfield 35, 3) := by decide +kernel
theorem dX11_save_80 : decode cX11_save 80 = .ok (.iload_n 1, 1) := by decide +kernel
theorem dX11_save_81 : decode cX11_save 81 = .ok (.laload, 1) := by decide +kernel
theorem dX11_save_82 : decode cX11_save 82 = .ok (.lastore, 1) := by decide +kernel
theorem dX11_save_83 : decode cX11_save 83 = .ok (.aload_n 0, 1) := by decide +kernel
theorem dX11_save_84 : decode cX11_save 84 = .ok (.getfield 103, 3) := by decide +kernel
theorem dX11_save_87 : decode cX11_save 87 = .ok (.iload_n 1, 1) := by decide +kernel
theorem dX11_save_88 : decode cX11_save 88 = .ok (.aload_n 0, 1) := by decide +kernel
theorem dX11_save_89 : decode cX11_save 89 = .ok (.getfield 38, 3) := by decide +kernel
theorem dX11_save_92 : decode cX11_save 92 = .ok (.iload_n 1, 1) := by decide +kernel
theorem dX11_save_93 : decode cX11_save 93 = .ok (.laload, 1) := by decide +kernel
theorem dX11_save_94 : decode cX11_save 94 = .ok (.lastore, 1) := by decide +kernel
theorem dX11_save_95 : decode cX11_save 95 = .ok (.iinc 1 1, 3) := by decide +kernel
theorem dX11_save_98 : decode cX11_save 98 = .ok (.goto (-44), 3) := by decide +kernel
theorem dX11_save_101 : decode cX11_save 101 = .ok (.aload_n 0, 1) := by decide +kernel
theorem dX11_save_102 : decode cX11_save 102 = .ok (.aload_n 0, 1) := by decide +kernel
theorem dX11_save_103 : decode cX11_save 103 = .ok (.getfield 169, 3) := by decide +kernel
theorem dX11_save_106 : decode cX11_save 106 = .ok (.putfield 355, 3) := by decide +kernel
theorem dX11_save_109 : decode cX11_save 109 = .ok (.aload_n 0, 1) := by decide +kernel
theorem dX11_save_110 : decode cX11_save 110 = .ok (.aload_n 0, 1) := by decide +kernel
theorem dX11_save_111 : decode cX11_save 111 = .ok (.getfield 159, 3) := by decide +kernel
theorem dX11_save_114 : decode cX11_save 114 = .ok (.putfield 358, 3) := by decide +kernel
theorem dX11_save_117 : decode cX11_save 117 = .ok (.aload_n 0, 1) := by decide +kernel
theorem dX11_save_118 : decode cX11_save 118 = .ok (.aload_n 0, 1) := by decide +kernel
theorem dX11_save_119 : decode cX11_save 119 = .ok (.getfield 163, 3) := by decide +kernel
theorem dX11_save_122 : decode cX11_save 122 = .ok (.putfield 361, 3) := by decide +kernel
theorem dX11_save_125 : decode cX11_save 125 = .ok (.return_, 1) := by decide +kernel
theorem dX11_restore_0 : decode cX11_restore 0 = .ok (.aload_n 0, 1) := by decide +kernel
theorem dX11_restore_1 : decode cX11_restore 1 = .ok (.aload_n 0, 1) := by decide +kernel
theorem dX11_restore_2 : decode cX11_restore 2 = .ok (.getfield 346, 3) := by decide +kernel
theorem dX11_restore_5 : decode cX11_restore 5 = .ok (.ifCond .eq 7, 3) := by decide +kernel
theorem dX11_restore_8 : decode cX11_restore 8 = .ok (.iconst 0, 1) := by decide +kernel
theorem dX11_restore_9 : decode cX11_restore 9 = .ok (.goto 4, 3) := by decide +kernel
theorem dX11_restore_12 : decode cX11_restore 12 = .ok (.iconst 1, 1) := by decide +kernel
theorem dX11_restore_13 : decode cX11_restore 13 = .ok (.putfield 106, 3) := by decide +kernel
theorem dX11_restore_16 : decode cX11_restore 16 = .ok (.aload_n 0, 1) := by decide +kernel
theorem dX11_restore_17 : decode cX11_restore 17 = .ok (.getfield 346, 3) := by decide +kernel
theorem dX11_restore_20 : decode cX11_restore 20 = .ok (.ifCond .ne 4, 3) := by decide +kernel
theorem dX11_restore_23 : decode cX11_restore 23 = .ok (.return_, 1) := by decide +kernel
theorem dX11_restore_24 : decode cX11_restore 24 = .ok (.aload_n 0, 1) := by decide +kernel
theorem dX11_restore_25 : decode cX11_restore 25 = .ok (.aload_n 0, 1) := by decide +kernel
theorem dX11_restore_26 : decode cX11_restore 26 = .ok (.getfield 349, 3) := by decide +kernel
theorem dX11_restore_29 : decode cX11_restore 29 = .ok (.putfield 123, 3) := by decide +kernel
theorem dX11_restore_32 : decode cX11_restore 32 = .ok (.iconst 0, 1) := by decide +kernel
theorem dX11_restore_33 : decode cX11_restore 33 = .ok (.istore_n 1, 1) := by decide +kernel
theorem dX11_restore_34 : decode cX11_restore 34 = .ok (.iload_n 1, 1) := by decide +kernel
theorem dX11_restore_35 : decode cX11_restore 35 = .ok (.bipush 50, 2) := by decide +kernel
theorem dX11_restore_37 : decode cX11_restore 37 = .ok (.if_icmp .ge 21, 3) := by decide +kernel
theorem dX11_restore_40 : decode cX11_restore 40 = .ok (.aload_n 0, 1) := by decide +kernel
theorem dX11_restore_41 : decode cX11_restore 41 = .ok (.getfield 7, 3) := by decide +kernel
theorem dX11_restore_44 : decode cX11_restore 44 = .ok (.iload_n 1, 1) := by decide +kernel
theorem dX11_restore_45 : decode cX11_restore 45 = .ok (.aload_n 0, 1) := by decide +kernel
theorem dX11_restore_46 : decode cX11_restore 46 = .ok (.getfield 94, 3) := by decide +kernel
theorem dX11_restore_49 : decode cX11_restore 49 = .ok (.iload_n 1, 1) := by decide +kernel
theorem dX11_restore_50 : decode cX11_restore 50 = .ok (.iaload, 1) := by decide +kernel
theorem dX11_restore_51 : decode cX11_restore 51 = .ok (.iastore, 1) := by decide +kernel
theorem dX11_restore_52 : decode cX11_restore 52 = .ok (.iinc 1 1, 3) := by decide +kernel
theorem dX11_restore_55 : decode cX11_restore 55 = .ok (.goto (-21), 3) := by decide +kernel
theorem dX11_restore_58 : decode cX11_restore 58 = .ok (.aload_n 0, 1) := by decide +kernel
theorem dX11_restore_59 : decode cX11_restore 59 = .ok (.aload_n 0, 1) := by decide +kernel
theorem dX11_restore_60 : decode cX11_restore 60 = .ok (.getfield 352, 3) := by decide +kernel
theorem dX11_restore_63 : decode cX11_restore 63 = .ok (.putfield 225, 3) := by decide +kernel
theorem dX11_restore_66 : decode cX11_restore 66 = .ok (.iconst 0, 1) := by decide +kernel
theorem dX11_restore_67 : decode cX11_restore 67 = .ok (.istore_n 1, 1) := by decide +kernel
theorem dX11_restore_68 : decode cX11_restore 68 = .ok (.iload_n 1, 1) := by decide +kernel
theorem dX11_restore_69 : decode cX11_restore 69 = .ok (.iconst 3, 1) := by decide +kernel
theorem dX11_restore_70 : decode cX11_restore 70 = .ok (.if_icmp .ge 45, 3) := by decide +kernel
theorem dX11_restore_73 : decode cX11_restore 73 = .ok (.aload_n 0, 1) := by decide +kernel
theorem dX11_restore_74 : decode cX11_restore 74 = .ok (.getfield 32, 3) := by decide +kernel
theorem dX11_restore_77 : decode cX11_restore 77 = .ok (.iload_n 1, 1) := by decide +kernel
theorem dX11_restore_78 : decode cX11_restore 78 = .ok (.aload_n 0, 1) := by decide +kernel
theorem dX11_restore_79 : decode cX11_restore 79 = .ok (.getfield 97, 3) := by decide +kernel
theorem dX11_restore_82 : decode cX11_restore 82 = .ok (.iload_n 1, 1) := by decide +kernel
theorem dX11_restore_83 : decode cX11_restore 83 = .ok (.iaload, 1) := by decide +kernel
theorem dX11_restore_84 : decode cX11_restore 84 = .ok (.iastore, 1) := by decide +kernel
theorem dX11_restore_85 : decode cX11_restore 85 = .ok (.aload_n 0, 1) := by decide +kernel
theorem dX11_restore_86 : decode cX11_restore 86 = .ok (.getfield 35, 3) := by decide +kernel
theorem dX11_restore_89 : decode cX11_restore 89 = .ok (.iload_n 1, 1) := by decide +kernel
theorem dX11_restore_90 : decode cX11_restore 90 = .ok (.aload_n 0, 1) := by decide +kernel
theorem dX11_restore_91 : decode cX11_restore 91 = .ok (.getfield 100, 3) := by decide +kernel
theorem dX11_restore_94 : decode cX11_restore 94 = .ok (.iload_n 1, 1) := by decide +kernel
theorem dX11_restore_95 : decode cX11_restore 95 = .ok (.laload, 1) := by decide +kernel
theorem dX11_restore_96 : decode cX11_restore 96 = .ok (.lastore, 1) := by decide +kernel
theorem dX11_restore_97 : decode cX11_restore 97 = .ok (.aload_n 0, 1) := by decide +kernel
theorem dX11_restore_98 : decode cX11_restore 98 = .ok (.getfield 38, 3) := by decide +kernel
theorem dX11_restore_101 : decode cX11_restore 101 = .ok (.iload_n 1, 1) := by decide +kernel
theorem dX11_restore_102 : decode cX11_restore 102 = .ok (.aload_n 0, 1) := by decide +kernel
theorem dX11_restore_103 : decode cX11_restore 103 = .ok (.getfield 103, 3) := by decide +kernel
theorem dX11_restore_106 : decode cX11_restore 106 = .ok (.iload_n 1, 1) := by decide +kernel
theorem dX11_restore_107 : decode cX11_restore 107 = .ok (.laload, 1) := by decide +kernel
theorem dX11_restore_108 : decode cX11_restore 108 = .ok (.lastore, 1) := by decide +kernel
theorem dX11_restore_109 : decode cX11_restore 109 = .ok (.iinc 1 1, 3) := by decide +kernel
theorem dX11_restore_112 : decode cX11_restore 112 = .ok (.goto (-44), 3) := by decide +kernel
theorem dX11_restore_115 : decode cX11_restore 115 = .ok (.aload_n 0, 1) := by decide +kernel
theorem dX11_restore_116 : decode cX11_restore 116 = .ok (.aload_n 0, 1) := by decide +kernel
theorem dX11_restore_117 : decode cX11_restore 117 = .ok (.getfield 355, 3) := by decide +kernel
theorem dX11_restore_120 : decode cX11_restore 120 = .ok (.putfield 169, 3) := by decide +kernel
theorem dX11_restore_123 : decode cX11_restore 123 = .ok (.aload_n 0, 1) := by decide +kernel
theorem dX11_restore_124 : decode cX11_restore 124 = .ok (.aload_n 0, 1) := by decide +kernel
theorem dX11_restore_125 : decode cX11_restore 125 = .ok (.getfield 358, 3) := by decide +kernel
theorem dX11_restore_128 : decode cX11_restore 128 = .ok (.putfield 159, 3) := by decide +kernel
theorem dX11_restore_131 : decode cX11_restore 131 = .ok (.aload_n 0, 1) := by decide +kernel
theorem dX11_restore_132 : decode cX11_restore 132 = .ok (.aload_n 0, 1) := by decide +kernel
theorem dX11_restore_133 : decode cX11_restore 133 = .ok (.getfield 361, 3) := by decide +kernel
theorem dX11_restore_136 : decode cX11_restore 136 = .ok (.putfield 163, 3) := by decide +kernel
theorem dX11_restore_139 : decode cX11_restore 139 = .ok (.aload_n 0, 1) := by decide +kernel
theorem dX11_restore_140 : decode cX11_restore 140 = .ok (.iconst 0, 1) := by decide +kernel
theorem dX11_restore_141 : decode cX11_restore 141 = .ok (.putfield 166, 3) := by decide +kernel
theorem dX11_restore_144 : decode cX11_restore 144 = .ok (.aload_n 0, 1) := by decide +kernel
theorem dX11_restore_145 : decode cX11_restore 145 = .ok (.iconst 0, 1) := by decide +kernel
theorem dX11_restore_146 : decode cX11_restore 146 = .ok (.putfield 126, 3) := by decide +kernel
theorem dX11_restore_149 : decode cX11_restore 149 = .ok (.return_, 1) := by decide +kernel
