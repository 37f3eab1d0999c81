theorem dX11_init_0 : decode cX11_init 0 = .ok (.aload_n 0, 1) := by decide +kernel
theorem dX11_init_1 : decode cX11_init 1 = .ok (.invokespecial 1, 3) := by decide +kernel
theorem dX11_init_4 : decode cX11_init 4 = .ok (.aload_n 0, 1) := by decide +kernel
theorem dX11_init_5 : decode cX11_init 5 = .ok (.sipush 1805, 3) := by decide +kernel
theorem dX11_init_8 : decode cX11_init 8 = .ok (.newarray .int, 2) := by decide +kernel
theorem dX11_init_10 : decode cX11_init 10 = .ok (.putfield 7, 3) := by decide +kernel
theorem dX11_init_13 : decode cX11_init 13 = .ok (.aload_n 0, 1) := by decide +kernel
theorem dX11_init_14 : decode cX11_init 14 = .ok (.sipush 7220, 3) := by decide +kernel
theorem dX11_init_17 : decode cX11_init 17 = .ok (.newarray .int, 2) := by decide +kernel
theorem dX11_init_19 : decode cX11_init 19 = .ok (.putfield 13, 3) := by decide +kernel
theorem dX11_init_22 : decode cX11_init 22 = .ok (.aload_n 0, 1) := by decide +kernel
theorem dX11_init_23 : decode cX11_init 23 = .ok (.iconst 4, 1) := by decide +kernel
theorem dX11_init_24 : decode cX11_init 24 = .ok (.newarray .boolean, 2) := by decide +kernel
theorem dX11_init_26 : decode cX11_init 26 = .ok (.putfield 16, 3) := by decide +kernel
theorem dX11_init_29 : decode cX11_init 29 = .ok (.aload_n 0, 1) := by decide +kernel
theorem dX11_init_30 : decode cX11_init 30 = .ok (.bipush 100, 2) := by decide +kernel
theorem dX11_init_32 : decode cX11_init 32 = .ok (.newarray .int, 2) := by decide +kernel
theorem dX11_init_34 : decode cX11_init 34 = .ok (.putfield 20, 3) := by decide +kernel
theorem dX11_init_37 : decode cX11_init 37 = .ok (.aload_n 0, 1) := by decide +kernel
theorem dX11_init_38 : decode cX11_init 38 = .ok (.bipush 30, 2) := by decide +kernel
theorem dX11_init_40 : decode cX11_init 40 = .ok (.newarray .int, 2) := by decide +kernel
theorem dX11_init_42 : decode cX11_init 42 = .ok (.putfield 23, 3) := by decide +kernel
theorem dX11_init_45 : decode cX11_init 45 = .ok (.aload_n 0, 1) := by decide +kernel
theorem dX11_init_46 : decode cX11_init 46 = .ok (.bipush 30, 2) := by decide +kernel
theorem dX11_init_48 : decode cX11_init 48 = .ok (.newarray .boolean, 2) := by decide +kernel
theorem dX11_init_50 : decode cX11_init 50 = .ok (.putfield 26, 3) := by decide +kernel
theorem dX11_init_53 : decode cX11_init 53 = .ok (.aload_n 0, 1) := by decide +kernel
theorem dX11_init_54 : decode cX11_init 54 = .ok (.bipush 30, 2) := by decide +kernel
theorem dX11_init_56 : decode cX11_init 56 = .ok (.newarray .int, 2) := by decide +kernel
theorem dX11_init_58 : decode cX11_init 58 = .ok (.putfield 29, 3) := by decide +kernel
theorem dX11_init_61 : decode cX11_init 61 = .ok (.aload_n 0, 1) := by decide +kernel
theorem dX11_init_62 : decode cX11_init 62 = .ok (.bipush 30, 2) := by decide +kernel
theorem dX11_init_64 : decode cX11_init 64 = .ok (.newarray .int, 2) := by decide +kernel
theorem dX11_init_66 : decode cX11_init 66 = .ok (.putfield 32, 3) := by decide +kernel
theorem dX11_init_69 : decode cX11_init 69 = .ok (.aload_n 0, 1) := by decide +kernel
theorem dX11_init_70 : decode cX11_init 70 = .ok (.bipush 30, 2) := by decide +kernel
theorem dX11_init_72 : decode cX11_init 72 = .ok (.newarray .int, 2) := by decide +kernel
theorem dX11_init_74 : decode cX11_init 74 = .ok (.putfield 35, 3) := by decide +kernel
theorem dX11_init_77 : decode cX11_init 77 = .ok (.aload_n 0, 1) := by decide +kernel
theorem dX11_init_78 : decode cX11_init 78 = .ok (.sipush 256, 3) := by decide +kernel
theorem dX11_init_81 : decode cX11_init 81 = .ok (.newarray .int, 2) := by decide +kernel
theorem dX11_init_83 : decode cX11_init 83 = .ok (.putfield 38, 3) := by decide +kernel
theorem dX11_init_86 : decode cX11_init 86 = .ok (.aload_n 0, 1) := by decide +kernel
theorem dX11_init_87 : decode cX11_init 87 = .ok (.iconst 4, 1) := by decide +kernel
theorem dX11_init_88 : decode cX11_init 88 = .ok (.newarray .int, 2) := by decide +kernel
theorem dX11_init_90 : decode cX11_init 90 = .ok (.putfield 41, 3) := by decide +kernel
theorem dX11_init_93 : decode cX11_init 93 = .ok (.aload_n 0, 1) := by decide +kernel
theorem dX11_init_94 : decode cX11_init 94 = .ok (.iload_n 1, 1) := by decide +kernel
theorem dX11_init_95 : decode cX11_init 95 = .ok (.iconst 1, 1) := by decide +kernel
theorem dX11_init_96 : decode cX11_init 96 = .ok (.iconst 4, 1) := by decide +kernel
theorem dX11_init_97 : decode cX11_init 97 = .ok (.invokestatic 44, 3) := by decide +kernel
theorem dX11_init_100 : decode cX11_init 100 = .ok (.putfield 48, 3) := by decide +kernel
theorem dX11_init_103 : decode cX11_init 103 = .ok (.aload_n 0, 1) := by decide +kernel
theorem dX11_init_104 : decode cX11_init 104 = .ok (.iload_n 2, 1) := by decide +kernel
theorem dX11_init_105 : decode cX11_init 105 = .ok (.iconst 4, 1) := by decide +kernel
theorem dX11_init_106 : decode cX11_init 106 = .ok (.sipush 200, 3) := by decide +kernel
theorem dX11_init_109 : decode cX11_init 109 = .ok (.invokestatic 44, 3) := by decide +kernel
theorem dX11_init_112 : decode cX11_init 112 = .ok (.putfield 52, 3) := by decide +kernel
theorem dX11_init_115 : decode cX11_init 115 = .ok (.iconst 0, 1) := by decide +kernel
theorem dX11_init_116 : decode cX11_init 116 = .ok (.istore 4, 2) := by decide +kernel
theorem dX11_init_118 : decode cX11_init 118 = .ok (.iload 4, 2) := by decide +kernel
theorem dX11_init_120 : decode cX11_init 120 = .ok (.iconst 4, 1) := by decide +kernel
theorem dX11_init_121 : decode cX11_init 121 = .ok (.if_icmp .ge 58, 3) := by decide +kernel
theorem dX11_init_124 : decode cX11_init 124 = .ok (.iconst 0, 1) := by decide +kernel
theorem dX11_init_125 : decode cX11_init 125 = .ok (.istore 5, 2) := by decide +kernel
theorem dX11_init_127 : decode cX11_init 127 = .ok (.iload 5, 2) := by decide +kernel
theorem dX11_init_129 : decode cX11_init 129 = .ok (.bipush 100, 2) := by decide +kernel
theorem dX11_init_131 : decode cX11_init 131 = .ok (.if_icmp .ge 42, 3) := by decide +kernel
theorem dX11_init_134 : decode cX11_init 134 = .ok (.aload_n 0, 1) := by decide +kernel
theorem dX11_init_135 : decode cX11_init 135 = .ok (.getfield 7, 3) := by decide +kernel
theorem dX11_init_138 : decode cX11_init 138 = .ok (.iconst 0, 1) := by decide +kernel
theorem dX11_init_139 : decode cX11_init 139 = .ok (.bipush 100, 2) := by decide +kernel
theorem dX11_init_141 : decode cX11_init 141 = .ok (.iload 4, 2) := by decide +kernel
theorem dX11_init_143 : decode cX11_init 143 = .ok (.imul, 1) := by decide +kernel
theorem dX11_init_144 : decode cX11_init 144 = .ok (.iadd, 1) := by decide +kernel
theorem dX11_init_145 : decode cX11_init 145 = .ok (.iload 5, 2) := by decide +kernel
theorem dX11_init_147 : decode cX11_init 147 = .ok (.iadd, 1) := by decide +kernel
theorem dX11_init_148 : decode cX11_init 148 = .ok (.iload 5, 2) := by decide +kernel
theorem dX11_init_150 : decode cX11_init 150 = .ok (.iconst 2, 1) := by decide +kernel
theorem dX11_init_151 : decode cX11_init 151 = .ok (.iload 4, 2) := by decide +kernel
theorem dX11_init_153 : decode cX11_init 153 = .ok (.imul, 1) := by decide +kernel
theorem dX11_init_154 : decode cX11_init 154 = .ok (.iconst 5, 1) := by decide +kernel
theorem dX11_init_155 : decode cX11_init 155 = .ok (.iadd, 1) := by decide +kernel
theorem dX11_init_156 : decode cX11_init 156 = .ok (.imul, 1) := by decide +kernel
theorem dX11_init_157 : decode cX11_init 157 = .ok (.bipush 11, 2) := by decide +kernel
theorem dX11_init_159 : decode cX11_init 159 = .ok (.iload 4, 2) := by decide +kernel
theorem dX11_init_161 : decode cX11_init 161 = .ok (.imul, 1) := by decide +kernel
theorem dX11_init_162 : decode cX11_init 162 = .ok (.iadd, 1) := by decide +kernel
theorem dX11_init_163 : decode cX11_init 163 = .ok (.bipush 64, 2) := by decide +kernel
theorem dX11_init_165 : decode cX11_init 165 = .ok (.irem, 1) := by decide +kernel
theorem dX11_init_166 : decode cX11_init 166 = .ok (.iastore, 1) := by decide +kernel
theorem dX11_init_167 : decode cX11_init 167 = .ok (.iinc 5 1, 3) := by decide +kernel
theorem dX11_init_170 : decode cX11_init 170 = .ok (.goto (-43), 3) := by decide +kernel
theorem dX11_init_173 : decode cX11_init 173 = .ok (.iinc 4 1, 3) := by decide +kernel
theorem dX11_init_176 : decode cX11_init 176 = .ok (.goto (-58), 3) := by decide +kernel
theorem dX11_init_179 : decode cX11_init 179 = .ok (.iconst 0, 1) := by decide +kernel
theorem dX11_init_180 : decode cX11_init 180 = .ok (.istore 4, 2) := by decide +kernel
theorem dX11_init_182 : decode cX11_init 182 = .ok (.iload 4, 2) := by decide +kernel
theorem dX11_init_184 : decode cX11_init 184 = .ok (.bipush 100, 2) := by decide +kernel
theorem dX11_init_186 : decode cX11_init 186 = .ok (.if_icmp .ge 56, 3) := by decide +kernel
theorem dX11_init_189 : decode cX11_init 189 = .ok (.aload_n 0, 1) := by decide +kernel
theorem dX11_init_190 : decode cX11_init 190 = .ok (.getfield 7, 3) := by decide +kernel
theorem dX11_init_193 : decode cX11_init 193 = .ok (.sipush 400, 3) := by decide +kernel
theorem dX11_init_196 : decode cX11_init 196 = .ok (.iload 4, 2) := by decide +kernel
theorem dX11_init_198 : decode cX11_init 198 = .ok (.iadd, 1) := by decide +kernel
theorem dX11_init_199 : decode cX11_init 199 = .ok (.iload 4, 2) := by decide +kernel
theorem dX11_init_201 : decode cX11_init 201 = .ok (.iastore, 1) := by decide +kernel
theorem dX11_init_202 : decode cX11_init 202 = .ok (.aload_n 0, 1) := by decide +kernel
theorem dX11_init_203 : decode cX11_init 203 = .ok (.getfield 7, 3) := by decide +kernel
theorem dX11_init_206 : decode cX11_init 206 = .ok (.sipush 500, 3) := by decide +kernel
theorem dX11_init_209 : decode cX11_init 209 = .ok (.iload 4, 2) := by decide +kernel
theorem dX11_init_211 : decode cX11_init 211 = .ok (.iadd, 1) := by decide +kernel
theorem dX11_init_212 : decode cX11_init 212 = .ok (.iconst 5, 1) := by decide +kernel
theorem dX11_init_213 : decode cX11_init 213 = .ok (.iload 4, 2) := by decide +kernel
theorem dX11_init_215 : decode cX11_init 215 = .ok (.imul, 1) := by decide +kernel
theorem dX11_init_216 : decode cX11_init 216 = .ok (.bipush 64, 2) := by decide +kernel
theorem dX11_init_218 : decode cX11_init 218 = .ok (.iadd, 1) := by decide +kernel
theorem dX11_init_219 : decode cX11_init 219 = .ok (.sipush 128, 3) := by decide +kernel
theorem dX11_init_222 : decode cX11_init 222 = .ok (.irem, 1) := by decide +kernel
theorem dX11_init_223 : decode cX11_init 223 = .ok (.iastore, 1) := by decide +kernel
theorem dX11_init_224 : decode cX11_init 224 = .ok (.aload_n 0, 1) := by decide +kernel
theorem dX11_init_225 : decode cX11_init 225 = .ok (.getfield 7, 3) := by decide +kernel
theorem dX11_init_228 : decode cX11_init 228 = .ok (.sipush 990, 3) := by decide +kernel
theorem dX11_init_231 : decode cX11_init 231 = .ok (.iload 4, 2) := by decide +kernel
theorem dX11_init_233 : decode cX11_init 233 = .ok (.iadd, 1) := by decide +kernel
theorem dX11_init_234 : decode cX11_init 234 = .ok (.iconst 1, 1) := by decide +kernel
theorem dX11_init_235 : decode cX11_init 235 = .ok (.iastore, 1) := by decide +kernel
theorem dX11_init_236 : decode cX11_init 236 = .ok (.iinc 4 1, 3) := by decide +kernel
theorem dX11_init_239 : decode cX11_init 239 = .ok (.goto (-57), 3) := by decide +kernel
theorem dX11_init_242 : decode cX11_init 242 = .ok (.aload_n 0, 1) := by decide +kernel
theorem dX11_init_243 : decode cX11_init 243 = .ok (.getfield 7, 3) := by decide +kernel
theorem dX11_init_246 : decode cX11_init 246 = .ok (.sipush 600, 3) := by decide +kernel
theorem dX11_init_249 : decode cX11_init 249 = .ok (.iconst 1, 1) := by decide +kernel
theorem dX11_init_250 : decode cX11_init 250 = .ok (.iastore, 1) := by decide +kernel
theorem dX11_init_251 : decode cX11_init 251 = .ok (.aload_n 0, 1) := by decide +kernel
theorem dX11_init_252 : decode cX11_init 252 = .ok (.getfield 7, 3) := by decide +kernel
theorem dX11_init_255 : decode cX11_init 255 = .ok (.sipush 602, 3) := by decide +kernel
theorem dX11_init_258 : decode cX11_init 258 = .ok (.sipush 200, 3) := by decide +kernel
theorem dX11_init_261 : decode cX11_init 261 = .ok (.iastore, 1) := by decide +kernel
theorem dX11_init_262 : decode cX11_init 262 = .ok (.aload_n 0, 1) := by decide +kernel
theorem dX11_init_263 : decode cX11_init 263 = .ok (.getfield 7, 3) := by decide +kernel
theorem dX11_init_266 : decode cX11_init 266 = .ok (.sipush 605, 3) := by decide +kernel
theorem dX11_init_269 : decode cX11_init 269 = .ok (.bipush 20, 2) := by decide +kernel
theorem dX11_init_271 : decode cX11_init 271 = .ok (.iastore, 1) := by decide +kernel
theorem dX11_init_272 : decode cX11_init 272 = .ok (.aload_n 0, 1) := by decide +kernel
theorem dX11_init_273 : decode cX11_init 273 = .ok (.getfield 7, 3) := by decide +kernel
theorem dX11_init_276 : decode cX11_init 276 = .ok (.sipush 1400, 3) := by decide +kernel
theorem dX11_init_279 : decode cX11_init 279 = .ok (.iconst 1, 1) := by decide +kernel
theorem dX11_init_280 : decode cX11_init 280 = .ok (.iastore, 1) := by decide +kernel
theorem dX11_init_281 : decode cX11_init 281 = .ok (.aload_n 0, 1) := by decide +kernel
theorem dX11_init_282 : decode cX11_init 282 = .ok (.iload_n 3, 1) := by decide +kernel
theorem dX11_init_283 : decode cX11_init 283 = .ok (.invokevirtual 55, 3) := by decide +kernel
theorem dX11_init_286 : decode cX11_init 286 = .ok (.return_, 1) := by decide +kernel
theorem dX11_within_0 : decode cX11_within 0 = .ok (.iload_n 0, 1) := by decide +kernel
theorem dX11_within_1 : decode cX11_within 1 = .ok (.iload_n 1, 1) := by decide +kernel
theorem dX11_within_2 : decode cX11_within 2 = .ok (.if_icmp .ge 7, 3) := by decide +kernel
theorem dX11_within_5 : decode cX11_within 5 = .ok (.iload_n 1, 1) := by decide +kernel
theorem dX11_within_6 : decode cX11_within 6 = .ok (.goto 13, 3) := by decide +kernel
theorem dX11_within_9 : decode cX11_within 9 = .ok (.iload_n 0, 1) := by decide +kernel
theorem dX11_within_10 : decode cX11_within 10 = .ok (.iload_n 2, 1) := by decide +kernel
theorem dX11_within_11 : decode cX11_within 11 = .ok (.if_icmp .le 7, 3) := by decide +kernel
theorem dX11_within_14 : decode cX11_within 14 = .ok (.iload_n 2, 1) := by decide +kernel
theorem dX11_within_15 : decode cX11_within 15 = .ok (.goto 4, 3) := by decide +kernel
theorem dX11_within_18 : decode cX11_within 18 = .ok (.iload_n 0, 1) := by decide +kernel
theorem dX11_within_19 : decode cX11_within 19 = .ok (.ireturn, 1) := by decide +kernel
theorem dX11_in_0 : decode cX11_in 0 = .ok (.iload_n 0, 1) := by decide +kernel
theorem dX11_in_1 : decode cX11_in 1 = .ok (.iload_n 1, 1) := by decide +kernel
theorem dX11_in_2 : decode cX11_in 2 = .ok (.if_icmp .lt 12, 3) := by decide +kernel
theorem dX11_in_5 : decode cX11_in 5 = .ok (.iload_n 0, 1) := by decide +kernel
theorem dX11_in_6 : decode cX11_in 6 = .ok (.iload_n 2, 1) := by decide +kernel
theorem dX11_in_7 : decode cX11_in 7 = .ok (.if_icmp .gt 7, 3) := by decide +kernel
theorem dX11_in_10 : decode cX11_in 10 = .ok (.iconst 1, 1) := by decide +kernel
theorem dX11_in_11 : decode cX11_in 11 = .ok (.goto 4, 3) := by decide +kernel
theorem dX11_in_14 : decode cX11_in 14 = .ok (.iconst 0, 1) := by decide +kernel
theorem dX11_in_15 : decode cX11_in 15 = .ok (.ireturn, 1) := by decide +kernel
theorem dX11_isKey_0 : decode cX11_isKey 0 = .ok (.iload_n 0, 1) := by decide +kernel
theorem dX11_isKey_1 : decode cX11_isKey 1 = .ok (.iconst 0, 1) := by decide +kernel
theorem dX11_isKey_2 : decode cX11_isKey 2 = .ok (.bipush 99, 2) := by decide +kernel
theorem dX11_isKey_4 : decode cX11_isKey 4 = .ok (.invokestatic 59, 3) := by decide +kernel
theorem dX11_isKey_7 : decode cX11_isKey 7 = .ok (.ireturn, 1) := by decide +kernel
theorem dX11_setWindow_0 : decode cX11_setWindow 0 = .ok (.aload_n 0, 1) := by decide +kernel
theorem dX11_setWindow_1 : decode cX11_setWindow 1 = .ok (.getfield 7, 3) := by decide +kernel
theorem dX11_setWindow_4 : decode cX11_setWindow 4 = .ok (.sipush 1393, 3) := by decide +kernel
theorem dX11_setWindow_7 : decode cX11_setWindow 7 = .ok (.iload_n 1, 1) := by decide +kernel
theorem dX11_setWindow_8 : decode cX11_setWindow 8 = .ok (.iconst 1, 1) := by decide +kernel
theorem dX11_setWindow_9 : decode cX11_setWindow 9 = .ok (.aload_n 0, 1) := by decide +kernel
theorem dX11_setWindow_10 : decode cX11_setWindow 10 = .ok (.getfield 52, 3) := by decide +kernel
theorem dX11_setWindow_13 : decode cX11_setWindow 13 = .ok (.iconst 1, 1) := by decide +kernel
theorem dX11_setWindow_14 : decode cX11_setWindow 14 = .ok (.isub, 1) := by decide +kernel
theorem dX11_setWindow_15 : decode cX11_setWindow 15 = .ok (.invokestatic 44, 3) := by decide +kernel
theorem dX11_setWindow_18 : decode cX11_setWindow 18 = .ok (.iastore, 1) := by decide +kernel
theorem dX11_setWindow_19 : decode cX11_setWindow 19 = .ok (.aload_n 0, 1) := by decide +kernel
theorem dX11_setWindow_20 : decode cX11_setWindow 20 = .ok (.getfield 7, 3) := by decide +kernel
theorem dX11_setWindow_23 : decode cX11_setWindow 23 = .ok (.sipush 1394, 3) := by decide +kernel
theorem dX11_setWindow_26 : decode cX11_setWindow 26 = .ok (.aload_n 0, 1) := by decide +kernel
theorem dX11_setWindow_27 : decode cX11_setWindow 27 = .ok (.getfield 52, 3) := by decide +kernel
theorem dX11_setWindow_30 : decode cX11_setWindow 30 = .ok (.aload_n 0, 1) := by decide +kernel
theorem dX11_setWindow_31 : decode cX11_setWindow 31 = .ok (.getfield 7, 3) := by decide +kernel
theorem dX11_setWindow_34 : decode cX11_setWindow 34 = .ok (.sipush 1393, 3) := by decide +kernel
theorem dX11_setWindow_37 : decode cX11_setWindow 37 = .ok (.iaload, 1) := by decide +kernel
theorem dX11_setWindow_38 : decode cX11_setWindow 38 = .ok (.isub, 1) := by decide +kernel
theorem dX11_setWindow_39 : decode cX11_setWindow 39 = .ok (.iconst 4, 1) := by decide +kernel
theorem dX11_setWindow_40 : decode cX11_setWindow 40 = .ok (.imul, 1) := by decide +kernel
theorem dX11_setWindow_41 : decode cX11_setWindow 41 = .ok (.iconst 5, 1) := by decide +kernel
theorem dX11_setWindow_42 : decode cX11_setWindow 42 = .ok (.idiv, 1) := by decide +kernel
theorem dX11_setWindow_43 : decode cX11_setWindow 43 = .ok (.iastore, 1) := by decide +kernel
theorem dX11_setWindow_44 : decode cX11_setWindow 44 = .ok (.return_, 1) := by decide +kernel
theorem dX11_forgetTimes_0 : decode cX11_forgetTimes 0 = .ok (.iconst 0, 1) := by decide +kernel
theorem dX11_forgetTimes_1 : decode cX11_forgetTimes 1 = .ok (.istore_n 1, 1) := by decide +kernel
theorem dX11_forgetTimes_2 : decode cX11_forgetTimes 2 = .ok (.iload_n 1, 1) := by decide +kernel
theorem dX11_forgetTimes_3 : decode cX11_forgetTimes 3 = .ok (.bipush 100, 2) := by decide +kernel
theorem dX11_forgetTimes_5 : decode cX11_forgetTimes 5 = .ok (.if_icmp .ge 20, 3) := by decide +kernel
theorem dX11_forgetTimes_8 : decode cX11_forgetTimes 8 = .ok (.aload_n 0, 1) := by decide +kernel
theorem dX11_forgetTimes_9 : decode cX11_forgetTimes 9 = .ok (.getfield 7, 3) := by decide +kernel
theorem dX11_forgetTimes_12 : decode cX11_forgetTimes 12 = .ok (.sipush 1705, 3) := by decide +kernel
theorem dX11_forgetTimes_15 : decode cX11_forgetTimes 15 = .ok (.iload_n 1, 1) := by decide +kernel
theorem dX11_forgetTimes_16 : decode cX11_forgetTimes 16 = .ok (.iadd, 1) := by decide +kernel
theorem dX11_forgetTimes_17 : decode cX11_forgetTimes 17 = .ok (.iconst 0, 1) := by decide +kernel
theorem dX11_forgetTimes_18 : decode cX11_forgetTimes 18 = .ok (.iastore, 1) := by decide +kernel
theorem dX11_forgetTimes_19 : decode cX11_forgetTimes 19 = .ok (.iinc 1 1, 3) := by decide +kernel
theorem dX11_forgetTimes_22 : decode cX11_forgetTimes 22 = .ok (.goto (-20), 3) := by decide +kernel
theorem dX11_forgetTimes_25 : decode cX11_forgetTimes 25 = .ok (.return_, 1) := by decide +kernel
theorem dX11_place_0 : decode cX11_place 0 = .ok (.iload_n 1, 1) := by decide +kernel
theorem dX11_place_1 : decode cX11_place 1 = .ok (.iconst 0, 1) := by decide +kernel
theorem dX11_place_2 : decode cX11_place 2 = .ok (.aload_n 0, 1) := by decide +kernel
theorem dX11_place_3 : decode cX11_place 3 = .ok (.getfield 48, 3) := by decide +kernel
theorem dX11_place_6 : decode cX11_place 6 = .ok (.iconst 1, 1) := by decide +kernel
theorem dX11_place_7 : decode cX11_place 7 = .ok (.isub, 1) := by decide +kernel
theorem dX11_place_8 : decode cX11_place 8 = .ok (.invokestatic 59, 3) := by decide +kernel
theorem dX11_place_11 : decode cX11_place 11 = .ok (.ifCond .eq 20, 3) := by decide +kernel
theorem dX11_place_14 : decode cX11_place 14 = .ok (.iload_n 2, 1) := by decide +kernel
theorem dX11_place_15 : decode cX11_place 15 = .ok (.invokestatic 63, 3) := by decide +kernel
theorem dX11_place_18 : decode cX11_place 18 = .ok (.ifCond .eq 13, 3) := by decide +kernel
theorem dX11_place_21 : decode cX11_place 21 = .ok (.iload_n 3, 1) := by decide +kernel
theorem dX11_place_22 : decode cX11_place 22 = .ok (.iconst 0, 1) := by decide +kernel
theorem dX11_place_23 : decode cX11_place 23 = .ok (.bipush 63, 2) := by decide +kernel
theorem dX11_place_25 : decode cX11_place 25 = .ok (.invokestatic 59, 3) := by decide +kernel
theorem dX11_place_28 : decode cX11_place 28 = .ok (.ifCond .ne 6, 3) := by decide +kernel
theorem dX11_place_31 : decode cX11_place 31 = .ok (.bipush (-2), 2) := by decide +kernel
theorem dX11_place_33 : decode cX11_place 33 = .ok (.ireturn, 1) := by decide +kernel
theorem dX11_place_34 : decode cX11_place 34 = .ok (.aload_n 0, 1) := by decide +kernel
theorem dX11_place_35 : decode cX11_place 35 = .ok (.getfield 7, 3) := by decide +kernel
theorem dX11_place_38 : decode cX11_place 38 = .ok (.iconst 0, 1) := by decide +kernel
theorem dX11_place_39 : decode cX11_place 39 = .ok (.bipush 100, 2) := by decide +kernel
theorem dX11_place_41 : decode cX11_place 41 = .ok (.iload_n 1, 1) := by decide +kernel
theorem dX11_place_42 : decode cX11_place 42 = .ok (.imul, 1) := by decide +kernel
theorem dX11_place_43 : decode cX11_place 43 = .ok (.iadd, 1) := by decide +kernel
theorem dX11_place_44 : decode cX11_place 44 = .ok (.iload_n 2, 1) := by decide +kernel
theorem dX11_place_45 : decode cX11_place 45 = .ok (.iadd, 1) := by decide +kernel
theorem dX11_place_46 : decode cX11_place 46 = .ok (.iaload, 1) := by decide +kernel
theorem dX11_place_47 : decode cX11_place 47 = .ok (.istore 4, 2) := by decide +kernel
theorem dX11_place_49 : decode cX11_place 49 = .ok (.aload_n 0, 1) := by decide +kernel
theorem dX11_place_50 : decode cX11_place 50 = .ok (.getfield 7, 3) := by decide +kernel
theorem dX11_place_53 : decode cX11_place 53 = .ok (.iconst 0, 1) := by decide +kernel
theorem dX11_place_54 : decode cX11_place 54 = .ok (.bipush 100, 2) := by decide +kernel
theorem dX11_place_56 : decode cX11_place 56 = .ok (.iload_n 1, 1) := by decide +kernel
theorem dX11_place_57 : decode cX11_place 57 = .ok (.imul, 1) := by decide +kernel
theorem dX11_place_58 : decode cX11_place 58 = .ok (.iadd, 1) := by decide +kernel
theorem dX11_place_59 : decode cX11_place 59 = .ok (.iload_n 2, 1) := by decide +kernel
theorem dX11_place_60 : decode cX11_place 60 = .ok (.iadd, 1) := by decide +kernel
theorem dX11_place_61 : decode cX11_place 61 = .ok (.iload_n 3, 1) := by decide +kernel
theorem dX11_place_62 : decode cX11_place 62 = .ok (.iastore, 1) := by decide +kernel
theorem dX11_place_63 : decode cX11_place 63 = .ok (.aload_n 0, 1) := by decide +kernel
theorem dX11_place_64 : decode cX11_place 64 = .ok (.invokevirtual 67, 3) := by decide +kernel
theorem dX11_place_67 : decode cX11_place 67 = .ok (.iload 4, 2) := by decide +kernel
theorem dX11_place_69 : decode cX11_place 69 = .ok (.ireturn, 1) := by decide +kernel
theorem dX11_door_0 : decode cX11_door 0 = .ok (.iload_n 1, 1) := by decide +kernel
theorem dX11_door_1 : decode cX11_door 1 = .ok (.iconst 0, 1) := by decide +kernel
theorem dX11_door_2 : decode cX11_door 2 = .ok (.iconst 1, 1) := by decide +kernel
theorem dX11_door_3 : decode cX11_door 3 = .ok (.invokestatic 59, 3) := by decide +kernel
theorem dX11_door_6 : decode cX11_door 6 = .ok (.ifCond .eq 20, 3) := by decide +kernel
theorem dX11_door_9 : decode cX11_door 9 = .ok (.iload_n 2, 1) := by decide +kernel
theorem dX11_door_10 : decode cX11_door 10 = .ok (.invokestatic 63, 3) := by decide +kernel
theorem dX11_door_13 : decode cX11_door 13 = .ok (.ifCond .eq 13, 3) := by decide +kernel
theorem dX11_door_16 : decode cX11_door 16 = .ok (.iload_n 3, 1) := by decide +kernel
theorem dX11_door_17 : decode cX11_door 17 = .ok (.iconst 0, 1) := by decide +kernel
theorem dX11_door_18 : decode cX11_door 18 = .ok (.bipush 127, 2) := by decide +kernel
theorem dX11_door_20 : decode cX11_door 20 = .ok (.invokestatic 59, 3) := by decide +kernel
theorem dX11_door_23 : decode cX11_door 23 = .ok (.ifCond .ne 6, 3) := by decide +kernel
theorem dX11_door_26 : decode cX11_door 26 = .ok (.bipush (-2), 2) := by decide +kernel
theorem dX11_door_28 : decode cX11_door 28 = .ok (.ireturn, 1) := by decide +kernel
theorem dX11_door_29 : decode cX11_door 29 = .ok (.aload_n 0, 1) := by decide +kernel
theorem dX11_door_30 : decode cX11_door 30 = .ok (.getfield 7, 3) := by decide +kernel
theorem dX11_door_33 : decode cX11_door 33 = .ok (.sipush 400, 3) := by decide +kernel
theorem dX11_door_36 : decode cX11_door 36 = .ok (.bipush 100, 2) := by decide +kernel
theorem dX11_door_38 : decode cX11_door 38 = .ok (.iload_n 1, 1) := by decide +kernel
theorem dX11_door_39 : decode cX11_door 39 = .ok (.imul, 1) := by decide +kernel
theorem dX11_door_40 : decode cX11_door 40 = .ok (.iadd, 1) := by decide +kernel
theorem dX11_door_41 : decode cX11_door 41 = .ok (.iload_n 2, 1) := by decide +kernel
theorem dX11_door_42 : decode cX11_door 42 = .ok (.iadd, 1) := by decide +kernel
theorem dX11_door_43 : decode cX11_door 43 = .ok (.iaload, 1) := by decide +kernel
theorem dX11_door_44 : decode cX11_door 44 = .ok (.istore 4, 2) := by decide +kernel
theorem dX11_door_46 : decode cX11_door 46 = .ok (.aload_n 0, 1) := by decide +kernel
theorem dX11_door_47 : decode cX11_door 47 = .ok (.getfield 7, 3) := by decide +kernel
theorem dX11_door_50 : decode cX11_door 50 = .ok (.sipush 400, 3) := by decide +kernel
theorem dX11_door_53 : decode cX11_door 53 = .ok (.bipush 100, 2) := by decide +kernel
theorem dX11_door_55 : decode cX11_door 55 = .ok (.iload_n 1, 1) := by decide +kernel
theorem dX11_door_56 : decode cX11_door 56 = .ok (.imul, 1) := by decide +kernel
theorem dX11_door_57 : decode cX11_door 57 = .ok (.iadd, 1) := by decide +kernel
theorem dX11_door_58 : decode cX11_door 58 = .ok (.iload_n 2, 1) := by decide +kernel
theorem dX11_door_59 : decode cX11_door 59 = .ok (.iadd, 1) := by decide +kernel
theorem dX11_door_60 : decode cX11_door 60 = .ok (.iload_n 3, 1) := by decide +kernel
theorem dX11_door_61 : decode cX11_door 61 = .ok (.iastore, 1) := by decide +kernel
theorem dX11_door_62 : decode cX11_door 62 = .ok (.aload_n 0, 1) := by decide +kernel
theorem dX11_door_63 : decode cX11_door 63 = .ok (.invokevirtual 67, 3) := by decide +kernel
theorem dX11_door_66 : decode cX11_door 66 = .ok (.iload 4, 2) := by decide +kernel
theorem dX11_door_68 : decode cX11_door 68 = .ok (.ireturn, 1) := by decide +kernel
theorem dX11_rule_0 : decode cX11_rule 0 = .ok (.iload_n 1, 1) := by decide +kernel
theorem dX11_rule_1 : decode cX11_rule 1 = .ok (.tableswitch 95 0 5 #[39, 39, 49, 62, 72, 83], 39) := by decide +kernel
theorem dX11_rule_40 : decode cX11_rule 40 = .ok (.iload_n 2, 1) := by decide +kernel
theorem dX11_rule_41 : decode cX11_rule 41 = .ok (.iconst 0, 1) := by decide +kernel
theorem dX11_rule_42 : decode cX11_rule 42 = .ok (.iconst 1, 1) := by decide +kernel
theorem dX11_rule_43 : decode cX11_rule 43 = .ok (.invokestatic 59, 3) := by decide +kernel
theorem dX11_rule_46 : decode cX11_rule 46 = .ok (.istore_n 3, 1) := by decide +kernel
theorem dX11_rule_47 : decode cX11_rule 47 = .ok (.goto 51, 3) := by decide +kernel
theorem dX11_rule_50 : decode cX11_rule 50 = .ok (.iload_n 2, 1) := by decide +kernel
theorem dX11_rule_51 : decode cX11_rule 51 = .ok (.bipush 10, 2) := by decide +kernel
theorem dX11_rule_53 : decode cX11_rule 53 = .ok (.sipush 1000, 3) := by decide +kernel
theorem dX11_rule_56 : decode cX11_rule 56 = .ok (.invokestatic 59, 3) := by decide +kernel
theorem dX11_rule_59 : decode cX11_rule 59 = .ok (.istore_n 3, 1) := by decide +kernel
theorem dX11_rule_60 : decode cX11_rule 60 = .ok (.goto 38, 3) := by decide +kernel
theorem dX11_rule_63 : decode cX11_rule 63 = .ok (.iload_n 2, 1) := by decide +kernel
theorem dX11_rule_64 : decode cX11_rule 64 = .ok (.iconst 0, 1) := by decide +kernel
theorem dX11_rule_65 : decode cX11_rule 65 = .ok (.iconst 2, 1) := by decide +kernel
theorem dX11_rule_66 : decode cX11_rule 66 = .ok (.invokestatic 59, 3) := by decide +kernel
theorem dX11_rule_69 : decode cX11_rule 69 = .ok (.istore_n 3, 1) := by decide +kernel
theorem dX11_rule_70 : decode cX11_rule 70 = .ok (.goto 28, 3) := by decide +kernel
theorem dX11_rule_73 : decode cX11_rule 73 = .ok (.iload_n 2, 1) := by decide +kernel
theorem dX11_rule_74 : decode cX11_rule 74 = .ok (.iconst 0, 1) := by decide +kernel
theorem dX11_rule_75 : decode cX11_rule 75 = .ok (.bipush 20, 2) := by decide +kernel
theorem dX11_rule_77 : decode cX11_rule 77 = .ok (.invokestatic 59, 3) := by decide +kernel
theorem dX11_rule_80 : decode cX11_rule 80 = .ok (.istore_n 3, 1) := by decide +kernel
theorem dX11_rule_81 : decode cX11_rule 81 = .ok (.goto 17, 3) := by decide +kernel
theorem dX11_rule_84 : decode cX11_rule 84 = .ok (.iload_n 2, 1) := by decide +kernel
theorem dX11_rule_85 : decode cX11_rule 85 = .ok (.iconst 5, 1) := by decide +kernel
theorem dX11_rule_86 : decode cX11_rule 86 = .ok (.sipush 500, 3) := by decide +kernel
theorem dX11_rule_89 : decode cX11_rule 89 = .ok (.invokestatic 59, 3) := by decide +kernel
theorem dX11_rule_92 : decode cX11_rule 92 = .ok (.istore_n 3, 1) := by decide +kernel
theorem dX11_rule_93 : decode cX11_rule 93 = .ok (.goto 5, 3) := by decide +kernel
theorem dX11_rule_96 : decode cX11_rule 96 = .ok (.iconst 0, 1) := by decide +kernel
theorem dX11_rule_97 : decode cX11_rule 97 = .ok (.istore_n 3, 1) := by decide +kernel
theorem dX11_rule_98 : decode cX11_rule 98 = .ok (.iload_n 3, 1) := by decide +kernel
theorem dX11_rule_99 : decode cX11_rule 99 = .ok (.ifCond .ne 6, 3) := by decide +kernel
theorem dX11_rule_102 : decode cX11_rule 102 = .ok (.bipush (-2), 2) := by decide +kernel
theorem dX11_rule_104 : decode cX11_rule 104 = .ok (.ireturn, 1) := by decide +kernel
theorem dX11_rule_105 : decode cX11_rule 105 = .ok (.aload_n 0, 1) := by decide +kernel
theorem dX11_rule_106 : decode cX11_rule 106 = .ok (.getfield 7, 3) := by decide +kernel
theorem dX11_rule_109 : decode cX11_rule 109 = .ok (.sipush 600, 3) := by decide +kernel
theorem dX11_rule_112 : decode cX11_rule 112 = .ok (.iload_n 1, 1) := by decide +kernel
theorem dX11_rule_113 : decode cX11_rule 113 = .ok (.iadd, 1) := by decide +kernel
theorem dX11_rule_114 : decode cX11_rule 114 = .ok (.iaload, 1) := by decide +kernel
theorem dX11_rule_115 : decode cX11_rule 115 = .ok (.istore 4, 2) := by decide +kernel
theorem dX11_rule_117 : decode cX11_rule 117 = .ok (.aload_n 0, 1) := by decide +kernel
theorem dX11_rule_118 : decode cX11_rule 118 = .ok (.getfield 7, 3) := by decide +kernel
theorem dX11_rule_121 : decode cX11_rule 121 = .ok (.sipush 600, 3) := by decide +kernel
theorem dX11_rule_124 : decode cX11_rule 124 = .ok (.iload_n 1, 1) := by decide +kernel
theorem dX11_rule_125 : decode cX11_rule 125 = .ok (.iadd, 1) := by decide +kernel
theorem dX11_rule_126 : decode cX11_rule 126 = .ok (.iload_n 2, 1) := by decide +kernel
theorem dX11_rule_127 : decode cX11_rule 127 = .ok (.iastore, 1) := by decide +kernel
theorem dX11_rule_128 : decode cX11_rule 128 = .ok (.iload_n 1, 1) := by decide +kernel
theorem dX11_rule_129 : decode cX11_rule 129 = .ok (.iconst 2, 1) := by decide +kernel
theorem dX11_rule_130 : decode cX11_rule 130 = .ok (.if_icmp .ge 7, 3) := by decide +kernel
theorem dX11_rule_133 : decode cX11_rule 133 = .ok (.aload_n 0, 1) := by decide +kernel
theorem dX11_rule_134 : decode cX11_rule 134 = .ok (.invokevirtual 67, 3) := by decide +kernel
theorem dX11_rule_137 : decode cX11_rule 137 = .ok (.iload_n 1, 1) := by decide +kernel
theorem dX11_rule_138 : decode cX11_rule 138 = .ok (.iconst 3, 1) := by decide +kernel
theorem dX11_rule_139 : decode cX11_rule 139 = .ok (.if_icmp .le 30, 3) := by decide +kernel
theorem dX11_rule_142 : decode cX11_rule 142 = .ok (.aload_n 0, 1) := by decide +kernel
theorem dX11_rule_143 : decode cX11_rule 143 = .ok (.getfield 7, 3) := by decide +kernel
theorem dX11_rule_146 : decode cX11_rule 146 = .ok (.sipush 1402, 3) := by decide +kernel
theorem dX11_rule_149 : decode cX11_rule 149 = .ok (.iconst 0, 1) := by decide +kernel
theorem dX11_rule_150 : decode cX11_rule 150 = .ok (.iastore, 1) := by decide +kernel
theorem dX11_rule_151 : decode cX11_rule 151 = .ok (.aload_n 0, 1) := by decide +kernel
theorem dX11_rule_152 : decode cX11_rule 152 = .ok (.getfield 7, 3) := by decide +kernel
theorem dX11_rule_155 : decode cX11_rule 155 = .ok (.sipush 1401, 3) := by decide +kernel
theorem dX11_rule_158 : decode cX11_rule 158 = .ok (.iconst 0, 1) := by decide +kernel
theorem dX11_rule_159 : decode cX11_rule 159 = .ok (.iastore, 1) := by decide +kernel
theorem dX11_rule_160 : decode cX11_rule 160 = .ok (.aload_n 0, 1) := by decide +kernel
theorem dX11_rule_161 : decode cX11_rule 161 = .ok (.getfield 7, 3) := by decide +kernel
theorem dX11_rule_164 : decode cX11_rule 164 = .ok (.sipush 1403, 3) := by decide +kernel
theorem dX11_rule_167 : decode cX11_rule 167 = .ok (.iconst 0, 1) := by decide +kernel
theorem dX11_rule_168 : decode cX11_rule 168 = .ok (.iastore, 1) := by decide +kernel
theorem dX11_rule_169 : decode cX11_rule 169 = .ok (.iload 4, 2) := by decide +kernel
theorem dX11_rule_171 : decode cX11_rule 171 = .ok (.ireturn, 1) := by decide +kernel
theorem dX11_size_0 : decode cX11_size 0 = .ok (.iload_n 1, 1) := by decide +kernel
theorem dX11_size_1 : decode cX11_size 1 = .ok (.invokestatic 63, 3) := by decide +kernel
theorem dX11_size_4 : decode cX11_size 4 = .ok (.ifCond .eq 13, 3) := by decide +kernel
theorem dX11_size_7 : decode cX11_size 7 = .ok (.iload_n 2, 1) := by decide +kernel
theorem dX11_size_8 : decode cX11_size 8 = .ok (.iconst 1, 1) := by decide +kernel
theorem dX11_size_9 : decode cX11_size 9 = .ok (.bipush 20, 2) := by decide +kernel
theorem dX11_size_11 : decode cX11_size 11 = .ok (.invokestatic 59, 3) := by decide +kernel
theorem dX11_size_14 : decode cX11_size 14 = .ok (.ifCond .ne 6, 3) := by decide +kernel
theorem dX11_size_17 : decode cX11_size 17 = .ok (.bipush (-2), 2) := by decide +kernel
theorem dX11_size_19 : decode cX11_size 19 = .ok (.ireturn, 1) := by decide +kernel
theorem dX11_size_20 : decode cX11_size 20 = .ok (.aload_n 0, 1) := by decide +kernel
theorem dX11_size_21 : decode cX11_size 21 = .ok (.iload_n 1, 1) := by decide +kernel
theorem dX11_size_22 : decode cX11_size 22 = .ok (.invokevirtual 70, 3) := by decide +kernel
theorem dX11_size_25 : decode cX11_size 25 = .ok (.ifCond .lt 6, 3) := by decide +kernel
theorem dX11_size_28 : decode cX11_size 28 = .ok (.bipush (-3), 2) := by decide +kernel
theorem dX11_size_30 : decode cX11_size 30 = .ok (.ireturn, 1) := by decide +kernel
theorem dX11_size_31 : decode cX11_size 31 = .ok (.aload_n 0, 1) := by decide +kernel
theorem dX11_size_32 : decode cX11_size 32 = .ok (.getfield 7, 3) := by decide +kernel
theorem dX11_size_35 : decode cX11_size 35 = .ok (.sipush 990, 3) := by decide +kernel
theorem dX11_size_38 : decode cX11_size 38 = .ok (.iload_n 1, 1) := by decide +kernel
theorem dX11_size_39 : decode cX11_size 39 = .ok (.iadd, 1) := by decide +kernel
theorem dX11_size_40 : decode cX11_size 40 = .ok (.iaload, 1) := by decide +kernel
theorem dX11_size_41 : decode cX11_size 41 = .ok (.istore_n 3, 1) := by decide +kernel
theorem dX11_size_42 : decode cX11_size 42 = .ok (.aload_n 0, 1) := by decide +kernel
theorem dX11_size_43 : decode cX11_size 43 = .ok (.getfield 7, 3) := by decide +kernel
theorem dX11_size_46 : decode cX11_size 46 = .ok (.sipush 990, 3) := by decide +kernel
theorem dX11_size_49 : decode cX11_size 49 = .ok (.iload_n 1, 1) := by decide +kernel
theorem dX11_size_50 : decode cX11_size 50 = .ok (.iadd, 1) := by decide +kernel
theorem dX11_size_51 : decode cX11_size 51 = .ok (.iload_n 2, 1) := by decide +kernel
theorem dX11_size_52 : decode cX11_size 52 = .ok (.iastore, 1) := by decide +kernel
theorem dX11_size_53 : decode cX11_size 53 = .ok (.iload_n 3, 1) := by decide +kernel
theorem dX11_size_54 : decode cX11_size 54 = .ok (.ireturn, 1) := by decide +kernel
theorem dX11_cell_0 : decode cX11_cell 0 = .ok (.sipush 606, 3) := by decide +kernel
theorem dX11_cell_3 : decode cX11_cell 3 = .ok (.bipush 64, 2) := by decide +kernel
theorem dX11_cell_5 : decode cX11_cell 5 = .ok (.iload_n 1, 1) := by decide +kernel
theorem dX11_cell_6 : decode cX11_cell 6 = .ok (.imul, 1) := by decide +kernel
theorem dX11_cell_7 : decode cX11_cell 7 = .ok (.iadd, 1) := by decide +kernel
theorem dX11_cell_8 : decode cX11_cell 8 = .ok (.aload_n 0, 1) := by decide +kernel
theorem dX11_cell_9 : decode cX11_cell 9 = .ok (.getfield 7, 3) := by decide +kernel
theorem dX11_cell_12 : decode cX11_cell 12 = .ok (.iconst 0, 1) := by decide +kernel
theorem dX11_cell_13 : decode cX11_cell 13 = .ok (.bipush 100, 2) := by decide +kernel
theorem dX11_cell_15 : decode cX11_cell 15 = .ok (.iload_n 1, 1) := by decide +kernel
theorem dX11_cell_16 : decode cX11_cell 16 = .ok (.imul, 1) := by decide +kernel
theorem dX11_cell_17 : decode cX11_cell 17 = .ok (.iadd, 1) := by decide +kernel
theorem dX11_cell_18 : decode cX11_cell 18 = .ok (.iload_n 2, 1) := by decide +kernel
theorem dX11_cell_19 : decode cX11_cell 19 = .ok (.iadd, 1) := by decide +kernel
theorem dX11_cell_20 : decode cX11_cell 20 = .ok (.iaload, 1) := by decide +kernel
theorem dX11_cell_21 : decode cX11_cell 21 = .ok (.iadd, 1) := by decide +kernel
theorem dX11_cell_22 : decode cX11_cell 22 = .ok (.ireturn, 1) := by decide +kernel
theorem dX11_isThrough_0 : decode cX11_isThrough 0 = .ok (.aload_n 0, 1) := by decide +kernel
theorem dX11_isThrough_1 : decode cX11_isThrough 1 = .ok (.getfield 7, 3) := by decide +kernel
theorem dX11_isThrough_4 : decode cX11_isThrough 4 = .ok (.sipush 862, 3) := by decide +kernel
theorem dX11_isThrough_7 : decode cX11_isThrough 7 = .ok (.aload_n 0, 1) := by decide +kernel
theorem dX11_isThrough_8 : decode cX11_isThrough 8 = .ok (.getfield 7, 3) := by decide +kernel
theorem dX11_isThrough_11 : decode cX11_isThrough 11 = .ok (.sipush 400, 3) := by decide +kernel
theorem dX11_isThrough_14 : decode cX11_isThrough 14 = .ok (.iload_n 1, 1) := by decide +kernel
theorem dX11_isThrough_15 : decode cX11_isThrough 15 = .ok (.iadd, 1) := by decide +kernel
theorem dX11_isThrough_16 : decode cX11_isThrough 16 = .ok (.iaload, 1) := by decide +kernel
theorem dX11_isThrough_17 : decode cX11_isThrough 17 = .ok (.iadd, 1) := by decide +kernel
theorem dX11_isThrough_18 : decode cX11_isThrough 18 = .ok (.iaload, 1) := by decide +kernel
theorem dX11_isThrough_19 : decode cX11_isThrough 19 = .ok (.iconst 1, 1) := by decide +kernel
theorem dX11_isThrough_20 : decode cX11_isThrough 20 = .ok (.if_icmp .ne 30, 3) := by decide +kernel
theorem dX11_isThrough_23 : decode cX11_isThrough 23 = .ok (.aload_n 0, 1) := by decide +kernel
theorem dX11_isThrough_24 : decode cX11_isThrough 24 = .ok (.getfield 7, 3) := by decide +kernel
theorem dX11_isThrough_27 : decode cX11_isThrough 27 = .ok (.sipush 862, 3) := by decide +kernel
theorem dX11_isThrough_30 : decode cX11_isThrough 30 = .ok (.aload_n 0, 1) := by decide +kernel
theorem dX11_isThrough_31 : decode cX11_isThrough 31 = .ok (.getfield 7, 3) := by decide +kernel
theorem dX11_isThrough_34 : decode cX11_isThrough 34 = .ok (.sipush 500, 3) := by decide +kernel
theorem dX11_isThrough_37 : decode cX11_isThrough 37 = .ok (.iload_n 1, 1) := by decide +kernel
theorem dX11_isThrough_38 : decode cX11_isThrough 38 = .ok (.iadd, 1) := by decide +kernel
theorem dX11_isThrough_39 : decode cX11_isThrough 39 = .ok (.iaload, 1) := by decide +kernel
theorem dX11_isThrough_40 : decode cX11_isThrough 40 = .ok (.iadd, 1) := by decide +kernel
theorem dX11_isThrough_41 : decode cX11_isThrough 41 = .ok (.iaload, 1) := by decide +kernel
theorem dX11_isThrough_42 : decode cX11_isThrough 42 = .ok (.iconst 1, 1) := by decide +kernel
theorem dX11_isThrough_43 : decode cX11_isThrough 43 = .ok (.if_icmp .ne 7, 3) := by decide +kernel
theorem dX11_isThrough_46 : decode cX11_isThrough 46 = .ok (.iconst 1, 1) := by decide +kernel
theorem dX11_isThrough_47 : decode cX11_isThrough 47 = .ok (.goto 4, 3) := by decide +kernel
theorem dX11_isThrough_50 : decode cX11_isThrough 50 = .ok (.iconst 0, 1) := by decide +kernel
theorem dX11_isThrough_51 : decode cX11_isThrough 51 = .ok (.ireturn, 1) := by decide +kernel
theorem dX11_smallest_0 : decode cX11_smallest 0 = .ok (.bipush 99, 2) := by decide +kernel
theorem dX11_smallest_2 : decode cX11_smallest 2 = .ok (.istore_n 2, 1) := by decide +kernel
theorem dX11_smallest_3 : decode cX11_smallest 3 = .ok (.iconst 0, 1) := by decide +kernel
theorem dX11_smallest_4 : decode cX11_smallest 4 = .ok (.istore_n 3, 1) := by decide +kernel
theorem dX11_smallest_5 : decode cX11_smallest 5 = .ok (.iload_n 3, 1) := by decide +kernel
theorem dX11_smallest_6 : decode cX11_smallest 6 = .ok (.aload_n 0, 1) := by decide +kernel
theorem dX11_smallest_7 : decode cX11_smallest 7 = .ok (.getfield 48, 3) := by decide +kernel
theorem dX11_smallest_10 : decode cX11_smallest 10 = .ok (.if_icmp .ge 40, 3) := by decide +kernel
theorem dX11_smallest_13 : decode cX11_smallest 13 = .ok (.aload_n 0, 1) := by decide +kernel
theorem dX11_smallest_14 : decode cX11_smallest 14 = .ok (.getfield 7, 3) := by decide +kernel
theorem dX11_smallest_17 : decode cX11_smallest 17 = .ok (.aload_n 0, 1) := by decide +kernel
theorem dX11_smallest_18 : decode cX11_smallest 18 = .ok (.iload_n 3, 1) := by decide +kernel
theorem dX11_smallest_19 : decode cX11_smallest 19 = .ok (.iload_n 1, 1) := by decide +kernel
theorem dX11_smallest_20 : decode cX11_smallest 20 = .ok (.invokevirtual 74, 3) := by decide +kernel
theorem dX11_smallest_23 : decode cX11_smallest 23 = .ok (.iaload, 1) := by decide +kernel
theorem dX11_smallest_24 : decode cX11_smallest 24 = .ok (.iload_n 2, 1) := by decide +kernel
theorem dX11_smallest_25 : decode cX11_smallest 25 = .ok (.if_icmp .ge 17, 3) := by decide +kernel
theorem dX11_smallest_28 : decode cX11_smallest 28 = .ok (.aload_n 0, 1) := by decide +kernel
theorem dX11_smallest_29 : decode cX11_smallest 29 = .ok (.getfield 7, 3) := by decide +kernel
theorem dX11_smallest_32 : decode cX11_smallest 32 = .ok (.aload_n 0, 1) := by decide +kernel
theorem dX11_smallest_33 : decode cX11_smallest 33 = .ok (.iload_n 3, 1) := by decide +kernel
theorem dX11_smallest_34 : decode cX11_smallest 34 = .ok (.iload_n 1, 1) := by decide +kernel
theorem dX11_smallest_35 : decode cX11_smallest 35 = .ok (.invokevirtual 74, 3) := by decide +kernel
theorem dX11_smallest_38 : decode cX11_smallest 38 = .ok (.iaload, 1) := by decide +kernel
theorem dX11_smallest_39 : decode cX11_smallest 39 = .ok (.goto 4, 3) := by decide +kernel
theorem dX11_smallest_42 : decode cX11_smallest 42 = .ok (.iload_n 2, 1) := by decide +kernel
theorem dX11_smallest_43 : decode cX11_smallest 43 = .ok (.istore_n 2, 1) := by decide +kernel
theorem dX11_smallest_44 : decode cX11_smallest 44 = .ok (.iinc 3 1, 3) := by decide +kernel
theorem dX11_smallest_47 : decode cX11_smallest 47 = .ok (.goto (-42), 3) := by decide +kernel
theorem dX11_smallest_50 : decode cX11_smallest 50 = .ok (.iload_n 2, 1) := by decide +kernel
theorem dX11_smallest_51 : decode cX11_smallest 51 = .ok (.ireturn, 1) := by decide +kernel
theorem dX11_estimated_0 : decode cX11_estimated 0 = .ok (.aload_n 0, 1) := by decide +kernel
theorem dX11_estimated_1 : decode cX11_estimated 1 = .ok (.iload_n 1, 1) := by decide +kernel
theorem dX11_estimated_2 : decode cX11_estimated 2 = .ok (.invokevirtual 78, 3) := by decide +kernel
theorem dX11_estimated_5 : decode cX11_estimated 5 = .ok (.aload_n 0, 1) := by decide +kernel
theorem dX11_estimated_6 : decode cX11_estimated 6 = .ok (.getfield 7, 3) := by decide +kernel
theorem dX11_estimated_9 : decode cX11_estimated 9 = .ok (.sipush 600, 3) := by decide +kernel
theorem dX11_estimated_12 : decode cX11_estimated 12 = .ok (.iaload, 1) := by decide +kernel
theorem dX11_estimated_13 : decode cX11_estimated 13 = .ok (.iconst 1, 1) := by decide +kernel
theorem dX11_estimated_14 : decode cX11_estimated 14 = .ok (.if_icmp .ne 15, 3) := by decide +kernel
theorem dX11_estimated_17 : decode cX11_estimated 17 = .ok (.aload_n 0, 1) := by decide +kernel
theorem dX11_estimated_18 : decode cX11_estimated 18 = .ok (.iload_n 1, 1) := by decide +kernel
theorem dX11_estimated_19 : decode cX11_estimated 19 = .ok (.invokevirtual 81, 3) := by decide +kernel
theorem dX11_estimated_22 : decode cX11_estimated 22 = .ok (.ifCond .eq 7, 3) := by decide +kernel
theorem dX11_estimated_25 : decode cX11_estimated 25 = .ok (.iconst 1, 1) := by decide +kernel
theorem dX11_estimated_26 : decode cX11_estimated 26 = .ok (.goto 4, 3) := by decide +kernel
theorem dX11_estimated_29 : decode cX11_estimated 29 = .ok (.iconst 0, 1) := by decide +kernel
theorem dX11_estimated_30 : decode cX11_estimated 30 = .ok (.iadd, 1) := by decide +kernel
theorem dX11_estimated_31 : decode cX11_estimated 31 = .ok (.ireturn, 1) := by decide +kernel
theorem dX11_count_0 : decode cX11_count 0 = .ok (.aload_n 0, 1) := by decide +kernel
theorem dX11_count_1 : decode cX11_count 1 = .ok (.getfield 7, 3) := by decide +kernel
theorem dX11_count_4 : decode cX11_count 4 = .ok (.sipush 1395, 3) := by decide +kernel
theorem dX11_count_7 : decode cX11_count 7 = .ok (.dup2, 1) := by decide +kernel
theorem dX11_count_8 : decode cX11_count 8 = .ok (.iaload, 1) := by decide +kernel
theorem dX11_count_9 : decode cX11_count 9 = .ok (.iconst 1, 1) := by decide +kernel
theorem dX11_count_10 : decode cX11_count 10 = .ok (.iadd, 1) := by decide +kernel
theorem dX11_count_11 : decode cX11_count 11 = .ok (.iastore, 1) := by decide +kernel
theorem dX11_count_12 : decode cX11_count 12 = .ok (.aload_n 0, 1) := by decide +kernel
theorem dX11_count_13 : decode cX11_count 13 = .ok (.getfield 7, 3) := by decide +kernel
theorem dX11_count_16 : decode cX11_count 16 = .ok (.sipush 1705, 3) := by decide +kernel
theorem dX11_count_19 : decode cX11_count 19 = .ok (.iload_n 1, 1) := by decide +kernel
theorem dX11_count_20 : decode cX11_count 20 = .ok (.iadd, 1) := by decide +kernel
theorem dX11_count_21 : decode cX11_count 21 = .ok (.dup2, 1) := by decide +kernel
theorem dX11_count_22 : decode cX11_count 22 = .ok (.iaload, 1) := by decide +kernel
theorem dX11_count_23 : decode cX11_count 23 = .ok (.iconst 1, 1) := by decide +kernel
theorem dX11_count_24 : decode cX11_count 24 = .ok (.iadd, 1) := by decide +kernel
theorem dX11_count_25 : decode cX11_count 25 = .ok (.iastore, 1) := by decide +kernel
theorem dX11_count_26 : decode cX11_count 26 = .ok (.aload_n 0, 1) := by decide +kernel
theorem dX11_count_27 : decode cX11_count 27 = .ok (.getfield 7, 3) := by decide +kernel
theorem dX11_count_30 : decode cX11_count 30 = .ok (.sipush 600, 3) := by decide +kernel
theorem dX11_count_33 : decode cX11_count 33 = .ok (.iaload, 1) := by decide +kernel
theorem dX11_count_34 : decode cX11_count 34 = .ok (.iconst 1, 1) := by decide +kernel
theorem dX11_count_35 : decode cX11_count 35 = .ok (.if_icmp .ne 54, 3) := by decide +kernel
theorem dX11_count_38 : decode cX11_count 38 = .ok (.aload_n 0, 1) := by decide +kernel
theorem dX11_count_39 : decode cX11_count 39 = .ok (.iload_n 1, 1) := by decide +kernel
theorem dX11_count_40 : decode cX11_count 40 = .ok (.invokevirtual 81, 3) := by decide +kernel
theorem dX11_count_43 : decode cX11_count 43 = .ok (.ifCond .ne 46, 3) := by decide +kernel
theorem dX11_count_46 : decode cX11_count 46 = .ok (.aload_n 0, 1) := by decide +kernel
theorem dX11_count_47 : decode cX11_count 47 = .ok (.getfield 7, 3) := by decide +kernel
theorem dX11_count_50 : decode cX11_count 50 = .ok (.sipush 862, 3) := by decide +kernel
theorem dX11_count_53 : decode cX11_count 53 = .ok (.aload_n 0, 1) := by decide +kernel
theorem dX11_count_54 : decode cX11_count 54 = .ok (.getfield 7, 3) := by decide +kernel
theorem dX11_count_57 : decode cX11_count 57 = .ok (.sipush 400, 3) := by decide +kernel
theorem dX11_count_60 : decode cX11_count 60 = .ok (.iload_n 1, 1) := by decide +kernel
theorem dX11_count_61 : decode cX11_count 61 = .ok (.iadd, 1) := by decide +kernel
theorem dX11_count_62 : decode cX11_count 62 = .ok (.iaload, 1) := by decide +kernel
theorem dX11_count_63 : decode cX11_count 63 = .ok (.iadd, 1) := by decide +kernel
theorem dX11_count_64 : decode cX11_count 64 = .ok (.iconst 1, 1) := by decide +kernel
theorem dX11_count_65 : decode cX11_count 65 = .ok (.iastore, 1) := by decide +kernel
theorem dX11_count_66 : decode cX11_count 66 = .ok (.aload_n 0, 1) := by decide +kernel
theorem dX11_count_67 : decode cX11_count 67 = .ok (.getfield 7, 3) := by decide +kernel
theorem dX11_count_70 : decode cX11_count 70 = .ok (.sipush 862, 3) := by decide +kernel
theorem dX11_count_73 : decode cX11_count 73 = .ok (.aload_n 0, 1) := by decide +kernel
theorem dX11_count_74 : decode cX11_count 74 = .ok (.getfield 7, 3) := by decide +kernel
theorem dX11_count_77 : decode cX11_count 77 = .ok (.sipush 500, 3) := by decide +kernel
theorem dX11_count_80 : decode cX11_count 80 = .ok (.iload_n 1, 1) := by decide +kernel
theorem dX11_count_81 : decode cX11_count 81 = .ok (.iadd, 1) := by decide +kernel
theorem dX11_count_82 : decode cX11_count 82 = .ok (.iaload, 1) := by decide +kernel
theorem dX11_count_83 : decode cX11_count 83 = .ok (.iadd, 1) := by decide +kernel
theorem dX11_count_84 : decode cX11_count 84 = .ok (.iconst 1, 1) := by decide +kernel
theorem dX11_count_85 : decode cX11_count 85 = .ok (.iastore, 1) := by decide +kernel
theorem dX11_count_86 : decode cX11_count 86 = .ok (.goto 78, 3) := by decide +kernel
theorem dX11_count_89 : decode cX11_count 89 = .ok (.aload_n 0, 1) := by decide +kernel
theorem dX11_count_90 : decode cX11_count 90 = .ok (.iload_n 1, 1) := by decide +kernel
theorem dX11_count_91 : decode cX11_count 91 = .ok (.invokevirtual 78, 3) := by decide +kernel
theorem dX11_count_94 : decode cX11_count 94 = .ok (.istore_n 2, 1) := by decide +kernel
theorem dX11_count_95 : decode cX11_count 95 = .ok (.iconst 0, 1) := by decide +kernel
theorem dX11_count_96 : decode cX11_count 96 = .ok (.istore_n 3, 1) := by decide +kernel
theorem dX11_count_97 : decode cX11_count 97 = .ok (.iload_n 3, 1) := by decide +kernel
theorem dX11_count_98 : decode cX11_count 98 = .ok (.aload_n 0, 1) := by decide +kernel
theorem dX11_count_99 : decode cX11_count 99 = .ok (.getfield 48, 3) := by decide +kernel
theorem dX11_count_102 : decode cX11_count 102 = .ok (.if_icmp .ge 62, 3) := by decide +kernel
theorem dX11_count_105 : decode cX11_count 105 = .ok (.aload_n 0, 1) := by decide +kernel
theorem dX11_count_106 : decode cX11_count 106 = .ok (.iload_n 3, 1) := by decide +kernel
theorem dX11_count_107 : decode cX11_count 107 = .ok (.iload_n 1, 1) := by decide +kernel
theorem dX11_count_108 : decode cX11_count 108 = .ok (.invokevirtual 74, 3) := by decide +kernel
theorem dX11_count_111 : decode cX11_count 111 = .ok (.istore 4, 2) := by decide +kernel
theorem dX11_count_113 : decode cX11_count 113 = .ok (.aload_n 0, 1) := by decide +kernel
theorem dX11_count_114 : decode cX11_count 114 = .ok (.getfield 7, 3) := by decide +kernel
theorem dX11_count_117 : decode cX11_count 117 = .ok (.iload 4, 2) := by decide +kernel
theorem dX11_count_119 : decode cX11_count 119 = .ok (.iaload, 1) := by decide +kernel
theorem dX11_count_120 : decode cX11_count 120 = .ok (.bipush 15, 2) := by decide +kernel
theorem dX11_count_122 : decode cX11_count 122 = .ok (.if_icmp .ge 36, 3) := by decide +kernel
theorem dX11_count_125 : decode cX11_count 125 = .ok (.aload_n 0, 1) := by decide +kernel
theorem dX11_count_126 : decode cX11_count 126 = .ok (.getfield 7, 3) := by decide +kernel
theorem dX11_count_129 : decode cX11_count 129 = .ok (.sipush 601, 3) := by decide +kernel
theorem dX11_count_132 : decode cX11_count 132 = .ok (.iaload, 1) := by decide +kernel
theorem dX11_count_133 : decode cX11_count 133 = .ok (.ifCond .eq 14, 3) := by decide +kernel
theorem dX11_count_136 : decode cX11_count 136 = .ok (.aload_n 0, 1) := by decide +kernel
theorem dX11_count_137 : decode cX11_count 137 = .ok (.getfield 7, 3) := by decide +kernel
theorem dX11_count_140 : decode cX11_count 140 = .ok (.iload 4, 2) := by decide +kernel
theorem dX11_count_142 : decode cX11_count 142 = .ok (.iaload, 1) := by decide +kernel
theorem dX11_count_143 : decode cX11_count 143 = .ok (.iload_n 2, 1) := by decide +kernel
theorem dX11_count_144 : decode cX11_count 144 = .ok (.if_icmp .ne 14, 3) := by decide +kernel
theorem dX11_count_147 : decode cX11_count 147 = .ok (.aload_n 0, 1) := by decide +kernel
theorem dX11_count_148 : decode cX11_count 148 = .ok (.getfield 7, 3) := by decide +kernel
theorem dX11_count_151 : decode cX11_count 151 = .ok (.iload 4, 2) := by decide +kernel
theorem dX11_count_153 : decode cX11_count 153 = .ok (.dup2, 1) := by decide +kernel
theorem dX11_count_154 : decode cX11_count 154 = .ok (.iaload, 1) := by decide +kernel
theorem dX11_count_155 : decode cX11_count 155 = .ok (.iconst 1, 1) := by decide +kernel
theorem dX11_count_156 : decode cX11_count 156 = .ok (.iadd, 1) := by decide +kernel
theorem dX11_count_157 : decode cX11_count 157 = .ok (.iastore, 1) := by decide +kernel
theorem dX11_count_158 : decode cX11_count 158 = .ok (.iinc 3 1, 3) := by decide +kernel
theorem dX11_count_161 : decode cX11_count 161 = .ok (.goto (-64), 3) := by decide +kernel
theorem dX11_count_164 : decode cX11_count 164 = .ok (.aload_n 0, 1) := by decide +kernel
theorem dX11_count_165 : decode cX11_count 165 = .ok (.getfield 7, 3) := by decide +kernel
theorem dX11_count_168 : decode cX11_count 168 = .ok (.sipush 1395, 3) := by decide +kernel
theorem dX11_count_171 : decode cX11_count 171 = .ok (.iaload, 1) := by decide +kernel
theorem dX11_count_172 : decode cX11_count 172 = .ok (.aload_n 0, 1) := by decide +kernel
theorem dX11_count_173 : decode cX11_count 173 = .ok (.getfield 7, 3) := by decide +kernel
theorem dX11_count_176 : decode cX11_count 176 = .ok (.sipush 602, 3) := by decide +kernel
theorem dX11_count_179 : decode cX11_count 179 = .ok (.iaload, 1) := by decide +kernel
theorem dX11_count_180 : decode cX11_count 180 = .ok (.if_icmp .lt 92, 3) := by decide +kernel
theorem dX11_count_183 : decode cX11_count 183 = .ok (.iconst 0, 1) := by decide +kernel
theorem dX11_count_184 : decode cX11_count 184 = .ok (.istore_n 2, 1) := by decide +kernel
theorem dX11_count_185 : decode cX11_count 185 = .ok (.iload_n 2, 1) := by decide +kernel
theorem dX11_count_186 : decode cX11_count 186 = .ok (.sipush 256, 3) := by decide +kernel
theorem dX11_count_189 : decode cX11_count 189 = .ok (.if_icmp .ge 23, 3) := by decide +kernel
theorem dX11_count_192 : decode cX11_count 192 = .ok (.aload_n 0, 1) := by decide +kernel
theorem dX11_count_193 : decode cX11_count 193 = .ok (.getfield 7, 3) := by decide +kernel
theorem dX11_count_196 : decode cX11_count 196 = .ok (.sipush 606, 3) := by decide +kernel
theorem dX11_count_199 : decode cX11_count 199 = .ok (.iload_n 2, 1) := by decide +kernel
theorem dX11_count_200 : decode cX11_count 200 = .ok (.iadd, 1) := by decide +kernel
theorem dX11_count_201 : decode cX11_count 201 = .ok (.dup2, 1) := by decide +kernel
theorem dX11_count_202 : decode cX11_count 202 = .ok (.iaload, 1) := by decide +kernel
theorem dX11_count_203 : decode cX11_count 203 = .ok (.iconst 2, 1) := by decide +kernel
theorem dX11_count_204 : decode cX11_count 204 = .ok (.idiv, 1) := by decide +kernel
theorem dX11_count_205 : decode cX11_count 205 = .ok (.iastore, 1) := by decide +kernel
theorem dX11_count_206 : decode cX11_count 206 = .ok (.iinc 2 1, 3) := by decide +kernel
theorem dX11_count_209 : decode cX11_count 209 = .ok (.goto (-24), 3) := by decide +kernel
theorem dX11_count_212 : decode cX11_count 212 = .ok (.iconst 0, 1) := by decide +kernel
theorem dX11_count_213 : decode cX11_count 213 = .ok (.istore_n 2, 1) := by decide +kernel
theorem dX11_count_214 : decode cX11_count 214 = .ok (.iload_n 2, 1) := by decide +kernel
theorem dX11_count_215 : decode cX11_count 215 = .ok (.sipush 128, 3) := by decide +kernel
theorem dX11_count_218 : decode cX11_count 218 = .ok (.if_icmp .ge 20, 3) := by decide +kernel
theorem dX11_count_221 : decode cX11_count 221 = .ok (.aload_n 0, 1) := by decide +kernel
theorem dX11_count_222 : decode cX11_count 222 = .ok (.getfield 7, 3) := by decide +kernel
theorem dX11_count_225 : decode cX11_count 225 = .ok (.sipush 862, 3) := by decide +kernel
theorem dX11_count_228 : decode cX11_count 228 = .ok (.iload_n 2, 1) := by decide +kernel
theorem dX11_count_229 : decode cX11_count 229 = .ok (.iadd, 1) := by decide +kernel
theorem dX11_count_230 : decode cX11_count 230 = .ok (.iconst 0, 1) := by decide +kernel
theorem dX11_count_231 : decode cX11_count 231 = .ok (.iastore, 1) := by decide +kernel
theorem dX11_count_232 : decode cX11_count 232 = .ok (.iinc 2 1, 3) := by decide +kernel
theorem dX11_count_235 : decode cX11_count 235 = .ok (.goto (-21), 3) := by decide +kernel
theorem dX11_count_238 : decode cX11_count 238 = .ok (.aload_n 0, 1) := by decide +kernel
theorem dX11_count_239 : decode cX11_count 239 = .ok (.getfield 7, 3) := by decide +kernel
theorem dX11_count_242 : decode cX11_count 242 = .ok (.sipush 1395, 3) := by decide +kernel
theorem dX11_count_245 : decode cX11_count 245 = .ok (.aload_n 0, 1) := by decide +kernel
theorem dX11_count_246 : decode cX11_count 246 = .ok (.getfield 7, 3) := by decide +kernel
theorem dX11_count_249 : decode cX11_count 249 = .ok (.sipush 602, 3) := by decide +kernel
theorem dX11_count_252 : decode cX11_count 252 = .ok (.iaload, 1) := by decide +kernel
theorem dX11_count_253 : decode cX11_count 253 = .ok (.iconst 2, 1) := by decide +kernel
theorem dX11_count_254 : decode cX11_count 254 = .ok (.idiv, 1) := by decide +kernel
theorem dX11_count_255 : decode cX11_count 255 = .ok (.iastore, 1) := by decide +kernel
theorem dX11_count_256 : decode cX11_count 256 = .ok (.aload_n 0, 1) := by decide +kernel
theorem dX11_count_257 : decode cX11_count 257 = .ok (.getfield 7, 3) := by decide +kernel
theorem dX11_count_260 : decode cX11_count 260 = .ok (.sipush 1396, 3) := by decide +kernel
theorem dX11_count_263 : decode cX11_count 263 = .ok (.dup2, 1) := by decide +kernel
theorem dX11_count_264 : decode cX11_count 264 = .ok (.iaload, 1) := by decide +kernel
theorem dX11_count_265 : decode cX11_count 265 = .ok (.iconst 1, 1) := by decide +kernel
theorem dX11_count_266 : decode cX11_count 266 = .ok (.iadd, 1) := by decide +kernel
theorem dX11_count_267 : decode cX11_count 267 = .ok (.iastore, 1) := by decide +kernel
theorem dX11_count_268 : decode cX11_count 268 = .ok (.aload_n 0, 1) := by decide +kernel
theorem dX11_count_269 : decode cX11_count 269 = .ok (.invokevirtual 67, 3) := by decide +kernel
theorem dX11_count_272 : decode cX11_count 272 = .ok (.return_, 1) := by decide +kernel
theorem dX11_length_0 : decode cX11_length 0 = .ok (.aload_n 0, 1) := by decide +kernel
theorem dX11_length_1 : decode cX11_length 1 = .ok (.getfield 7, 3) := by decide +kernel
theorem dX11_length_4 : decode cX11_length 4 = .ok (.sipush 1390, 3) := by decide +kernel
theorem dX11_length_7 : decode cX11_length 7 = .ok (.iload_n 1, 1) := by decide +kernel
theorem dX11_length_8 : decode cX11_length 8 = .ok (.iadd, 1) := by decide +kernel
theorem dX11_length_9 : decode cX11_length 9 = .ok (.iaload, 1) := by decide +kernel
theorem dX11_length_10 : decode cX11_length 10 = .ok (.ireturn, 1) := by decide +kernel
theorem dX11_keyAt_0 : decode cX11_keyAt 0 = .ok (.aload_n 0, 1) := by decide +kernel
theorem dX11_keyAt_1 : decode cX11_keyAt 1 = .ok (.getfield 7, 3) := by decide +kernel
theorem dX11_keyAt_4 : decode cX11_keyAt 4 = .ok (.sipush 1090, 3) := by decide +kernel
theorem dX11_keyAt_7 : decode cX11_keyAt 7 = .ok (.bipush 100, 2) := by decide +kernel
theorem dX11_keyAt_9 : decode cX11_keyAt 9 = .ok (.iload_n 1, 1) := by decide +kernel
theorem dX11_keyAt_10 : decode cX11_keyAt 10 = .ok (.imul, 1) := by decide +kernel
theorem dX11_keyAt_11 : decode cX11_keyAt 11 = .ok (.iadd, 1) := by decide +kernel
theorem dX11_keyAt_12 : decode cX11_keyAt 12 = .ok (.iload_n 2, 1) := by decide +kernel
theorem dX11_keyAt_13 : decode cX11_keyAt 13 = .ok (.iadd, 1) := by decide +kernel
theorem dX11_keyAt_14 : decode cX11_keyAt 14 = .ok (.iaload, 1) := by decide +kernel
theorem dX11_keyAt_15 : decode cX11_keyAt 15 = .ok (.ireturn, 1) := by decide +kernel
theorem dX11_indexOf_0 : decode cX11_indexOf 0 = .ok (.iconst 0, 1) := by decide +kernel
theorem dX11_indexOf_1 : decode cX11_indexOf 1 = .ok (.istore_n 3, 1) := by decide +kernel
theorem dX11_indexOf_2 : decode cX11_indexOf 2 = .ok (.iload_n 3, 1) := by decide +kernel
theorem dX11_indexOf_3 : decode cX11_indexOf 3 = .ok (.aload_n 0, 1) := by decide +kernel
theorem dX11_indexOf_4 : decode cX11_indexOf 4 = .ok (.iload_n 1, 1) := by decide +kernel
theorem dX11_indexOf_5 : decode cX11_indexOf 5 = .ok (.invokevirtual 84, 3) := by decide +kernel
theorem dX11_indexOf_8 : decode cX11_indexOf 8 = .ok (.if_icmp .ge 21, 3) := by decide +kernel
theorem dX11_indexOf_11 : decode cX11_indexOf 11 = .ok (.aload_n 0, 1) := by decide +kernel
theorem dX11_indexOf_12 : decode cX11_indexOf 12 = .ok (.iload_n 1, 1) := by decide +kernel
theorem dX11_indexOf_13 : decode cX11_indexOf 13 = .ok (.iload_n 3, 1) := by decide +kernel
theorem dX11_indexOf_14 : decode cX11_indexOf 14 = .ok (.invokevirtual 87, 3) := by decide +kernel
theorem dX11_indexOf_17 : decode cX11_indexOf 17 = .ok (.iload_n 2, 1) := by decide +kernel
theorem dX11_indexOf_18 : decode cX11_indexOf 18 = .ok (.if_icmp .ne 5, 3) := by decide +kernel
theorem dX11_indexOf_21 : decode cX11_indexOf 21 = .ok (.iload_n 3, 1) := by decide +kernel
theorem dX11_indexOf_22 : decode cX11_indexOf 22 = .ok (.ireturn, 1) := by decide +kernel
theorem dX11_indexOf_23 : decode cX11_indexOf 23 = .ok (.iinc 3 1, 3) := by decide +kernel
theorem dX11_indexOf_26 : decode cX11_indexOf 26 = .ok (.goto (-24), 3) := by decide +kernel
theorem dX11_indexOf_29 : decode cX11_indexOf 29 = .ok (.iconst (-1), 1) := by decide +kernel
theorem dX11_indexOf_30 : decode cX11_indexOf 30 = .ok (.ireturn, 1) := by decide +kernel
theorem dX11_partOf_0 : decode cX11_partOf 0 = .ok (.iconst 0, 1) := by decide +kernel
theorem dX11_partOf_1 : decode cX11_partOf 1 = .ok (.istore_n 2, 1) := by decide +kernel
theorem dX11_partOf_2 : decode cX11_partOf 2 = .ok (.iload_n 2, 1) := by decide +kernel
theorem dX11_partOf_3 : decode cX11_partOf 3 = .ok (.iconst 3, 1) := by decide +kernel
theorem dX11_partOf_4 : decode cX11_partOf 4 = .ok (.if_icmp .ge 20, 3) := by decide +kernel
theorem dX11_partOf_7 : decode cX11_partOf 7 = .ok (.aload_n 0, 1) := by decide +kernel
theorem dX11_partOf_8 : decode cX11_partOf 8 = .ok (.iload_n 2, 1) := by decide +kernel
theorem dX11_partOf_9 : decode cX11_partOf 9 = .ok (.iload_n 1, 1) := by decide +kernel
theorem dX11_partOf_10 : decode cX11_partOf 10 = .ok (.invokevirtual 90, 3) := by decide +kernel
theorem dX11_partOf_13 : decode cX11_partOf 13 = .ok (.ifCond .lt 5, 3) := by decide +kernel
theorem dX11_partOf_16 : decode cX11_partOf 16 = .ok (.iload_n 2, 1) := by decide +kernel
theorem dX11_partOf_17 : decode cX11_partOf 17 = .ok (.ireturn, 1) := by decide +kernel
theorem dX11_partOf_18 : decode cX11_partOf 18 = .ok (.iinc 2 1, 3) := by decide +kernel
theorem dX11_partOf_21 : decode cX11_partOf 21 = .ok (.goto (-19), 3) := by decide +kernel
theorem dX11_partOf_24 : decode cX11_partOf 24 = .ok (.iconst (-1), 1) := by decide +kernel
theorem dX11_partOf_25 : decode cX11_partOf 25 = .ok (.ireturn, 1) := by decide +kernel
theorem dX11_units_0 : decode cX11_units 0 = .ok (.iconst 0, 1) := by decide +kernel
theorem dX11_units_1 : decode cX11_units 1 = .ok (.istore_n 2, 1) := by decide +kernel
theorem dX11_units_2 : decode cX11_units 2 = .ok (.iconst 0, 1) := by decide +kernel
theorem dX11_units_3 : decode cX11_units 3 = .ok (.istore_n 3, 1) := by decide +kernel
theorem dX11_units_4 : decode cX11_units 4 = .ok (.iload_n 3, 1) := by decide +kernel
theorem dX11_units_5 : decode cX11_units 5 = .ok (.aload_n 0, 1) := by decide +kernel
theorem dX11_units_6 : decode cX11_units 6 = .ok (.iload_n 1, 1) := by decide +kernel
theorem dX11_units_7 : decode cX11_units 7 = .ok (.invokevirtual 84, 3) := by decide +kernel
theorem dX11_units_10 : decode cX11_units 10 = .ok (.if_icmp .ge 27, 3) := by decide +kernel
theorem dX11_units_13 : decode cX11_units 13 = .ok (.iload_n 2, 1) := by decide +kernel
theorem dX11_units_14 : decode cX11_units 14 = .ok (.aload_n 0, 1) := by decide +kernel
theorem dX11_units_15 : decode cX11_units 15 = .ok (.getfield 7, 3) := by decide +kernel
theorem dX11_units_18 : decode cX11_units 18 = .ok (.sipush 990, 3) := by decide +kernel
theorem dX11_units_21 : decode cX11_units 21 = .ok (.aload_n 0, 1) := by decide +kernel
theorem dX11_units_22 : decode cX11_units 22 = .ok (.iload_n 1, 1) := by decide +kernel
theorem dX11_units_23 : decode cX11_units 23 = .ok (.iload_n 3, 1) := by decide +kernel
theorem dX11_units_24 : decode cX11_units 24 = .ok (.invokevirtual 87, 3) := by decide +kernel
theorem dX11_units_27 : decode cX11_units 27 = .ok (.iadd, 1) := by decide +kernel
theorem dX11_units_28 : decode cX11_units 28 = .ok (.iaload, 1) := by decide +kernel
theorem dX11_units_29 : decode cX11_units 29 = .ok (.iadd, 1) := by decide +kernel
theorem dX11_units_30 : decode cX11_units 30 = .ok (.istore_n 2, 1) := by decide +kernel
theorem dX11_units_31 : decode cX11_units 31 = .ok (.iinc 3 1, 3) := by decide +kernel
theorem dX11_units_34 : decode cX11_units 34 = .ok (.goto (-30), 3) := by decide +kernel
theorem dX11_units_37 : decode cX11_units 37 = .ok (.iload_n 2, 1) := by decide +kernel
theorem dX11_units_38 : decode cX11_units 38 = .ok (.ireturn, 1) := by decide +kernel
theorem dX11_inMain_0 : decode cX11_inMain 0 = .ok (.aload_n 0, 1) := by decide +kernel
theorem dX11_inMain_1 : decode cX11_inMain 1 = .ok (.iconst 1, 1) := by decide +kernel
theorem dX11_inMain_2 : decode cX11_inMain 2 = .ok (.invokevirtual 93, 3) := by decide +kernel
theorem dX11_inMain_5 : decode cX11_inMain 5 = .ok (.aload_n 0, 1) := by decide +kernel
theorem dX11_inMain_6 : decode cX11_inMain 6 = .ok (.iconst 2, 1) := by decide +kernel
theorem dX11_inMain_7 : decode cX11_inMain 7 = .ok (.invokevirtual 93, 3) := by decide +kernel
theorem dX11_inMain_10 : decode cX11_inMain 10 = .ok (.iadd, 1) := by decide +kernel
theorem dX11_inMain_11 : decode cX11_inMain 11 = .ok (.ireturn, 1) := by decide +kernel
theorem dX11_append_0 : decode cX11_append 0 = .ok (.aload_n 0, 1) := by decide +kernel
theorem dX11_append_1 : decode cX11_append 1 = .ok (.getfield 7, 3) := by decide +kernel
theorem dX11_append_4 : decode cX11_append 4 = .ok (.sipush 1090, 3) := by decide +kernel
theorem dX11_append_7 : decode cX11_append 7 = .ok (.bipush 100, 2) := by decide +kernel
theorem dX11_append_9 : decode cX11_append 9 = .ok (.iload_n 1, 1) := by decide +kernel
theorem dX11_append_10 : decode cX11_append 10 = .ok (.imul, 1) := by decide +kernel
theorem dX11_append_11 : decode cX11_append 11 = .ok (.iadd, 1) := by decide +kernel
theorem dX11_append_12 : decode cX11_append 12 = .ok (.aload_n 0, 1) := by decide +kernel
theorem dX11_append_13 : decode cX11_append 13 = .ok (.iload_n 1, 1) := by decide +kernel
theorem dX11_append_14 : decode cX11_append 14 = .ok (.invokevirtual 84, 3) := by decide +kernel
theorem dX11_append_17 : decode cX11_append 17 = .ok (.iadd, 1) := by decide +kernel
theorem dX11_append_18 : decode cX11_append 18 = .ok (.iload_n 2, 1) := by decide +kernel
theorem dX11_append_19 : decode cX11_append 19 = .ok (.iastore, 1) := by decide +kernel
theorem dX11_append_20 : decode cX11_append 20 = .ok (.aload_n 0, 1) := by decide +kernel
theorem dX11_append_21 : decode cX11_append 21 = .ok (.getfield 7, 3) := by decide +kernel
theorem dX11_append_24 : decode cX11_append 24 = .ok (.sipush 1390, 3) := by decide +kernel
theorem dX11_append_27 : decode cX11_append 27 = .ok (.iload_n 1, 1) := by decide +kernel
theorem dX11_append_28 : decode cX11_append 28 = .ok (.iadd, 1) := by decide +kernel
theorem dX11_append_29 : decode cX11_append 29 = .ok (.dup2, 1) := by decide +kernel
theorem dX11_append_30 : decode cX11_append 30 = .ok (.iaload, 1) := by decide +kernel
theorem dX11_append_31 : decode cX11_append 31 = .ok (.iconst 1, 1) := by decide +kernel
theorem dX11_append_32 : decode cX11_append 32 = .ok (.iadd, 1) := by decide +kernel
theorem dX11_append_33 : decode cX11_append 33 = .ok (.iastore, 1) := by decide +kernel
theorem dX11_append_34 : decode cX11_append 34 = .ok (.return_, 1) := by decide +kernel
theorem dX11_take_0 : decode cX11_take 0 = .ok (.aload_n 0, 1) := by decide +kernel
theorem dX11_take_1 : decode cX11_take 1 = .ok (.iload_n 1, 1) := by decide +kernel
theorem dX11_take_2 : decode cX11_take 2 = .ok (.iload_n 2, 1) := by decide +kernel
theorem dX11_take_3 : decode cX11_take 3 = .ok (.invokevirtual 87, 3) := by decide +kernel
theorem dX11_take_6 : decode cX11_take 6 = .ok (.istore_n 3, 1) := by decide +kernel
theorem dX11_take_7 : decode cX11_take 7 = .ok (.iload_n 2, 1) := by decide +kernel
theorem dX11_take_8 : decode cX11_take 8 = .ok (.iconst 1, 1) := by decide +kernel
theorem dX11_take_9 : decode cX11_take 9 = .ok (.iadd, 1) := by decide +kernel
theorem dX11_take_10 : decode cX11_take 10 = .ok (.istore 4, 2) := by decide +kernel
theorem dX11_take_12 : decode cX11_take 12 = .ok (.iload 4, 2) := by decide +kernel
theorem dX11_take_14 : decode cX11_take 14 = .ok (.aload_n 0, 1) := by decide +kernel
theorem dX11_take_15 : decode cX11_take 15 = .ok (.iload_n 1, 1) := by decide +kernel
theorem dX11_take_16 : decode cX11_take 16 = .ok (.invokevirtual 84, 3) := by decide +kernel
theorem dX11_take_19 : decode cX11_take 19 = .ok (.if_icmp .ge 34, 3) := by decide +kernel
theorem dX11_take_22 : decode cX11_take 22 = .ok (.aload_n 0, 1) := by decide +kernel
theorem dX11_take_23 : decode cX11_take 23 = .ok (.getfield 7, 3) := by decide +kernel
theorem dX11_take_26 : decode cX11_take 26 = .ok (.sipush 1090, 3) := by decide +kernel
theorem dX11_take_29 : decode cX11_take 29 = .ok (.bipush 100, 2) := by decide +kernel
theorem dX11_take_31 : decode cX11_take 31 = .ok (.iload_n 1, 1) := by decide +kernel
theorem dX11_take_32 : decode cX11_take 32 = .ok (.imul, 1) := by decide +kernel
theorem dX11_take_33 : decode cX11_take 33 = .ok (.iadd, 1) := by decide +kernel
theorem dX11_take_34 : decode cX11_take 34 = .ok (.iload 4, 2) := by decide +kernel
theorem dX11_take_36 : decode cX11_take 36 = .ok (.iadd, 1) := by decide +kernel
theorem dX11_take_37 : decode cX11_take 37 = .ok (.iconst 1, 1) := by decide +kernel
theorem dX11_take_38 : decode cX11_take 38 = .ok (.isub, 1) := by decide +kernel
theorem dX11_take_39 : decode cX11_take 39 = .ok (.aload_n 0, 1) := by decide +kernel
theorem dX11_take_40 : decode cX11_take 40 = .ok (.iload_n 1, 1) := by decide +kernel
theorem dX11_take_41 : decode cX11_take 41 = .ok (.iload 4, 2) := by decide +kernel
theorem dX11_take_43 : decode cX11_take 43 = .ok (.invokevirtual 87, 3) := by decide +kernel
theorem dX11_take_46 : decode cX11_take 46 = .ok (.iastore, 1) := by decide +kernel
theorem dX11_take_47 : decode cX11_take 47 = .ok (.iinc 4 1, 3) := by decide +kernel
theorem dX11_take_50 : decode cX11_take 50 = .ok (.goto (-38), 3) := by decide +kernel
theorem dX11_take_53 : decode cX11_take 53 = .ok (.aload_n 0, 1) := by decide +kernel
theorem dX11_take_54 : decode cX11_take 54 = .ok (.getfield 7, 3) := by decide +kernel
theorem dX11_take_57 : decode cX11_take 57 = .ok (.sipush 1390, 3) := by decide +kernel
theorem dX11_take_60 : decode cX11_take 60 = .ok (.iload_n 1, 1) := by decide +kernel
theorem dX11_take_61 : decode cX11_take 61 = .ok (.iadd, 1) := by decide +kernel
theorem dX11_take_62 : decode cX11_take 62 = .ok (.dup2, 1) := by decide +kernel
theorem dX11_take_63 : decode cX11_take 63 = .ok (.iaload, 1) := by decide +kernel
theorem dX11_take_64 : decode cX11_take 64 = .ok (.iconst 1, 1) := by decide +kernel
theorem dX11_take_65 : decode cX11_take 65 = .ok (.isub, 1) := by decide +kernel
theorem dX11_take_66 : decode cX11_take 66 = .ok (.iastore, 1) := by decide +kernel
theorem dX11_take_67 : decode cX11_take 67 = .ok (.iload_n 3, 1) := by decide +kernel
theorem dX11_take_68 : decode cX11_take 68 = .ok (.ireturn, 1) := by decide +kernel
theorem dX11_settle_0 : decode cX11_settle 0 = .ok (.aload_n 0, 1) := by decide +kernel
theorem dX11_settle_1 : decode cX11_settle 1 = .ok (.iconst 2, 1) := by decide +kernel
theorem dX11_settle_2 : decode cX11_settle 2 = .ok (.invokevirtual 93, 3) := by decide +kernel
theorem dX11_settle_5 : decode cX11_settle 5 = .ok (.aload_n 0, 1) := by decide +kernel
theorem dX11_settle_6 : decode cX11_settle 6 = .ok (.getfield 7, 3) := by decide +kernel
theorem dX11_settle_9 : decode cX11_settle 9 = .ok (.sipush 1394, 3) := by decide +kernel
theorem dX11_settle_12 : decode cX11_settle 12 = .ok (.iaload, 1) := by decide +kernel
theorem dX11_settle_13 : decode cX11_settle 13 = .ok (.if_icmp .le 17, 3) := by decide +kernel
theorem dX11_settle_16 : decode cX11_settle 16 = .ok (.aload_n 0, 1) := by decide +kernel
theorem dX11_settle_17 : decode cX11_settle 17 = .ok (.iconst 1, 1) := by decide +kernel
theorem dX11_settle_18 : decode cX11_settle 18 = .ok (.aload_n 0, 1) := by decide +kernel
theorem dX11_settle_19 : decode cX11_settle 19 = .ok (.iconst 2, 1) := by decide +kernel
theorem dX11_settle_20 : decode cX11_settle 20 = .ok (.iconst 0, 1) := by decide +kernel
theorem dX11_settle_21 : decode cX11_settle 21 = .ok (.invokevirtual 96, 3) := by decide +kernel
theorem dX11_settle_24 : decode cX11_settle 24 = .ok (.invokevirtual 99, 3) := by decide +kernel
theorem dX11_settle_27 : decode cX11_settle 27 = .ok (.goto (-27), 3) := by decide +kernel
theorem dX11_settle_30 : decode cX11_settle 30 = .ok (.return_, 1) := by decide +kernel
theorem dX11_overflow_0 : decode cX11_overflow 0 = .ok (.aload_n 0, 1) := by decide +kernel
theorem dX11_overflow_1 : decode cX11_overflow 1 = .ok (.iconst 0, 1) := by decide +kernel
theorem dX11_overflow_2 : decode cX11_overflow 2 = .ok (.invokevirtual 93, 3) := by decide +kernel
theorem dX11_overflow_5 : decode cX11_overflow 5 = .ok (.aload_n 0, 1) := by decide +kernel
theorem dX11_overflow_6 : decode cX11_overflow 6 = .ok (.getfield 7, 3) := by decide +kernel
theorem dX11_overflow_9 : decode cX11_overflow 9 = .ok (.sipush 1393, 3) := by decide +kernel
theorem dX11_overflow_12 : decode cX11_overflow 12 = .ok (.iaload, 1) := by decide +kernel
theorem dX11_overflow_13 : decode cX11_overflow 13 = .ok (.if_icmp .le 16, 3) := by decide +kernel
theorem dX11_overflow_16 : decode cX11_overflow 16 = .ok (.aload_n 0, 1) := by decide +kernel
theorem dX11_overflow_17 : decode cX11_overflow 17 = .ok (.aload_n 0, 1) := by decide +kernel
theorem dX11_overflow_18 : decode cX11_overflow 18 = .ok (.iconst 0, 1) := by decide +kernel
theorem dX11_overflow_19 : decode cX11_overflow 19 = .ok (.iconst 0, 1) := by decide +kernel
theorem dX11_overflow_20 : decode cX11_overflow 20 = .ok (.invokevirtual 96, 3) := by decide +kernel
theorem dX11_overflow_23 : decode cX11_overflow 23 = .ok (.invokevirtual 103, 3) := by decide +kernel
theorem dX11_overflow_26 : decode cX11_overflow 26 = .ok (.goto (-26), 3) := by decide +kernel
theorem dX11_overflow_29 : decode cX11_overflow 29 = .ok (.return_, 1) := by decide +kernel
theorem dX11_candidate_0 : decode cX11_candidate 0 = .ok (.aload_n 0, 1) := by decide +kernel
theorem dX11_candidate_1 : decode cX11_candidate 1 = .ok (.getfield 52, 3) := by decide +kernel
theorem dX11_candidate_4 : decode cX11_candidate 4 = .ok (.aload_n 0, 1) := by decide +kernel
theorem dX11_candidate_5 : decode cX11_candidate 5 = .ok (.getfield 7, 3) := by decide +kernel
theorem dX11_candidate_8 : decode cX11_candidate 8 = .ok (.sipush 1393, 3) := by decide +kernel
theorem dX11_candidate_11 : decode cX11_candidate 11 = .ok (.iaload, 1) := by decide +kernel
theorem dX11_candidate_12 : decode cX11_candidate 12 = .ok (.isub, 1) := by decide +kernel
theorem dX11_candidate_13 : decode cX11_candidate 13 = .ok (.istore_n 2, 1) := by decide +kernel
theorem dX11_candidate_14 : decode cX11_candidate 14 = .ok (.aload_n 0, 1) := by decide +kernel
theorem dX11_candidate_15 : decode cX11_candidate 15 = .ok (.getfield 7, 3) := by decide +kernel
theorem dX11_candidate_18 : decode cX11_candidate 18 = .ok (.sipush 990, 3) := by decide +kernel
theorem dX11_candidate_21 : decode cX11_candidate 21 = .ok (.iload_n 1, 1) := by decide +kernel
theorem dX11_candidate_22 : decode cX11_candidate 22 = .ok (.iadd, 1) := by decide +kernel
theorem dX11_candidate_23 : decode cX11_candidate 23 = .ok (.iaload, 1) := by decide +kernel
theorem dX11_candidate_24 : decode cX11_candidate 24 = .ok (.istore_n 3, 1) := by decide +kernel
theorem dX11_candidate_25 : decode cX11_candidate 25 = .ok (.iload_n 3, 1) := by decide +kernel
theorem dX11_candidate_26 : decode cX11_candidate 26 = .ok (.iload_n 2, 1) := by decide +kernel
theorem dX11_candidate_27 : decode cX11_candidate 27 = .ok (.if_icmp .le 16, 3) := by decide +kernel
theorem dX11_candidate_30 : decode cX11_candidate 30 = .ok (.aload_n 0, 1) := by decide +kernel
theorem dX11_candidate_31 : decode cX11_candidate 31 = .ok (.getfield 7, 3) := by decide +kernel
theorem dX11_candidate_34 : decode cX11_candidate 34 = .ok (.sipush 1399, 3) := by decide +kernel
theorem dX11_candidate_37 : decode cX11_candidate 37 = .ok (.dup2, 1) := by decide +kernel
theorem dX11_candidate_38 : decode cX11_candidate 38 = .ok (.iaload, 1) := by decide +kernel
theorem dX11_candidate_39 : decode cX11_candidate 39 = .ok (.iconst 1, 1) := by decide +kernel
theorem dX11_candidate_40 : decode cX11_candidate 40 = .ok (.iadd, 1) := by decide +kernel
theorem dX11_candidate_41 : decode cX11_candidate 41 = .ok (.iastore, 1) := by decide +kernel
theorem dX11_candidate_42 : decode cX11_candidate 42 = .ok (.return_, 1) := by decide +kernel
theorem dX11_candidate_43 : decode cX11_candidate 43 = .ok (.aload_n 0, 1) := by decide +kernel
theorem dX11_candidate_44 : decode cX11_candidate 44 = .ok (.getfield 7, 3) := by decide +kernel
theorem dX11_candidate_47 : decode cX11_candidate 47 = .ok (.sipush 603, 3) := by decide +kernel
theorem dX11_candidate_50 : decode cX11_candidate 50 = .ok (.iaload, 1) := by decide +kernel
theorem dX11_candidate_51 : decode cX11_candidate 51 = .ok (.iconst 1, 1) := by decide +kernel
theorem dX11_candidate_52 : decode cX11_candidate 52 = .ok (.if_icmp .ne 20, 3) := by decide +kernel
theorem dX11_candidate_55 : decode cX11_candidate 55 = .ok (.aload_n 0, 1) := by decide +kernel
theorem dX11_candidate_56 : decode cX11_candidate 56 = .ok (.invokevirtual 106, 3) := by decide +kernel
theorem dX11_candidate_59 : decode cX11_candidate 59 = .ok (.iload_n 3, 1) := by decide +kernel
theorem dX11_candidate_60 : decode cX11_candidate 60 = .ok (.iadd, 1) := by decide +kernel
theorem dX11_candidate_61 : decode cX11_candidate 61 = .ok (.iload_n 2, 1) := by decide +kernel
theorem dX11_candidate_62 : decode cX11_candidate 62 = .ok (.if_icmp .le 10, 3) := by decide +kernel
theorem dX11_candidate_65 : decode cX11_candidate 65 = .ok (.aload_n 0, 1) := by decide +kernel
theorem dX11_candidate_66 : decode cX11_candidate 66 = .ok (.iload_n 1, 1) := by decide +kernel
theorem dX11_candidate_67 : decode cX11_candidate 67 = .ok (.iload_n 2, 1) := by decide +kernel
theorem dX11_candidate_68 : decode cX11_candidate 68 = .ok (.invokevirtual 110, 3) := by decide +kernel
theorem dX11_candidate_71 : decode cX11_candidate 71 = .ok (.return_, 1) := by decide +kernel
theorem dX11_candidate_72 : decode cX11_candidate 72 = .ok (.aload_n 0, 1) := by decide +kernel
theorem dX11_candidate_73 : decode cX11_candidate 73 = .ok (.invokevirtual 106, 3) := by decide +kernel
theorem dX11_candidate_76 : decode cX11_candidate 76 = .ok (.iload_n 3, 1) := by decide +kernel
theorem dX11_candidate_77 : decode cX11_candidate 77 = .ok (.iadd, 1) := by decide +kernel
theorem dX11_candidate_78 : decode cX11_candidate 78 = .ok (.iload_n 2, 1) := by decide +kernel
theorem dX11_candidate_79 : decode cX11_candidate 79 = .ok (.if_icmp .le 77, 3) := by decide +kernel
theorem dX11_candidate_82 : decode cX11_candidate 82 = .ok (.aload_n 0, 1) := by decide +kernel
theorem dX11_candidate_83 : decode cX11_candidate 83 = .ok (.iconst 1, 1) := by decide +kernel
theorem dX11_candidate_84 : decode cX11_candidate 84 = .ok (.invokevirtual 84, 3) := by decide +kernel
theorem dX11_candidate_87 : decode cX11_candidate 87 = .ok (.ifCond .le 7, 3) := by decide +kernel
theorem dX11_candidate_90 : decode cX11_candidate 90 = .ok (.iconst 1, 1) := by decide +kernel
theorem dX11_candidate_91 : decode cX11_candidate 91 = .ok (.goto 4, 3) := by decide +kernel
theorem dX11_candidate_94 : decode cX11_candidate 94 = .ok (.iconst 2, 1) := by decide +kernel
theorem dX11_candidate_95 : decode cX11_candidate 95 = .ok (.istore 4, 2) := by decide +kernel
theorem dX11_candidate_97 : decode cX11_candidate 97 = .ok (.aload_n 0, 1) := by decide +kernel
theorem dX11_candidate_98 : decode cX11_candidate 98 = .ok (.iload 4, 2) := by decide +kernel
theorem dX11_candidate_100 : decode cX11_candidate 100 = .ok (.iconst 0, 1) := by decide +kernel
theorem dX11_candidate_101 : decode cX11_candidate 101 = .ok (.invokevirtual 87, 3) := by decide +kernel
theorem dX11_candidate_104 : decode cX11_candidate 104 = .ok (.istore 5, 2) := by decide +kernel
theorem dX11_candidate_106 : decode cX11_candidate 106 = .ok (.aload_n 0, 1) := by decide +kernel
theorem dX11_candidate_107 : decode cX11_candidate 107 = .ok (.getfield 7, 3) := by decide +kernel
theorem dX11_candidate_110 : decode cX11_candidate 110 = .ok (.sipush 1399, 3) := by decide +kernel
theorem dX11_candidate_113 : decode cX11_candidate 113 = .ok (.dup2, 1) := by decide +kernel
theorem dX11_candidate_114 : decode cX11_candidate 114 = .ok (.iaload, 1) := by decide +kernel
theorem dX11_candidate_115 : decode cX11_candidate 115 = .ok (.iconst 1, 1) := by decide +kernel
theorem dX11_candidate_116 : decode cX11_candidate 116 = .ok (.iadd, 1) := by decide +kernel
theorem dX11_candidate_117 : decode cX11_candidate 117 = .ok (.iastore, 1) := by decide +kernel
theorem dX11_candidate_118 : decode cX11_candidate 118 = .ok (.aload_n 0, 1) := by decide +kernel
theorem dX11_candidate_119 : decode cX11_candidate 119 = .ok (.getfield 7, 3) := by decide +kernel
theorem dX11_candidate_122 : decode cX11_candidate 122 = .ok (.sipush 603, 3) := by decide +kernel
theorem dX11_candidate_125 : decode cX11_candidate 125 = .ok (.iaload, 1) := by decide +kernel
theorem dX11_candidate_126 : decode cX11_candidate 126 = .ok (.ifCond .ne 18, 3) := by decide +kernel
theorem dX11_candidate_129 : decode cX11_candidate 129 = .ok (.aload_n 0, 1) := by decide +kernel
theorem dX11_candidate_130 : decode cX11_candidate 130 = .ok (.iload_n 1, 1) := by decide +kernel
theorem dX11_candidate_131 : decode cX11_candidate 131 = .ok (.invokevirtual 113, 3) := by decide +kernel
theorem dX11_candidate_134 : decode cX11_candidate 134 = .ok (.aload_n 0, 1) := by decide +kernel
theorem dX11_candidate_135 : decode cX11_candidate 135 = .ok (.iload 5, 2) := by decide +kernel
theorem dX11_candidate_137 : decode cX11_candidate 137 = .ok (.invokevirtual 113, 3) := by decide +kernel
theorem dX11_candidate_140 : decode cX11_candidate 140 = .ok (.if_icmp .gt 4, 3) := by decide +kernel
theorem dX11_candidate_143 : decode cX11_candidate 143 = .ok (.return_, 1) := by decide +kernel
theorem dX11_candidate_144 : decode cX11_candidate 144 = .ok (.aload_n 0, 1) := by decide +kernel
theorem dX11_candidate_145 : decode cX11_candidate 145 = .ok (.iload 4, 2) := by decide +kernel
theorem dX11_candidate_147 : decode cX11_candidate 147 = .ok (.iconst 0, 1) := by decide +kernel
theorem dX11_candidate_148 : decode cX11_candidate 148 = .ok (.invokevirtual 96, 3) := by decide +kernel
theorem dX11_candidate_151 : decode cX11_candidate 151 = .ok (.istore 6, 2) := by decide +kernel
theorem dX11_candidate_153 : decode cX11_candidate 153 = .ok (.goto (-81), 3) := by decide +kernel
theorem dX11_candidate_156 : decode cX11_candidate 156 = .ok (.aload_n 0, 1) := by decide +kernel
theorem dX11_candidate_157 : decode cX11_candidate 157 = .ok (.iconst 1, 1) := by decide +kernel
theorem dX11_candidate_158 : decode cX11_candidate 158 = .ok (.iload_n 1, 1) := by decide +kernel
theorem dX11_candidate_159 : decode cX11_candidate 159 = .ok (.invokevirtual 99, 3) := by decide +kernel
theorem dX11_candidate_162 : decode cX11_candidate 162 = .ok (.return_, 1) := by decide +kernel
theorem dX11_together_0 : decode cX11_together 0 = .ok (.iconst 0, 1) := by decide +kernel
theorem dX11_together_1 : decode cX11_together 1 = .ok (.istore_n 3, 1) := by decide +kernel
theorem dX11_together_2 : decode cX11_together 2 = .ok (.iconst 0, 1) := by decide +kernel
theorem dX11_together_3 : decode cX11_together 3 = .ok (.istore 4, 2) := by decide +kernel
theorem dX11_together_5 : decode cX11_together 5 = .ok (.iconst 0, 1) := by decide +kernel
theorem dX11_together_6 : decode cX11_together 6 = .ok (.istore 5, 2) := by decide +kernel
theorem dX11_together_8 : decode cX11_together 8 = .ok (.iconst 0, 1) := by decide +kernel
theorem dX11_together_9 : decode cX11_together 9 = .ok (.istore 6, 2) := by decide +kernel
theorem dX11_together_11 : decode cX11_together 11 = .ok (.aload_n 0, 1) := by decide +kernel
theorem dX11_together_12 : decode cX11_together 12 = .ok (.invokevirtual 106, 3) := by decide +kernel
theorem dX11_together_15 : decode cX11_together 15 = .ok (.aload_n 0, 1) := by decide +kernel
theorem dX11_together_16 : decode cX11_together 16 = .ok (.getfield 7, 3) := by decide +kernel
theorem dX11_together_19 : decode cX11_together 19 = .ok (.sipush 990, 3) := by decide +kernel
theorem dX11_together_22 : decode cX11_together 22 = .ok (.iload_n 1, 1) := by decide +kernel
theorem dX11_together_23 : decode cX11_together 23 = .ok (.iadd, 1) := by decide +kernel
theorem dX11_together_24 : decode cX11_together 24 = .ok (.iaload, 1) := by decide +kernel
theorem dX11_together_25 : decode cX11_together 25 = .ok (.iadd, 1) := by decide +kernel
theorem dX11_together_26 : decode cX11_together 26 = .ok (.iload_n 2, 1) := by decide +kernel
theorem dX11_together_27 : decode cX11_together 27 = .ok (.isub, 1) := by decide +kernel
theorem dX11_together_28 : decode cX11_together 28 = .ok (.istore 7, 2) := by decide +kernel
theorem dX11_together_30 : decode cX11_together 30 = .ok (.iload 5, 2) := by decide +kernel
theorem dX11_together_32 : decode cX11_together 32 = .ok (.iload 7, 2) := by decide +kernel
theorem dX11_together_34 : decode cX11_together 34 = .ok (.if_icmp .ge 78, 3) := by decide +kernel
theorem dX11_together_37 : decode cX11_together 37 = .ok (.iload_n 3, 1) := by decide +kernel
theorem dX11_together_38 : decode cX11_together 38 = .ok (.aload_n 0, 1) := by decide +kernel
theorem dX11_together_39 : decode cX11_together 39 = .ok (.iconst 1, 1) := by decide +kernel
theorem dX11_together_40 : decode cX11_together 40 = .ok (.invokevirtual 84, 3) := by decide +kernel
theorem dX11_together_43 : decode cX11_together 43 = .ok (.if_icmp .ge 12, 3) := by decide +kernel
theorem dX11_together_46 : decode cX11_together 46 = .ok (.aload_n 0, 1) := by decide +kernel
theorem dX11_together_47 : decode cX11_together 47 = .ok (.iconst 1, 1) := by decide +kernel
theorem dX11_together_48 : decode cX11_together 48 = .ok (.iload_n 3, 1) := by decide +kernel
theorem dX11_together_49 : decode cX11_together 49 = .ok (.invokevirtual 87, 3) := by decide +kernel
theorem dX11_together_52 : decode cX11_together 52 = .ok (.goto 10, 3) := by decide +kernel
theorem dX11_together_55 : decode cX11_together 55 = .ok (.aload_n 0, 1) := by decide +kernel
theorem dX11_together_56 : decode cX11_together 56 = .ok (.iconst 2, 1) := by decide +kernel
theorem dX11_together_57 : decode cX11_together 57 = .ok (.iload 4, 2) := by decide +kernel
theorem dX11_together_59 : decode cX11_together 59 = .ok (.invokevirtual 87, 3) := by decide +kernel
theorem dX11_together_62 : decode cX11_together 62 = .ok (.istore 8, 2) := by decide +kernel
theorem dX11_together_64 : decode cX11_together 64 = .ok (.iload_n 3, 1) := by decide +kernel
theorem dX11_together_65 : decode cX11_together 65 = .ok (.aload_n 0, 1) := by decide +kernel
theorem dX11_together_66 : decode cX11_together 66 = .ok (.iconst 1, 1) := by decide +kernel
theorem dX11_together_67 : decode cX11_together 67 = .ok (.invokevirtual 84, 3) := by decide +kernel
theorem dX11_together_70 : decode cX11_together 70 = .ok (.if_icmp .ge 9, 3) := by decide +kernel
theorem dX11_together_73 : decode cX11_together 73 = .ok (.iinc 3 1, 3) := by decide +kernel
theorem dX11_together_76 : decode cX11_together 76 = .ok (.goto 6, 3) := by decide +kernel
theorem dX11_together_79 : decode cX11_together 79 = .ok (.iinc 4 1, 3) := by decide +kernel
theorem dX11_together_82 : decode cX11_together 82 = .ok (.iload 5, 2) := by decide +kernel
theorem dX11_together_84 : decode cX11_together 84 = .ok (.aload_n 0, 1) := by decide +kernel
theorem dX11_together_85 : decode cX11_together 85 = .ok (.getfield 7, 3) := by decide +kernel
theorem dX11_together_88 : decode cX11_together 88 = .ok (.sipush 990, 3) := by decide +kernel
theorem dX11_together_91 : decode cX11_together 91 = .ok (.iload 8, 2) := by decide +kernel
theorem dX11_together_93 : decode cX11_together 93 = .ok (.iadd, 1) := by decide +kernel
theorem dX11_together_94 : decode cX11_together 94 = .ok (.iaload, 1) := by decide +kernel
theorem dX11_together_95 : decode cX11_together 95 = .ok (.iadd, 1) := by decide +kernel
theorem dX11_together_96 : decode cX11_together 96 = .ok (.istore 5, 2) := by decide +kernel
theorem dX11_together_98 : decode cX11_together 98 = .ok (.iload 6, 2) := by decide +kernel
theorem dX11_together_100 : decode cX11_together 100 = .ok (.aload_n 0, 1) := by decide +kernel
theorem dX11_together_101 : decode cX11_together 101 = .ok (.iload 8, 2) := by decide +kernel
theorem dX11_together_103 : decode cX11_together 103 = .ok (.invokevirtual 113, 3) := by decide +kernel
theorem dX11_together_106 : decode cX11_together 106 = .ok (.iadd, 1) := by decide +kernel
theorem dX11_together_107 : decode cX11_together 107 = .ok (.istore 6, 2) := by decide +kernel
theorem dX11_together_109 : decode cX11_together 109 = .ok (.goto (-79), 3) := by decide +kernel
theorem dX11_together_112 : decode cX11_together 112 = .ok (.aload_n 0, 1) := by decide +kernel
theorem dX11_together_113 : decode cX11_together 113 = .ok (.iload_n 1, 1) := by decide +kernel
theorem dX11_together_114 : decode cX11_together 114 = .ok (.invokevirtual 113, 3) := by decide +kernel
theorem dX11_together_117 : decode cX11_together 117 = .ok (.iload 6, 2) := by decide +kernel
theorem dX11_together_119 : decode cX11_together 119 = .ok (.if_icmp .le 7, 3) := by decide +kernel
theorem dX11_together_122 : decode cX11_together 122 = .ok (.iconst 1, 1) := by decide +kernel
theorem dX11_together_123 : decode cX11_together 123 = .ok (.goto 4, 3) := by decide +kernel
theorem dX11_together_126 : decode cX11_together 126 = .ok (.iconst 0, 1) := by decide +kernel
theorem dX11_together_127 : decode cX11_together 127 = .ok (.istore 8, 2) := by decide +kernel
theorem dX11_together_129 : decode cX11_together 129 = .ok (.iconst 0, 1) := by decide +kernel
theorem dX11_together_130 : decode cX11_together 130 = .ok (.istore 9, 2) := by decide +kernel
theorem dX11_together_132 : decode cX11_together 132 = .ok (.iload 9, 2) := by decide +kernel
theorem dX11_together_134 : decode cX11_together 134 = .ok (.iload_n 3, 1) := by decide +kernel
theorem dX11_together_135 : decode cX11_together 135 = .ok (.if_icmp .ge 29, 3) := by decide +kernel
theorem dX11_together_138 : decode cX11_together 138 = .ok (.aload_n 0, 1) := by decide +kernel
theorem dX11_together_139 : decode cX11_together 139 = .ok (.iconst 1, 1) := by decide +kernel
theorem dX11_together_140 : decode cX11_together 140 = .ok (.iconst 0, 1) := by decide +kernel
theorem dX11_together_141 : decode cX11_together 141 = .ok (.invokevirtual 96, 3) := by decide +kernel
theorem dX11_together_144 : decode cX11_together 144 = .ok (.istore 10, 2) := by decide +kernel
theorem dX11_together_146 : decode cX11_together 146 = .ok (.iload 8, 2) := by decide +kernel
theorem dX11_together_148 : decode cX11_together 148 = .ok (.ifCond .ne 10, 3) := by decide +kernel
theorem dX11_together_151 : decode cX11_together 151 = .ok (.aload_n 0, 1) := by decide +kernel
theorem dX11_together_152 : decode cX11_together 152 = .ok (.iconst 1, 1) := by decide +kernel
theorem dX11_together_153 : decode cX11_together 153 = .ok (.iload 10, 2) := by decide +kernel
theorem dX11_together_155 : decode cX11_together 155 = .ok (.invokevirtual 99, 3) := by decide +kernel
theorem dX11_together_158 : decode cX11_together 158 = .ok (.iinc 9 1, 3) := by decide +kernel
theorem dX11_together_161 : decode cX11_together 161 = .ok (.goto (-29), 3) := by decide +kernel
theorem dX11_together_164 : decode cX11_together 164 = .ok (.iconst 0, 1) := by decide +kernel
theorem dX11_together_165 : decode cX11_together 165 = .ok (.istore 9, 2) := by decide +kernel
theorem dX11_together_167 : decode cX11_together 167 = .ok (.iload 9, 2) := by decide +kernel
theorem dX11_together_169 : decode cX11_together 169 = .ok (.iload 4, 2) := by decide +kernel
theorem dX11_together_171 : decode cX11_together 171 = .ok (.if_icmp .ge 29, 3) := by decide +kernel
theorem dX11_together_174 : decode cX11_together 174 = .ok (.aload_n 0, 1) := by decide +kernel
theorem dX11_together_175 : decode cX11_together 175 = .ok (.iconst 2, 1) := by decide +kernel
theorem dX11_together_176 : decode cX11_together 176 = .ok (.iconst 0, 1) := by decide +kernel
theorem dX11_together_177 : decode cX11_together 177 = .ok (.invokevirtual 96, 3) := by decide +kernel
theorem dX11_together_180 : decode cX11_together 180 = .ok (.istore 10, 2) := by decide +kernel
theorem dX11_together_182 : decode cX11_together 182 = .ok (.iload 8, 2) := by decide +kernel
theorem dX11_together_184 : decode cX11_together 184 = .ok (.ifCond .ne 10, 3) := by decide +kernel
theorem dX11_together_187 : decode cX11_together 187 = .ok (.aload_n 0, 1) := by decide +kernel
theorem dX11_together_188 : decode cX11_together 188 = .ok (.iconst 2, 1) := by decide +kernel
theorem dX11_together_189 : decode cX11_together 189 = .ok (.iload 10, 2) := by decide +kernel
theorem dX11_together_191 : decode cX11_together 191 = .ok (.invokevirtual 99, 3) := by decide +kernel
theorem dX11_together_194 : decode cX11_together 194 = .ok (.iinc 9 1, 3) := by decide +kernel
theorem dX11_together_197 : decode cX11_together 197 = .ok (.goto (-30), 3) := by decide +kernel
theorem dX11_together_200 : decode cX11_together 200 = .ok (.aload_n 0, 1) := by decide +kernel
theorem dX11_together_201 : decode cX11_together 201 = .ok (.getfield 7, 3) := by decide +kernel
theorem dX11_together_204 : decode cX11_together 204 = .ok (.sipush 1399, 3) := by decide +kernel
theorem dX11_together_207 : decode cX11_together 207 = .ok (.dup2, 1) := by decide +kernel
theorem dX11_together_208 : decode cX11_together 208 = .ok (.iaload, 1) := by decide +kernel
theorem dX11_together_209 : decode cX11_together 209 = .ok (.iload 8, 2) := by decide +kernel
theorem dX11_together_211 : decode cX11_together 211 = .ok (.ifCond .eq 10, 3) := by decide +kernel
theorem dX11_together_214 : decode cX11_together 214 = .ok (.iload_n 3, 1) := by decide +kernel
theorem dX11_together_215 : decode cX11_together 215 = .ok (.iload 4, 2) := by decide +kernel
theorem dX11_together_217 : decode cX11_together 217 = .ok (.iadd, 1) := by decide +kernel
theorem dX11_together_218 : decode cX11_together 218 = .ok (.goto 4, 3) := by decide +kernel
theorem dX11_together_221 : decode cX11_together 221 = .ok (.iconst 1, 1) := by decide +kernel
theorem dX11_together_222 : decode cX11_together 222 = .ok (.iadd, 1) := by decide +kernel
theorem dX11_together_223 : decode cX11_together 223 = .ok (.iastore, 1) := by decide +kernel
theorem dX11_together_224 : decode cX11_together 224 = .ok (.iload 8, 2) := by decide +kernel
theorem dX11_together_226 : decode cX11_together 226 = .ok (.ifCond .eq 9, 3) := by decide +kernel
theorem dX11_together_229 : decode cX11_together 229 = .ok (.aload_n 0, 1) := by decide +kernel
theorem dX11_together_230 : decode cX11_together 230 = .ok (.iconst 1, 1) := by decide +kernel
theorem dX11_together_231 : decode cX11_together 231 = .ok (.iload_n 1, 1) := by decide +kernel
theorem dX11_together_232 : decode cX11_together 232 = .ok (.invokevirtual 99, 3) := by decide +kernel
theorem dX11_together_235 : decode cX11_together 235 = .ok (.return_, 1) := by decide +kernel
theorem dX11_accessed_0 : decode cX11_accessed 0 = .ok (.aload_n 0, 1) := by decide +kernel
theorem dX11_accessed_1 : decode cX11_accessed 1 = .ok (.getfield 7, 3) := by decide +kernel
theorem dX11_accessed_4 : decode cX11_accessed 4 = .ok (.sipush 1397, 3) := by decide +kernel
theorem dX11_accessed_7 : decode cX11_accessed 7 = .ok (.dup2, 1) := by decide +kernel
theorem dX11_accessed_8 : decode cX11_accessed 8 = .ok (.iaload, 1) := by decide +kernel
theorem dX11_accessed_9 : decode cX11_accessed 9 = .ok (.iconst 1, 1) := by decide +kernel
theorem dX11_accessed_10 : decode cX11_accessed 10 = .ok (.iadd, 1) := by decide +kernel
theorem dX11_accessed_11 : decode cX11_accessed 11 = .ok (.iastore, 1) := by decide +kernel
theorem dX11_accessed_12 : decode cX11_accessed 12 = .ok (.aload_n 0, 1) := by decide +kernel
theorem dX11_accessed_13 : decode cX11_accessed 13 = .ok (.getfield 7, 3) := by decide +kernel
theorem dX11_accessed_16 : decode cX11_accessed 16 = .ok (.sipush 1404, 3) := by decide +kernel
theorem dX11_accessed_19 : decode cX11_accessed 19 = .ok (.iaload, 1) := by decide +kernel
theorem dX11_accessed_20 : decode cX11_accessed 20 = .ok (.sipush 300, 3) := by decide +kernel
theorem dX11_accessed_23 : decode cX11_accessed 23 = .ok (.if_icmp .ne 52, 3) := by decide +kernel
theorem dX11_accessed_26 : decode cX11_accessed 26 = .ok (.iconst 1, 1) := by decide +kernel
theorem dX11_accessed_27 : decode cX11_accessed 27 = .ok (.istore_n 2, 1) := by decide +kernel
theorem dX11_accessed_28 : decode cX11_accessed 28 = .ok (.iload_n 2, 1) := by decide +kernel
theorem dX11_accessed_29 : decode cX11_accessed 29 = .ok (.sipush 300, 3) := by decide +kernel
theorem dX11_accessed_32 : decode cX11_accessed 32 = .ok (.if_icmp .ge 31, 3) := by decide +kernel
theorem dX11_accessed_35 : decode cX11_accessed 35 = .ok (.aload_n 0, 1) := by decide +kernel
theorem dX11_accessed_36 : decode cX11_accessed 36 = .ok (.getfield 7, 3) := by decide +kernel
theorem dX11_accessed_39 : decode cX11_accessed 39 = .ok (.sipush 1405, 3) := by decide +kernel
theorem dX11_accessed_42 : decode cX11_accessed 42 = .ok (.iload_n 2, 1) := by decide +kernel
theorem dX11_accessed_43 : decode cX11_accessed 43 = .ok (.iadd, 1) := by decide +kernel
theorem dX11_accessed_44 : decode cX11_accessed 44 = .ok (.iconst 1, 1) := by decide +kernel
theorem dX11_accessed_45 : decode cX11_accessed 45 = .ok (.isub, 1) := by decide +kernel
theorem dX11_accessed_46 : decode cX11_accessed 46 = .ok (.aload_n 0, 1) := by decide +kernel
theorem dX11_accessed_47 : decode cX11_accessed 47 = .ok (.getfield 7, 3) := by decide +kernel
theorem dX11_accessed_50 : decode cX11_accessed 50 = .ok (.sipush 1405, 3) := by decide +kernel
theorem dX11_accessed_53 : decode cX11_accessed 53 = .ok (.iload_n 2, 1) := by decide +kernel
theorem dX11_accessed_54 : decode cX11_accessed 54 = .ok (.iadd, 1) := by decide +kernel
theorem dX11_accessed_55 : decode cX11_accessed 55 = .ok (.iaload, 1) := by decide +kernel
theorem dX11_accessed_56 : decode cX11_accessed 56 = .ok (.iastore, 1) := by decide +kernel
theorem dX11_accessed_57 : decode cX11_accessed 57 = .ok (.iinc 2 1, 3) := by decide +kernel
theorem dX11_accessed_60 : decode cX11_accessed 60 = .ok (.goto (-32), 3) := by decide +kernel
theorem dX11_accessed_63 : decode cX11_accessed 63 = .ok (.aload_n 0, 1) := by decide +kernel
theorem dX11_accessed_64 : decode cX11_accessed 64 = .ok (.getfield 7, 3) := by decide +kernel
theorem dX11_accessed_67 : decode cX11_accessed 67 = .ok (.sipush 1404, 3) := by decide +kernel
theorem dX11_accessed_70 : decode cX11_accessed 70 = .ok (.dup2, 1) := by decide +kernel
theorem dX11_accessed_71 : decode cX11_accessed 71 = .ok (.iaload, 1) := by decide +kernel
theorem dX11_accessed_72 : decode cX11_accessed 72 = .ok (.iconst 1, 1) := by decide +kernel
theorem dX11_accessed_73 : decode cX11_accessed 73 = .ok (.isub, 1) := by decide +kernel
theorem dX11_accessed_74 : decode cX11_accessed 74 = .ok (.iastore, 1) := by decide +kernel
theorem dX11_accessed_75 : decode cX11_accessed 75 = .ok (.aload_n 0, 1) := by decide +kernel
theorem dX11_accessed_76 : decode cX11_accessed 76 = .ok (.getfield 7, 3) := by decide +kernel
theorem dX11_accessed_79 : decode cX11_accessed 79 = .ok (.sipush 1405, 3) := by decide +kernel
theorem dX11_accessed_82 : decode cX11_accessed 82 = .ok (.aload_n 0, 1) := by decide +kernel
theorem dX11_accessed_83 : decode cX11_accessed 83 = .ok (.getfield 7, 3) := by decide +kernel
theorem dX11_accessed_86 : decode cX11_accessed 86 = .ok (.sipush 1404, 3) := by decide +kernel
theorem dX11_accessed_89 : decode cX11_accessed 89 = .ok (.iaload, 1) := by decide +kernel
theorem dX11_accessed_90 : decode cX11_accessed 90 = .ok (.iadd, 1) := by decide +kernel
theorem dX11_accessed_91 : decode cX11_accessed 91 = .ok (.iload_n 1, 1) := by decide +kernel
theorem dX11_accessed_92 : decode cX11_accessed 92 = .ok (.iastore, 1) := by decide +kernel
theorem dX11_accessed_93 : decode cX11_accessed 93 = .ok (.aload_n 0, 1) := by decide +kernel
theorem dX11_accessed_94 : decode cX11_accessed 94 = .ok (.getfield 7, 3) := by decide +kernel
theorem dX11_accessed_97 : decode cX11_accessed 97 = .ok (.sipush 1404, 3) := by decide +kernel
theorem dX11_accessed_100 : decode cX11_accessed 100 = .ok (.dup2, 1) := by decide +kernel
theorem dX11_accessed_101 : decode cX11_accessed 101 = .ok (.iaload, 1) := by decide +kernel
theorem dX11_accessed_102 : decode cX11_accessed 102 = .ok (.iconst 1, 1) := by decide +kernel
theorem dX11_accessed_103 : decode cX11_accessed 103 = .ok (.iadd, 1) := by decide +kernel
theorem dX11_accessed_104 : decode cX11_accessed 104 = .ok (.iastore, 1) := by decide +kernel
theorem dX11_accessed_105 : decode cX11_accessed 105 = .ok (.aload_n 0, 1) := by decide +kernel
theorem dX11_accessed_106 : decode cX11_accessed 106 = .ok (.iload_n 1, 1) := by decide +kernel
theorem dX11_accessed_107 : decode cX11_accessed 107 = .ok (.invokevirtual 116, 3) := by decide +kernel
theorem dX11_accessed_110 : decode cX11_accessed 110 = .ok (.aload_n 0, 1) := by decide +kernel
theorem dX11_accessed_111 : decode cX11_accessed 111 = .ok (.iload_n 1, 1) := by decide +kernel
theorem dX11_accessed_112 : decode cX11_accessed 112 = .ok (.invokevirtual 70, 3) := by decide +kernel
theorem dX11_accessed_115 : decode cX11_accessed 115 = .ok (.istore_n 2, 1) := by decide +kernel
theorem dX11_accessed_116 : decode cX11_accessed 116 = .ok (.iload_n 2, 1) := by decide +kernel
theorem dX11_accessed_117 : decode cX11_accessed 117 = .ok (.ifCond .lt 36, 3) := by decide +kernel
theorem dX11_accessed_120 : decode cX11_accessed 120 = .ok (.aload_n 0, 1) := by decide +kernel
theorem dX11_accessed_121 : decode cX11_accessed 121 = .ok (.iload_n 2, 1) := by decide +kernel
theorem dX11_accessed_122 : decode cX11_accessed 122 = .ok (.aload_n 0, 1) := by decide +kernel
theorem dX11_accessed_123 : decode cX11_accessed 123 = .ok (.iload_n 2, 1) := by decide +kernel
theorem dX11_accessed_124 : decode cX11_accessed 124 = .ok (.iload_n 1, 1) := by decide +kernel
theorem dX11_accessed_125 : decode cX11_accessed 125 = .ok (.invokevirtual 90, 3) := by decide +kernel
theorem dX11_accessed_128 : decode cX11_accessed 128 = .ok (.invokevirtual 96, 3) := by decide +kernel
theorem dX11_accessed_131 : decode cX11_accessed 131 = .ok (.istore_n 3, 1) := by decide +kernel
theorem dX11_accessed_132 : decode cX11_accessed 132 = .ok (.aload_n 0, 1) := by decide +kernel
theorem dX11_accessed_133 : decode cX11_accessed 133 = .ok (.iload_n 2, 1) := by decide +kernel
theorem dX11_accessed_134 : decode cX11_accessed 134 = .ok (.ifCond .ne 7, 3) := by decide +kernel
theorem dX11_accessed_137 : decode cX11_accessed 137 = .ok (.iconst 0, 1) := by decide +kernel
theorem dX11_accessed_138 : decode cX11_accessed 138 = .ok (.goto 4, 3) := by decide +kernel
theorem dX11_accessed_141 : decode cX11_accessed 141 = .ok (.iconst 2, 1) := by decide +kernel
theorem dX11_accessed_142 : decode cX11_accessed 142 = .ok (.iload_n 3, 1) := by decide +kernel
theorem dX11_accessed_143 : decode cX11_accessed 143 = .ok (.invokevirtual 99, 3) := by decide +kernel
theorem dX11_accessed_146 : decode cX11_accessed 146 = .ok (.aload_n 0, 1) := by decide +kernel
theorem dX11_accessed_147 : decode cX11_accessed 147 = .ok (.invokevirtual 119, 3) := by decide +kernel
theorem dX11_accessed_150 : decode cX11_accessed 150 = .ok (.goto 59, 3) := by decide +kernel
theorem dX11_accessed_153 : decode cX11_accessed 153 = .ok (.aload_n 0, 1) := by decide +kernel
theorem dX11_accessed_154 : decode cX11_accessed 154 = .ok (.getfield 7, 3) := by decide +kernel
theorem dX11_accessed_157 : decode cX11_accessed 157 = .ok (.sipush 990, 3) := by decide +kernel
theorem dX11_accessed_160 : decode cX11_accessed 160 = .ok (.iload_n 1, 1) := by decide +kernel
theorem dX11_accessed_161 : decode cX11_accessed 161 = .ok (.iadd, 1) := by decide +kernel
theorem dX11_accessed_162 : decode cX11_accessed 162 = .ok (.iaload, 1) := by decide +kernel
theorem dX11_accessed_163 : decode cX11_accessed 163 = .ok (.aload_n 0, 1) := by decide +kernel
theorem dX11_accessed_164 : decode cX11_accessed 164 = .ok (.getfield 52, 3) := by decide +kernel
theorem dX11_accessed_167 : decode cX11_accessed 167 = .ok (.if_icmp .gt 42, 3) := by decide +kernel
theorem dX11_accessed_170 : decode cX11_accessed 170 = .ok (.aload_n 0, 1) := by decide +kernel
theorem dX11_accessed_171 : decode cX11_accessed 171 = .ok (.getfield 7, 3) := by decide +kernel
theorem dX11_accessed_174 : decode cX11_accessed 174 = .ok (.sipush 990, 3) := by decide +kernel
theorem dX11_accessed_177 : decode cX11_accessed 177 = .ok (.iload_n 1, 1) := by decide +kernel
theorem dX11_accessed_178 : decode cX11_accessed 178 = .ok (.iadd, 1) := by decide +kernel
theorem dX11_accessed_179 : decode cX11_accessed 179 = .ok (.iaload, 1) := by decide +kernel
theorem dX11_accessed_180 : decode cX11_accessed 180 = .ok (.aload_n 0, 1) := by decide +kernel
theorem dX11_accessed_181 : decode cX11_accessed 181 = .ok (.getfield 7, 3) := by decide +kernel
theorem dX11_accessed_184 : decode cX11_accessed 184 = .ok (.sipush 1393, 3) := by decide +kernel
theorem dX11_accessed_187 : decode cX11_accessed 187 = .ok (.iaload, 1) := by decide +kernel
theorem dX11_accessed_188 : decode cX11_accessed 188 = .ok (.if_icmp .le 11, 3) := by decide +kernel
theorem dX11_accessed_191 : decode cX11_accessed 191 = .ok (.aload_n 0, 1) := by decide +kernel
theorem dX11_accessed_192 : decode cX11_accessed 192 = .ok (.iload_n 1, 1) := by decide +kernel
theorem dX11_accessed_193 : decode cX11_accessed 193 = .ok (.invokevirtual 103, 3) := by decide +kernel
theorem dX11_accessed_196 : decode cX11_accessed 196 = .ok (.goto 13, 3) := by decide +kernel
theorem dX11_accessed_199 : decode cX11_accessed 199 = .ok (.aload_n 0, 1) := by decide +kernel
theorem dX11_accessed_200 : decode cX11_accessed 200 = .ok (.iconst 0, 1) := by decide +kernel
theorem dX11_accessed_201 : decode cX11_accessed 201 = .ok (.iload_n 1, 1) := by decide +kernel
theorem dX11_accessed_202 : decode cX11_accessed 202 = .ok (.invokevirtual 99, 3) := by decide +kernel
theorem dX11_accessed_205 : decode cX11_accessed 205 = .ok (.aload_n 0, 1) := by decide +kernel
theorem dX11_accessed_206 : decode cX11_accessed 206 = .ok (.invokevirtual 122, 3) := by decide +kernel
theorem dX11_accessed_209 : decode cX11_accessed 209 = .ok (.aload_n 0, 1) := by decide +kernel
theorem dX11_accessed_210 : decode cX11_accessed 210 = .ok (.getfield 7, 3) := by decide +kernel
theorem dX11_accessed_213 : decode cX11_accessed 213 = .ok (.sipush 1398, 3) := by decide +kernel
theorem dX11_accessed_216 : decode cX11_accessed 216 = .ok (.dup2, 1) := by decide +kernel
theorem dX11_accessed_217 : decode cX11_accessed 217 = .ok (.iaload, 1) := by decide +kernel
theorem dX11_accessed_218 : decode cX11_accessed 218 = .ok (.iload_n 2, 1) := by decide +kernel
theorem dX11_accessed_219 : decode cX11_accessed 219 = .ok (.ifCond .lt 7, 3) := by decide +kernel
theorem dX11_accessed_222 : decode cX11_accessed 222 = .ok (.iconst 1, 1) := by decide +kernel
theorem dX11_accessed_223 : decode cX11_accessed 223 = .ok (.goto 4, 3) := by decide +kernel
theorem dX11_accessed_226 : decode cX11_accessed 226 = .ok (.iconst 0, 1) := by decide +kernel
theorem dX11_accessed_227 : decode cX11_accessed 227 = .ok (.iadd, 1) := by decide +kernel
theorem dX11_accessed_228 : decode cX11_accessed 228 = .ok (.iastore, 1) := by decide +kernel
theorem dX11_accessed_229 : decode cX11_accessed 229 = .ok (.aload_n 0, 1) := by decide +kernel
theorem dX11_accessed_230 : decode cX11_accessed 230 = .ok (.getfield 7, 3) := by decide +kernel
theorem dX11_accessed_233 : decode cX11_accessed 233 = .ok (.sipush 604, 3) := by decide +kernel
theorem dX11_accessed_236 : decode cX11_accessed 236 = .ok (.iaload, 1) := by decide +kernel
theorem dX11_accessed_237 : decode cX11_accessed 237 = .ok (.ifCond .le 58, 3) := by decide +kernel
theorem dX11_accessed_240 : decode cX11_accessed 240 = .ok (.aload_n 0, 1) := by decide +kernel
theorem dX11_accessed_241 : decode cX11_accessed 241 = .ok (.getfield 7, 3) := by decide +kernel
theorem dX11_accessed_244 : decode cX11_accessed 244 = .ok (.sipush 1402, 3) := by decide +kernel
theorem dX11_accessed_247 : decode cX11_accessed 247 = .ok (.dup2, 1) := by decide +kernel
theorem dX11_accessed_248 : decode cX11_accessed 248 = .ok (.iaload, 1) := by decide +kernel
theorem dX11_accessed_249 : decode cX11_accessed 249 = .ok (.iconst 1, 1) := by decide +kernel
theorem dX11_accessed_250 : decode cX11_accessed 250 = .ok (.iadd, 1) := by decide +kernel
theorem dX11_accessed_251 : decode cX11_accessed 251 = .ok (.iastore, 1) := by decide +kernel
theorem dX11_accessed_252 : decode cX11_accessed 252 = .ok (.aload_n 0, 1) := by decide +kernel
theorem dX11_accessed_253 : decode cX11_accessed 253 = .ok (.getfield 7, 3) := by decide +kernel
theorem dX11_accessed_256 : decode cX11_accessed 256 = .ok (.sipush 1401, 3) := by decide +kernel
theorem dX11_accessed_259 : decode cX11_accessed 259 = .ok (.dup2, 1) := by decide +kernel
theorem dX11_accessed_260 : decode cX11_accessed 260 = .ok (.iaload, 1) := by decide +kernel
theorem dX11_accessed_261 : decode cX11_accessed 261 = .ok (.iload_n 2, 1) := by decide +kernel
theorem dX11_accessed_262 : decode cX11_accessed 262 = .ok (.ifCond .lt 7, 3) := by decide +kernel
theorem dX11_accessed_265 : decode cX11_accessed 265 = .ok (.iconst 1, 1) := by decide +kernel
theorem dX11_accessed_266 : decode cX11_accessed 266 = .ok (.goto 4, 3) := by decide +kernel
theorem dX11_accessed_269 : decode cX11_accessed 269 = .ok (.iconst 0, 1) := by decide +kernel
theorem dX11_accessed_270 : decode cX11_accessed 270 = .ok (.iadd, 1) := by decide +kernel
theorem dX11_accessed_271 : decode cX11_accessed 271 = .ok (.iastore, 1) := by decide +kernel
theorem dX11_accessed_272 : decode cX11_accessed 272 = .ok (.aload_n 0, 1) := by decide +kernel
theorem dX11_accessed_273 : decode cX11_accessed 273 = .ok (.getfield 7, 3) := by decide +kernel
theorem dX11_accessed_276 : decode cX11_accessed 276 = .ok (.sipush 1402, 3) := by decide +kernel
theorem dX11_accessed_279 : decode cX11_accessed 279 = .ok (.iaload, 1) := by decide +kernel
theorem dX11_accessed_280 : decode cX11_accessed 280 = .ok (.aload_n 0, 1) := by decide +kernel
theorem dX11_accessed_281 : decode cX11_accessed 281 = .ok (.getfield 7, 3) := by decide +kernel
theorem dX11_accessed_284 : decode cX11_accessed 284 = .ok (.sipush 605, 3) := by decide +kernel
theorem dX11_accessed_287 : decode cX11_accessed 287 = .ok (.iaload, 1) := by decide +kernel
theorem dX11_accessed_288 : decode cX11_accessed 288 = .ok (.if_icmp .ne 7, 3) := by decide +kernel
theorem dX11_accessed_291 : decode cX11_accessed 291 = .ok (.aload_n 0, 1) := by decide +kernel
theorem dX11_accessed_292 : decode cX11_accessed 292 = .ok (.invokevirtual 125, 3) := by decide +kernel
theorem dX11_accessed_295 : decode cX11_accessed 295 = .ok (.iload_n 2, 1) := by decide +kernel
theorem dX11_accessed_296 : decode cX11_accessed 296 = .ok (.ifCond .lt 9, 3) := by decide +kernel
theorem dX11_accessed_299 : decode cX11_accessed 299 = .ok (.iconst 2, 1) := by decide +kernel
theorem dX11_accessed_300 : decode cX11_accessed 300 = .ok (.iload_n 2, 1) := by decide +kernel
theorem dX11_accessed_301 : decode cX11_accessed 301 = .ok (.iadd, 1) := by decide +kernel
theorem dX11_accessed_302 : decode cX11_accessed 302 = .ok (.goto 16, 3) := by decide +kernel
theorem dX11_accessed_305 : decode cX11_accessed 305 = .ok (.aload_n 0, 1) := by decide +kernel
theorem dX11_accessed_306 : decode cX11_accessed 306 = .ok (.iload_n 1, 1) := by decide +kernel
theorem dX11_accessed_307 : decode cX11_accessed 307 = .ok (.invokevirtual 70, 3) := by decide +kernel
theorem dX11_accessed_310 : decode cX11_accessed 310 = .ok (.ifCond .lt 7, 3) := by decide +kernel
theorem dX11_accessed_313 : decode cX11_accessed 313 = .ok (.iconst 1, 1) := by decide +kernel
theorem dX11_accessed_314 : decode cX11_accessed 314 = .ok (.goto 4, 3) := by decide +kernel
theorem dX11_accessed_317 : decode cX11_accessed 317 = .ok (.iconst 0, 1) := by decide +kernel
theorem dX11_accessed_318 : decode cX11_accessed 318 = .ok (.ireturn, 1) := by decide +kernel
theorem dX11_climb_0 : decode cX11_climb 0 = .ok (.aload_n 0, 1) := by decide +kernel
theorem dX11_climb_1 : decode cX11_climb 1 = .ok (.getfield 7, 3) := by decide +kernel
theorem dX11_climb_4 : decode cX11_climb 4 = .ok (.sipush 1401, 3) := by decide +kernel
theorem dX11_climb_7 : decode cX11_climb 7 = .ok (.iaload, 1) := by decide +kernel
theorem dX11_climb_8 : decode cX11_climb 8 = .ok (.aload_n 0, 1) := by decide +kernel
theorem dX11_climb_9 : decode cX11_climb 9 = .ok (.getfield 7, 3) := by decide +kernel
theorem dX11_climb_12 : decode cX11_climb 12 = .ok (.sipush 1403, 3) := by decide +kernel
theorem dX11_climb_15 : decode cX11_climb 15 = .ok (.iaload, 1) := by decide +kernel
theorem dX11_climb_16 : decode cX11_climb 16 = .ok (.if_icmp .ge 20, 3) := by decide +kernel
theorem dX11_climb_19 : decode cX11_climb 19 = .ok (.aload_n 0, 1) := by decide +kernel
theorem dX11_climb_20 : decode cX11_climb 20 = .ok (.getfield 7, 3) := by decide +kernel
theorem dX11_climb_23 : decode cX11_climb 23 = .ok (.sipush 1400, 3) := by decide +kernel
theorem dX11_climb_26 : decode cX11_climb 26 = .ok (.aload_n 0, 1) := by decide +kernel
theorem dX11_climb_27 : decode cX11_climb 27 = .ok (.getfield 7, 3) := by decide +kernel
theorem dX11_climb_30 : decode cX11_climb 30 = .ok (.sipush 1400, 3) := by decide +kernel
theorem dX11_climb_33 : decode cX11_climb 33 = .ok (.iaload, 1) := by decide +kernel
theorem dX11_climb_34 : decode cX11_climb 34 = .ok (.ineg, 1) := by decide +kernel
theorem dX11_climb_35 : decode cX11_climb 35 = .ok (.iastore, 1) := by decide +kernel
theorem dX11_climb_36 : decode cX11_climb 36 = .ok (.aload_n 0, 1) := by decide +kernel
theorem dX11_climb_37 : decode cX11_climb 37 = .ok (.getfield 7, 3) := by decide +kernel
theorem dX11_climb_40 : decode cX11_climb 40 = .ok (.sipush 1403, 3) := by decide +kernel
theorem dX11_climb_43 : decode cX11_climb 43 = .ok (.aload_n 0, 1) := by decide +kernel
theorem dX11_climb_44 : decode cX11_climb 44 = .ok (.getfield 7, 3) := by decide +kernel
theorem dX11_climb_47 : decode cX11_climb 47 = .ok (.sipush 1401, 3) := by decide +kernel
theorem dX11_climb_50 : decode cX11_climb 50 = .ok (.iaload, 1) := by decide +kernel
theorem dX11_climb_51 : decode cX11_climb 51 = .ok (.iastore, 1) := by decide +kernel
theorem dX11_climb_52 : decode cX11_climb 52 = .ok (.aload_n 0, 1) := by decide +kernel
theorem dX11_climb_53 : decode cX11_climb 53 = .ok (.getfield 7, 3) := by decide +kernel
theorem dX11_climb_56 : decode cX11_climb 56 = .ok (.sipush 1402, 3) := by decide +kernel
theorem dX11_climb_59 : decode cX11_climb 59 = .ok (.iconst 0, 1) := by decide +kernel
theorem dX11_climb_60 : decode cX11_climb 60 = .ok (.iastore, 1) := by decide +kernel
theorem dX11_climb_61 : decode cX11_climb 61 = .ok (.aload_n 0, 1) := by decide +kernel
theorem dX11_climb_62 : decode cX11_climb 62 = .ok (.getfield 7, 3) := by decide +kernel
theorem dX11_climb_65 : decode cX11_climb 65 = .ok (.sipush 1401, 3) := by decide +kernel
theorem dX11_climb_68 : decode cX11_climb 68 = .ok (.iconst 0, 1) := by decide +kernel
theorem dX11_climb_69 : decode cX11_climb 69 = .ok (.iastore, 1) := by decide +kernel
theorem dX11_climb_70 : decode cX11_climb 70 = .ok (.aload_n 0, 1) := by decide +kernel
theorem dX11_climb_71 : decode cX11_climb 71 = .ok (.aload_n 0, 1) := by decide +kernel
theorem dX11_climb_72 : decode cX11_climb 72 = .ok (.getfield 7, 3) := by decide +kernel
theorem dX11_climb_75 : decode cX11_climb 75 = .ok (.sipush 1393, 3) := by decide +kernel
theorem dX11_climb_78 : decode cX11_climb 78 = .ok (.iaload, 1) := by decide +kernel
theorem dX11_climb_79 : decode cX11_climb 79 = .ok (.aload_n 0, 1) := by decide +kernel
theorem dX11_climb_80 : decode cX11_climb 80 = .ok (.getfield 7, 3) := by decide +kernel
theorem dX11_climb_83 : decode cX11_climb 83 = .ok (.sipush 1400, 3) := by decide +kernel
theorem dX11_climb_86 : decode cX11_climb 86 = .ok (.iaload, 1) := by decide +kernel
theorem dX11_climb_87 : decode cX11_climb 87 = .ok (.aload_n 0, 1) := by decide +kernel
theorem dX11_climb_88 : decode cX11_climb 88 = .ok (.getfield 7, 3) := by decide +kernel
theorem dX11_climb_91 : decode cX11_climb 91 = .ok (.sipush 604, 3) := by decide +kernel
theorem dX11_climb_94 : decode cX11_climb 94 = .ok (.iaload, 1) := by decide +kernel
theorem dX11_climb_95 : decode cX11_climb 95 = .ok (.imul, 1) := by decide +kernel
theorem dX11_climb_96 : decode cX11_climb 96 = .ok (.iadd, 1) := by decide +kernel
theorem dX11_climb_97 : decode cX11_climb 97 = .ok (.invokevirtual 55, 3) := by decide +kernel
theorem dX11_climb_100 : decode cX11_climb 100 = .ok (.aload_n 0, 1) := by decide +kernel
theorem dX11_climb_101 : decode cX11_climb 101 = .ok (.invokevirtual 119, 3) := by decide +kernel
theorem dX11_climb_104 : decode cX11_climb 104 = .ok (.aload_n 0, 1) := by decide +kernel
theorem dX11_climb_105 : decode cX11_climb 105 = .ok (.invokevirtual 106, 3) := by decide +kernel
theorem dX11_climb_108 : decode cX11_climb 108 = .ok (.aload_n 0, 1) := by decide +kernel
theorem dX11_climb_109 : decode cX11_climb 109 = .ok (.getfield 52, 3) := by decide +kernel
theorem dX11_climb_112 : decode cX11_climb 112 = .ok (.aload_n 0, 1) := by decide +kernel
theorem dX11_climb_113 : decode cX11_climb 113 = .ok (.getfield 7, 3) := by decide +kernel
theorem dX11_climb_116 : decode cX11_climb 116 = .ok (.sipush 1393, 3) := by decide +kernel
theorem dX11_climb_119 : decode cX11_climb 119 = .ok (.iaload, 1) := by decide +kernel
theorem dX11_climb_120 : decode cX11_climb 120 = .ok (.isub, 1) := by decide +kernel
theorem dX11_climb_121 : decode cX11_climb 121 = .ok (.if_icmp .le 29, 3) := by decide +kernel
theorem dX11_climb_124 : decode cX11_climb 124 = .ok (.aload_n 0, 1) := by decide +kernel
theorem dX11_climb_125 : decode cX11_climb 125 = .ok (.iconst 0, 1) := by decide +kernel
theorem dX11_climb_126 : decode cX11_climb 126 = .ok (.aload_n 0, 1) := by decide +kernel
theorem dX11_climb_127 : decode cX11_climb 127 = .ok (.aload_n 0, 1) := by decide +kernel
theorem dX11_climb_128 : decode cX11_climb 128 = .ok (.iconst 1, 1) := by decide +kernel
theorem dX11_climb_129 : decode cX11_climb 129 = .ok (.invokevirtual 84, 3) := by decide +kernel
theorem dX11_climb_132 : decode cX11_climb 132 = .ok (.ifCond .le 7, 3) := by decide +kernel
theorem dX11_climb_135 : decode cX11_climb 135 = .ok (.iconst 1, 1) := by decide +kernel
theorem dX11_climb_136 : decode cX11_climb 136 = .ok (.goto 4, 3) := by decide +kernel
theorem dX11_climb_139 : decode cX11_climb 139 = .ok (.iconst 2, 1) := by decide +kernel
theorem dX11_climb_140 : decode cX11_climb 140 = .ok (.iconst 0, 1) := by decide +kernel
theorem dX11_climb_141 : decode cX11_climb 141 = .ok (.invokevirtual 96, 3) := by decide +kernel
theorem dX11_climb_144 : decode cX11_climb 144 = .ok (.invokevirtual 99, 3) := by decide +kernel
theorem dX11_climb_147 : decode cX11_climb 147 = .ok (.goto (-43), 3) := by decide +kernel
theorem dX11_climb_150 : decode cX11_climb 150 = .ok (.aload_n 0, 1) := by decide +kernel
theorem dX11_climb_151 : decode cX11_climb 151 = .ok (.invokevirtual 122, 3) := by decide +kernel
theorem dX11_climb_154 : decode cX11_climb 154 = .ok (.return_, 1) := by decide +kernel
theorem dX11_access_0 : decode cX11_access 0 = .ok (.iload_n 1, 1) := by decide +kernel
theorem dX11_access_1 : decode cX11_access 1 = .ok (.invokestatic 63, 3) := by decide +kernel
theorem dX11_access_4 : decode cX11_access 4 = .ok (.ifCond .eq 11, 3) := by decide +kernel
theorem dX11_access_7 : decode cX11_access 7 = .ok (.aload_n 0, 1) := by decide +kernel
theorem dX11_access_8 : decode cX11_access 8 = .ok (.iload_n 1, 1) := by decide +kernel
theorem dX11_access_9 : decode cX11_access 9 = .ok (.invokevirtual 128, 3) := by decide +kernel
theorem dX11_access_12 : decode cX11_access 12 = .ok (.goto 5, 3) := by decide +kernel
theorem dX11_access_15 : decode cX11_access 15 = .ok (.bipush (-2), 2) := by decide +kernel
theorem dX11_access_17 : decode cX11_access 17 = .ok (.ireturn, 1) := by decide +kernel
theorem dX11_run_0 : decode cX11_run 0 = .ok (.iload_n 1, 1) := by decide +kernel
theorem dX11_run_1 : decode cX11_run 1 = .ok (.invokestatic 63, 3) := by decide +kernel
theorem dX11_run_4 : decode cX11_run 4 = .ok (.ifCond .eq 23, 3) := by decide +kernel
theorem dX11_run_7 : decode cX11_run 7 = .ok (.iload_n 2, 1) := by decide +kernel
theorem dX11_run_8 : decode cX11_run 8 = .ok (.iconst 0, 1) := by decide +kernel
theorem dX11_run_9 : decode cX11_run 9 = .ok (.bipush 99, 2) := by decide +kernel
theorem dX11_run_11 : decode cX11_run 11 = .ok (.invokestatic 59, 3) := by decide +kernel
theorem dX11_run_14 : decode cX11_run 14 = .ok (.ifCond .eq 13, 3) := by decide +kernel
theorem dX11_run_17 : decode cX11_run 17 = .ok (.iload_n 3, 1) := by decide +kernel
theorem dX11_run_18 : decode cX11_run 18 = .ok (.iconst 1, 1) := by decide +kernel
theorem dX11_run_19 : decode cX11_run 19 = .ok (.bipush 100, 2) := by decide +kernel
theorem dX11_run_21 : decode cX11_run 21 = .ok (.invokestatic 59, 3) := by decide +kernel
theorem dX11_run_24 : decode cX11_run 24 = .ok (.ifCond .ne 6, 3) := by decide +kernel
theorem dX11_run_27 : decode cX11_run 27 = .ok (.bipush (-2), 2) := by decide +kernel
theorem dX11_run_29 : decode cX11_run 29 = .ok (.ireturn, 1) := by decide +kernel
theorem dX11_run_30 : decode cX11_run 30 = .ok (.aload_n 0, 1) := by decide +kernel
theorem dX11_run_31 : decode cX11_run 31 = .ok (.getfield 7, 3) := by decide +kernel
theorem dX11_run_34 : decode cX11_run 34 = .ok (.sipush 1398, 3) := by decide +kernel
theorem dX11_run_37 : decode cX11_run 37 = .ok (.iaload, 1) := by decide +kernel
theorem dX11_run_38 : decode cX11_run 38 = .ok (.istore 4, 2) := by decide +kernel
theorem dX11_run_40 : decode cX11_run 40 = .ok (.iconst 0, 1) := by decide +kernel
theorem dX11_run_41 : decode cX11_run 41 = .ok (.istore 5, 2) := by decide +kernel
theorem dX11_run_43 : decode cX11_run 43 = .ok (.iload 5, 2) := by decide +kernel
theorem dX11_run_45 : decode cX11_run 45 = .ok (.iload_n 3, 1) := by decide +kernel
theorem dX11_run_46 : decode cX11_run 46 = .ok (.if_icmp .ge 24, 3) := by decide +kernel
theorem dX11_run_49 : decode cX11_run 49 = .ok (.aload_n 0, 1) := by decide +kernel
theorem dX11_run_50 : decode cX11_run 50 = .ok (.iload_n 1, 1) := by decide +kernel
theorem dX11_run_51 : decode cX11_run 51 = .ok (.iload 5, 2) := by decide +kernel
theorem dX11_run_53 : decode cX11_run 53 = .ok (.iload_n 2, 1) := by decide +kernel
theorem dX11_run_54 : decode cX11_run 54 = .ok (.imul, 1) := by decide +kernel
theorem dX11_run_55 : decode cX11_run 55 = .ok (.iadd, 1) := by decide +kernel
theorem dX11_run_56 : decode cX11_run 56 = .ok (.bipush 100, 2) := by decide +kernel
theorem dX11_run_58 : decode cX11_run 58 = .ok (.irem, 1) := by decide +kernel
theorem dX11_run_59 : decode cX11_run 59 = .ok (.invokevirtual 128, 3) := by decide +kernel
theorem dX11_run_62 : decode cX11_run 62 = .ok (.istore 6, 2) := by decide +kernel
theorem dX11_run_64 : decode cX11_run 64 = .ok (.iinc 5 1, 3) := by decide +kernel
theorem dX11_run_67 : decode cX11_run 67 = .ok (.goto (-24), 3) := by decide +kernel
theorem dX11_run_70 : decode cX11_run 70 = .ok (.aload_n 0, 1) := by decide +kernel
theorem dX11_run_71 : decode cX11_run 71 = .ok (.getfield 7, 3) := by decide +kernel
theorem dX11_run_74 : decode cX11_run 74 = .ok (.sipush 1398, 3) := by decide +kernel
theorem dX11_run_77 : decode cX11_run 77 = .ok (.iaload, 1) := by decide +kernel
theorem dX11_run_78 : decode cX11_run 78 = .ok (.iload 4, 2) := by decide +kernel
theorem dX11_run_80 : decode cX11_run 80 = .ok (.isub, 1) := by decide +kernel
theorem dX11_run_81 : decode cX11_run 81 = .ok (.ireturn, 1) := by decide +kernel
theorem dX11_add_0 : decode cX11_add 0 = .ok (.iload_n 1, 1) := by decide +kernel
theorem dX11_add_1 : decode cX11_add 1 = .ok (.invokestatic 63, 3) := by decide +kernel
theorem dX11_add_4 : decode cX11_add 4 = .ok (.ifCond .ne 6, 3) := by decide +kernel
theorem dX11_add_7 : decode cX11_add 7 = .ok (.bipush (-2), 2) := by decide +kernel
theorem dX11_add_9 : decode cX11_add 9 = .ok (.ireturn, 1) := by decide +kernel
theorem dX11_add_10 : decode cX11_add 10 = .ok (.aload_n 0, 1) := by decide +kernel
theorem dX11_add_11 : decode cX11_add 11 = .ok (.iload_n 1, 1) := by decide +kernel
theorem dX11_add_12 : decode cX11_add 12 = .ok (.invokevirtual 116, 3) := by decide +kernel
theorem dX11_add_15 : decode cX11_add 15 = .ok (.aload_n 0, 1) := by decide +kernel
theorem dX11_add_16 : decode cX11_add 16 = .ok (.iload_n 1, 1) := by decide +kernel
theorem dX11_add_17 : decode cX11_add 17 = .ok (.invokevirtual 113, 3) := by decide +kernel
theorem dX11_add_20 : decode cX11_add 20 = .ok (.ireturn, 1) := by decide +kernel
theorem dX11_estimate_0 : decode cX11_estimate 0 = .ok (.iload_n 1, 1) := by decide +kernel
theorem dX11_estimate_1 : decode cX11_estimate 1 = .ok (.invokestatic 63, 3) := by decide +kernel
theorem dX11_estimate_4 : decode cX11_estimate 4 = .ok (.ifCond .eq 11, 3) := by decide +kernel
theorem dX11_estimate_7 : decode cX11_estimate 7 = .ok (.aload_n 0, 1) := by decide +kernel
theorem dX11_estimate_8 : decode cX11_estimate 8 = .ok (.iload_n 1, 1) := by decide +kernel
theorem dX11_estimate_9 : decode cX11_estimate 9 = .ok (.invokevirtual 113, 3) := by decide +kernel
theorem dX11_estimate_12 : decode cX11_estimate 12 = .ok (.goto 5, 3) := by decide +kernel
theorem dX11_estimate_15 : decode cX11_estimate 15 = .ok (.bipush (-2), 2) := by decide +kernel
theorem dX11_estimate_17 : decode cX11_estimate 17 = .ok (.ireturn, 1) := by decide +kernel
theorem dX11_counter_0 : decode cX11_counter 0 = .ok (.iload_n 1, 1) := by decide +kernel
theorem dX11_counter_1 : decode cX11_counter 1 = .ok (.iconst 0, 1) := by decide +kernel
theorem dX11_counter_2 : decode cX11_counter 2 = .ok (.aload_n 0, 1) := by decide +kernel
theorem dX11_counter_3 : decode cX11_counter 3 = .ok (.getfield 48, 3) := by decide +kernel
theorem dX11_counter_6 : decode cX11_counter 6 = .ok (.iconst 1, 1) := by decide +kernel
theorem dX11_counter_7 : decode cX11_counter 7 = .ok (.isub, 1) := by decide +kernel
theorem dX11_counter_8 : decode cX11_counter 8 = .ok (.invokestatic 59, 3) := by decide +kernel
theorem dX11_counter_11 : decode cX11_counter 11 = .ok (.ifCond .eq 31, 3) := by decide +kernel
theorem dX11_counter_14 : decode cX11_counter 14 = .ok (.iload_n 2, 1) := by decide +kernel
theorem dX11_counter_15 : decode cX11_counter 15 = .ok (.iconst 0, 1) := by decide +kernel
theorem dX11_counter_16 : decode cX11_counter 16 = .ok (.bipush 63, 2) := by decide +kernel
theorem dX11_counter_18 : decode cX11_counter 18 = .ok (.invokestatic 59, 3) := by decide +kernel
theorem dX11_counter_21 : decode cX11_counter 21 = .ok (.ifCond .eq 21, 3) := by decide +kernel
theorem dX11_counter_24 : decode cX11_counter 24 = .ok (.aload_n 0, 1) := by decide +kernel
theorem dX11_counter_25 : decode cX11_counter 25 = .ok (.getfield 7, 3) := by decide +kernel
theorem dX11_counter_28 : decode cX11_counter 28 = .ok (.sipush 606, 3) := by decide +kernel
theorem dX11_counter_31 : decode cX11_counter 31 = .ok (.bipush 64, 2) := by decide +kernel
theorem dX11_counter_33 : decode cX11_counter 33 = .ok (.iload_n 1, 1) := by decide +kernel
theorem dX11_counter_34 : decode cX11_counter 34 = .ok (.imul, 1) := by decide +kernel
theorem dX11_counter_35 : decode cX11_counter 35 = .ok (.iadd, 1) := by decide +kernel
theorem dX11_counter_36 : decode cX11_counter 36 = .ok (.iload_n 2, 1) := by decide +kernel
theorem dX11_counter_37 : decode cX11_counter 37 = .ok (.iadd, 1) := by decide +kernel
theorem dX11_counter_38 : decode cX11_counter 38 = .ok (.iaload, 1) := by decide +kernel
theorem dX11_counter_39 : decode cX11_counter 39 = .ok (.goto 5, 3) := by decide +kernel
theorem dX11_counter_42 : decode cX11_counter 42 = .ok (.bipush (-2), 2) := by decide +kernel
theorem dX11_counter_44 : decode cX11_counter 44 = .ok (.ireturn, 1) := by decide +kernel
theorem dX11_bit_0 : decode cX11_bit 0 = .ok (.iload_n 1, 1) := by decide +kernel
theorem dX11_bit_1 : decode cX11_bit 1 = .ok (.iconst 0, 1) := by decide +kernel
theorem dX11_bit_2 : decode cX11_bit 2 = .ok (.bipush 127, 2) := by decide +kernel
theorem dX11_bit_4 : decode cX11_bit 4 = .ok (.invokestatic 59, 3) := by decide +kernel
theorem dX11_bit_7 : decode cX11_bit 7 = .ok (.ifCond .eq 16, 3) := by decide +kernel
theorem dX11_bit_10 : decode cX11_bit 10 = .ok (.aload_n 0, 1) := by decide +kernel
theorem dX11_bit_11 : decode cX11_bit 11 = .ok (.getfield 7, 3) := by decide +kernel
theorem dX11_bit_14 : decode cX11_bit 14 = .ok (.sipush 862, 3) := by decide +kernel
theorem dX11_bit_17 : decode cX11_bit 17 = .ok (.iload_n 1, 1) := by decide +kernel
theorem dX11_bit_18 : decode cX11_bit 18 = .ok (.iadd, 1) := by decide +kernel
theorem dX11_bit_19 : decode cX11_bit 19 = .ok (.iaload, 1) := by decide +kernel
theorem dX11_bit_20 : decode cX11_bit 20 = .ok (.goto 5, 3) := by decide +kernel
theorem dX11_bit_23 : decode cX11_bit 23 = .ok (.bipush (-2), 2) := by decide +kernel
theorem dX11_bit_25 : decode cX11_bit 25 = .ok (.ireturn, 1) := by decide +kernel
theorem dX11_remove_0 : decode cX11_remove 0 = .ok (.iload_n 1, 1) := by decide +kernel
theorem dX11_remove_1 : decode cX11_remove 1 = .ok (.invokestatic 63, 3) := by decide +kernel
theorem dX11_remove_4 : decode cX11_remove 4 = .ok (.ifCond .ne 6, 3) := by decide +kernel
theorem dX11_remove_7 : decode cX11_remove 7 = .ok (.bipush (-2), 2) := by decide +kernel
theorem dX11_remove_9 : decode cX11_remove 9 = .ok (.ireturn, 1) := by decide +kernel
theorem dX11_remove_10 : decode cX11_remove 10 = .ok (.aload_n 0, 1) := by decide +kernel
theorem dX11_remove_11 : decode cX11_remove 11 = .ok (.iload_n 1, 1) := by decide +kernel
theorem dX11_remove_12 : decode cX11_remove 12 = .ok (.invokevirtual 70, 3) := by decide +kernel
theorem dX11_remove_15 : decode cX11_remove 15 = .ok (.istore_n 2, 1) := by decide +kernel
theorem dX11_remove_16 : decode cX11_remove 16 = .ok (.iload_n 2, 1) := by decide +kernel
theorem dX11_remove_17 : decode cX11_remove 17 = .ok (.ifCond .lt 15, 3) := by decide +kernel
theorem dX11_remove_20 : decode cX11_remove 20 = .ok (.aload_n 0, 1) := by decide +kernel
theorem dX11_remove_21 : decode cX11_remove 21 = .ok (.iload_n 2, 1) := by decide +kernel
theorem dX11_remove_22 : decode cX11_remove 22 = .ok (.aload_n 0, 1) := by decide +kernel
theorem dX11_remove_23 : decode cX11_remove 23 = .ok (.iload_n 2, 1) := by decide +kernel
theorem dX11_remove_24 : decode cX11_remove 24 = .ok (.iload_n 1, 1) := by decide +kernel
theorem dX11_remove_25 : decode cX11_remove 25 = .ok (.invokevirtual 90, 3) := by decide +kernel
theorem dX11_remove_28 : decode cX11_remove 28 = .ok (.invokevirtual 96, 3) := by decide +kernel
theorem dX11_remove_31 : decode cX11_remove 31 = .ok (.istore_n 3, 1) := by decide +kernel
theorem dX11_remove_32 : decode cX11_remove 32 = .ok (.iload_n 2, 1) := by decide +kernel
theorem dX11_remove_33 : decode cX11_remove 33 = .ok (.ireturn, 1) := by decide +kernel
theorem dX11_where_0 : decode cX11_where 0 = .ok (.iload_n 1, 1) := by decide +kernel
theorem dX11_where_1 : decode cX11_where 1 = .ok (.invokestatic 63, 3) := by decide +kernel
theorem dX11_where_4 : decode cX11_where 4 = .ok (.ifCond .eq 11, 3) := by decide +kernel
theorem dX11_where_7 : decode cX11_where 7 = .ok (.aload_n 0, 1) := by decide +kernel
theorem dX11_where_8 : decode cX11_where 8 = .ok (.iload_n 1, 1) := by decide +kernel
theorem dX11_where_9 : decode cX11_where 9 = .ok (.invokevirtual 70, 3) := by decide +kernel
theorem dX11_where_12 : decode cX11_where 12 = .ok (.goto 5, 3) := by decide +kernel
theorem dX11_where_15 : decode cX11_where 15 = .ok (.bipush (-2), 2) := by decide +kernel
theorem dX11_where_17 : decode cX11_where 17 = .ok (.ireturn, 1) := by decide +kernel
theorem dX11_key_0 : decode cX11_key 0 = .ok (.iload_n 1, 1) := by decide +kernel
theorem dX11_key_1 : decode cX11_key 1 = .ok (.iconst 0, 1) := by decide +kernel
theorem dX11_key_2 : decode cX11_key 2 = .ok (.iconst 2, 1) := by decide +kernel
theorem dX11_key_3 : decode cX11_key 3 = .ok (.invokestatic 59, 3) := by decide +kernel
theorem dX11_key_6 : decode cX11_key 6 = .ok (.ifCond .ne 6, 3) := by decide +kernel
theorem dX11_key_9 : decode cX11_key 9 = .ok (.bipush (-2), 2) := by decide +kernel
theorem dX11_key_11 : decode cX11_key 11 = .ok (.ireturn, 1) := by decide +kernel
theorem dX11_key_12 : decode cX11_key 12 = .ok (.iload_n 2, 1) := by decide +kernel
theorem dX11_key_13 : decode cX11_key 13 = .ok (.iconst 0, 1) := by decide +kernel
theorem dX11_key_14 : decode cX11_key 14 = .ok (.aload_n 0, 1) := by decide +kernel
theorem dX11_key_15 : decode cX11_key 15 = .ok (.iload_n 1, 1) := by decide +kernel
theorem dX11_key_16 : decode cX11_key 16 = .ok (.invokevirtual 84, 3) := by decide +kernel
theorem dX11_key_19 : decode cX11_key 19 = .ok (.iconst 1, 1) := by decide +kernel
theorem dX11_key_20 : decode cX11_key 20 = .ok (.isub, 1) := by decide +kernel
theorem dX11_key_21 : decode cX11_key 21 = .ok (.invokestatic 59, 3) := by decide +kernel
theorem dX11_key_24 : decode cX11_key 24 = .ok (.ifCond .eq 12, 3) := by decide +kernel
theorem dX11_key_27 : decode cX11_key 27 = .ok (.aload_n 0, 1) := by decide +kernel
theorem dX11_key_28 : decode cX11_key 28 = .ok (.iload_n 1, 1) := by decide +kernel
theorem dX11_key_29 : decode cX11_key 29 = .ok (.iload_n 2, 1) := by decide +kernel
theorem dX11_key_30 : decode cX11_key 30 = .ok (.invokevirtual 87, 3) := by decide +kernel
theorem dX11_key_33 : decode cX11_key 33 = .ok (.goto 4, 3) := by decide +kernel
theorem dX11_key_36 : decode cX11_key 36 = .ok (.iconst (-1), 1) := by decide +kernel
theorem dX11_key_37 : decode cX11_key 37 = .ok (.ireturn, 1) := by decide +kernel
theorem dX11_about_0 : decode cX11_about 0 = .ok (.iload_n 1, 1) := by decide +kernel
theorem dX11_about_1 : decode cX11_about 1 = .ok (.tableswitch 213 0 15 #[79, 88, 97, 97, 97, 105, 123, 132, 141, 150, 159, 168, 177, 186, 195, 204], 79) := by decide +kernel
theorem dX11_about_80 : decode cX11_about 80 = .ok (.aload_n 0, 1) := by decide +kernel
theorem dX11_about_81 : decode cX11_about 81 = .ok (.getfield 7, 3) := by decide +kernel
theorem dX11_about_84 : decode cX11_about 84 = .ok (.sipush 1393, 3) := by decide +kernel
theorem dX11_about_87 : decode cX11_about 87 = .ok (.iaload, 1) := by decide +kernel
theorem dX11_about_88 : decode cX11_about 88 = .ok (.ireturn, 1) := by decide +kernel
theorem dX11_about_89 : decode cX11_about 89 = .ok (.aload_n 0, 1) := by decide +kernel
theorem dX11_about_90 : decode cX11_about 90 = .ok (.getfield 7, 3) := by decide +kernel
theorem dX11_about_93 : decode cX11_about 93 = .ok (.sipush 1394, 3) := by decide +kernel
theorem dX11_about_96 : decode cX11_about 96 = .ok (.iaload, 1) := by decide +kernel
theorem dX11_about_97 : decode cX11_about 97 = .ok (.ireturn, 1) := by decide +kernel
theorem dX11_about_98 : decode cX11_about 98 = .ok (.aload_n 0, 1) := by decide +kernel
theorem dX11_about_99 : decode cX11_about 99 = .ok (.iload_n 1, 1) := by decide +kernel
theorem dX11_about_100 : decode cX11_about 100 = .ok (.iconst 2, 1) := by decide +kernel
theorem dX11_about_101 : decode cX11_about 101 = .ok (.isub, 1) := by decide +kernel
theorem dX11_about_102 : decode cX11_about 102 = .ok (.invokevirtual 93, 3) := by decide +kernel
theorem dX11_about_105 : decode cX11_about 105 = .ok (.ireturn, 1) := by decide +kernel
theorem dX11_about_106 : decode cX11_about 106 = .ok (.aload_n 0, 1) := by decide +kernel
theorem dX11_about_107 : decode cX11_about 107 = .ok (.iconst 0, 1) := by decide +kernel
theorem dX11_about_108 : decode cX11_about 108 = .ok (.invokevirtual 84, 3) := by decide +kernel
theorem dX11_about_111 : decode cX11_about 111 = .ok (.aload_n 0, 1) := by decide +kernel
theorem dX11_about_112 : decode cX11_about 112 = .ok (.iconst 1, 1) := by decide +kernel
theorem dX11_about_113 : decode cX11_about 113 = .ok (.invokevirtual 84, 3) := by decide +kernel
theorem dX11_about_116 : decode cX11_about 116 = .ok (.iadd, 1) := by decide +kernel
theorem dX11_about_117 : decode cX11_about 117 = .ok (.aload_n 0, 1) := by decide +kernel
theorem dX11_about_118 : decode cX11_about 118 = .ok (.iconst 2, 1) := by decide +kernel
theorem dX11_about_119 : decode cX11_about 119 = .ok (.invokevirtual 84, 3) := by decide +kernel
theorem dX11_about_122 : decode cX11_about 122 = .ok (.iadd, 1) := by decide +kernel
theorem dX11_about_123 : decode cX11_about 123 = .ok (.ireturn, 1) := by decide +kernel
theorem dX11_about_124 : decode cX11_about 124 = .ok (.aload_n 0, 1) := by decide +kernel
theorem dX11_about_125 : decode cX11_about 125 = .ok (.getfield 7, 3) := by decide +kernel
theorem dX11_about_128 : decode cX11_about 128 = .ok (.sipush 1395, 3) := by decide +kernel
theorem dX11_about_131 : decode cX11_about 131 = .ok (.iaload, 1) := by decide +kernel
theorem dX11_about_132 : decode cX11_about 132 = .ok (.ireturn, 1) := by decide +kernel
theorem dX11_about_133 : decode cX11_about 133 = .ok (.aload_n 0, 1) := by decide +kernel
theorem dX11_about_134 : decode cX11_about 134 = .ok (.getfield 7, 3) := by decide +kernel
theorem dX11_about_137 : decode cX11_about 137 = .ok (.sipush 1396, 3) := by decide +kernel
theorem dX11_about_140 : decode cX11_about 140 = .ok (.iaload, 1) := by decide +kernel
theorem dX11_about_141 : decode cX11_about 141 = .ok (.ireturn, 1) := by decide +kernel
theorem dX11_about_142 : decode cX11_about 142 = .ok (.aload_n 0, 1) := by decide +kernel
theorem dX11_about_143 : decode cX11_about 143 = .ok (.getfield 7, 3) := by decide +kernel
theorem dX11_about_146 : decode cX11_about 146 = .ok (.sipush 1397, 3) := by decide +kernel
theorem dX11_about_149 : decode cX11_about 149 = .ok (.iaload, 1) := by decide +kernel
theorem dX11_about_150 : decode cX11_about 150 = .ok (.ireturn, 1) := by decide +kernel
theorem dX11_about_151 : decode cX11_about 151 = .ok (.aload_n 0, 1) := by decide +kernel
theorem dX11_about_152 : decode cX11_about 152 = .ok (.getfield 7, 3) := by decide +kernel
theorem dX11_about_155 : decode cX11_about 155 = .ok (.sipush 1398, 3) := by decide +kernel
theorem dX11_about_158 : decode cX11_about 158 = .ok (.iaload, 1) := by decide +kernel
theorem dX11_about_159 : decode cX11_about 159 = .ok (.ireturn, 1) := by decide +kernel
theorem dX11_about_160 : decode cX11_about 160 = .ok (.aload_n 0, 1) := by decide +kernel
theorem dX11_about_161 : decode cX11_about 161 = .ok (.getfield 7, 3) := by decide +kernel
theorem dX11_about_164 : decode cX11_about 164 = .ok (.sipush 1399, 3) := by decide +kernel
theorem dX11_about_167 : decode cX11_about 167 = .ok (.iaload, 1) := by decide +kernel
theorem dX11_about_168 : decode cX11_about 168 = .ok (.ireturn, 1) := by decide +kernel
theorem dX11_about_169 : decode cX11_about 169 = .ok (.aload_n 0, 1) := by decide +kernel
theorem dX11_about_170 : decode cX11_about 170 = .ok (.getfield 7, 3) := by decide +kernel
theorem dX11_about_173 : decode cX11_about 173 = .ok (.sipush 1400, 3) := by decide +kernel
theorem dX11_about_176 : decode cX11_about 176 = .ok (.iaload, 1) := by decide +kernel
theorem dX11_about_177 : decode cX11_about 177 = .ok (.ireturn, 1) := by decide +kernel
theorem dX11_about_178 : decode cX11_about 178 = .ok (.aload_n 0, 1) := by decide +kernel
theorem dX11_about_179 : decode cX11_about 179 = .ok (.getfield 7, 3) := by decide +kernel
theorem dX11_about_182 : decode cX11_about 182 = .ok (.sipush 1401, 3) := by decide +kernel
theorem dX11_about_185 : decode cX11_about 185 = .ok (.iaload, 1) := by decide +kernel
theorem dX11_about_186 : decode cX11_about 186 = .ok (.ireturn, 1) := by decide +kernel
theorem dX11_about_187 : decode cX11_about 187 = .ok (.aload_n 0, 1) := by decide +kernel
theorem dX11_about_188 : decode cX11_about 188 = .ok (.getfield 7, 3) := by decide +kernel
theorem dX11_about_191 : decode cX11_about 191 = .ok (.sipush 1402, 3) := by decide +kernel
theorem dX11_about_194 : decode cX11_about 194 = .ok (.iaload, 1) := by decide +kernel
theorem dX11_about_195 : decode cX11_about 195 = .ok (.ireturn, 1) := by decide +kernel
theorem dX11_about_196 : decode cX11_about 196 = .ok (.aload_n 0, 1) := by decide +kernel
theorem dX11_about_197 : decode cX11_about 197 = .ok (.getfield 7, 3) := by decide +kernel
theorem dX11_about_200 : decode cX11_about 200 = .ok (.sipush 1403, 3) := by decide +kernel
theorem dX11_about_203 : decode cX11_about 203 = .ok (.iaload, 1) := by decide +kernel
theorem dX11_about_204 : decode cX11_about 204 = .ok (.ireturn, 1) := by decide +kernel
theorem dX11_about_205 : decode cX11_about 205 = .ok (.aload_n 0, 1) := by decide +kernel
theorem dX11_about_206 : decode cX11_about 206 = .ok (.getfield 7, 3) := by decide +kernel
theorem dX11_about_209 : decode cX11_about 209 = .ok (.sipush 1404, 3) := by decide +kernel
theorem dX11_about_212 : decode cX11_about 212 = .ok (.iaload, 1) := by decide +kernel
theorem dX11_about_213 : decode cX11_about 213 = .ok (.ireturn, 1) := by decide +kernel
theorem dX11_about_214 : decode cX11_about 214 = .ok (.bipush (-2), 2) := by decide +kernel
theorem dX11_about_216 : decode cX11_about 216 = .ok (.ireturn, 1) := by decide +kernel
theorem dX11_trace_0 : decode cX11_trace 0 = .ok (.iload_n 1, 1) := by decide +kernel
theorem dX11_trace_1 : decode cX11_trace 1 = .ok (.iconst 0, 1) := by decide +kernel
theorem dX11_trace_2 : decode cX11_trace 2 = .ok (.aload_n 0, 1) := by decide +kernel
theorem dX11_trace_3 : decode cX11_trace 3 = .ok (.getfield 7, 3) := by decide +kernel
theorem dX11_trace_6 : decode cX11_trace 6 = .ok (.sipush 1404, 3) := by decide +kernel
theorem dX11_trace_9 : decode cX11_trace 9 = .ok (.iaload, 1) := by decide +kernel
theorem dX11_trace_10 : decode cX11_trace 10 = .ok (.iconst 1, 1) := by decide +kernel
theorem dX11_trace_11 : decode cX11_trace 11 = .ok (.isub, 1) := by decide +kernel
theorem dX11_trace_12 : decode cX11_trace 12 = .ok (.invokestatic 59, 3) := by decide +kernel
theorem dX11_trace_15 : decode cX11_trace 15 = .ok (.ifCond .eq 16, 3) := by decide +kernel
theorem dX11_trace_18 : decode cX11_trace 18 = .ok (.aload_n 0, 1) := by decide +kernel
theorem dX11_trace_19 : decode cX11_trace 19 = .ok (.getfield 7, 3) := by decide +kernel
theorem dX11_trace_22 : decode cX11_trace 22 = .ok (.sipush 1405, 3) := by decide +kernel
theorem dX11_trace_25 : decode cX11_trace 25 = .ok (.iload_n 1, 1) := by decide +kernel
theorem dX11_trace_26 : decode cX11_trace 26 = .ok (.iadd, 1) := by decide +kernel
theorem dX11_trace_27 : decode cX11_trace 27 = .ok (.iaload, 1) := by decide +kernel
theorem dX11_trace_28 : decode cX11_trace 28 = .ok (.goto 4, 3) := by decide +kernel
theorem dX11_trace_31 : decode cX11_trace 31 = .ok (.iconst (-1), 1) := by decide +kernel
theorem dX11_trace_32 : decode cX11_trace 32 = .ok (.ireturn, 1) := by decide +kernel
theorem dX11_seatOf_0 : decode cX11_seatOf 0 = .ok (.iconst 0, 1) := by decide +kernel
theorem dX11_seatOf_1 : decode cX11_seatOf 1 = .ok (.istore_n 2, 1) := by decide +kernel
theorem dX11_seatOf_2 : decode cX11_seatOf 2 = .ok (.iload_n 2, 1) := by decide +kernel
theorem dX11_seatOf_3 : decode cX11_seatOf 3 = .ok (.aload_n 0, 1) := by decide +kernel
theorem dX11_seatOf_4 : decode cX11_seatOf 4 = .ok (.getfield 131, 3) := by decide +kernel
theorem dX11_seatOf_7 : decode cX11_seatOf 7 = .ok (.if_icmp .ge 21, 3) := by decide +kernel
theorem dX11_seatOf_10 : decode cX11_seatOf 10 = .ok (.aload_n 0, 1) := by decide +kernel
theorem dX11_seatOf_11 : decode cX11_seatOf 11 = .ok (.getfield 23, 3) := by decide +kernel
theorem dX11_seatOf_14 : decode cX11_seatOf 14 = .ok (.iload_n 2, 1) := by decide +kernel
theorem dX11_seatOf_15 : decode cX11_seatOf 15 = .ok (.iaload, 1) := by decide +kernel
theorem dX11_seatOf_16 : decode cX11_seatOf 16 = .ok (.iload_n 1, 1) := by decide +kernel
theorem dX11_seatOf_17 : decode cX11_seatOf 17 = .ok (.if_icmp .ne 5, 3) := by decide +kernel
theorem dX11_seatOf_20 : decode cX11_seatOf 20 = .ok (.iload_n 2, 1) := by decide +kernel
theorem dX11_seatOf_21 : decode cX11_seatOf 21 = .ok (.ireturn, 1) := by decide +kernel
theorem dX11_seatOf_22 : decode cX11_seatOf 22 = .ok (.iinc 2 1, 3) := by decide +kernel
theorem dX11_seatOf_25 : decode cX11_seatOf 25 = .ok (.goto (-23), 3) := by decide +kernel
theorem dX11_seatOf_28 : decode cX11_seatOf 28 = .ok (.iconst (-1), 1) := by decide +kernel
theorem dX11_seatOf_29 : decode cX11_seatOf 29 = .ok (.ireturn, 1) := by decide +kernel
theorem dX11_again_0 : decode cX11_again 0 = .ok (.iload_n 2, 1) := by decide +kernel
theorem dX11_again_1 : decode cX11_again 1 = .ok (.iconst 1, 1) := by decide +kernel
theorem dX11_again_2 : decode cX11_again 2 = .ok (.iadd, 1) := by decide +kernel
theorem dX11_again_3 : decode cX11_again 3 = .ok (.istore 4, 2) := by decide +kernel
theorem dX11_again_5 : decode cX11_again 5 = .ok (.iload 4, 2) := by decide +kernel
theorem dX11_again_7 : decode cX11_again 7 = .ok (.iload_n 3, 1) := by decide +kernel
theorem dX11_again_8 : decode cX11_again 8 = .ok (.if_icmp .ge 27, 3) := by decide +kernel
theorem dX11_again_11 : decode cX11_again 11 = .ok (.aload_n 0, 1) := by decide +kernel
theorem dX11_again_12 : decode cX11_again 12 = .ok (.getfield 7, 3) := by decide +kernel
theorem dX11_again_15 : decode cX11_again 15 = .ok (.sipush 1405, 3) := by decide +kernel
theorem dX11_again_18 : decode cX11_again 18 = .ok (.iload 4, 2) := by decide +kernel
theorem dX11_again_20 : decode cX11_again 20 = .ok (.iadd, 1) := by decide +kernel
theorem dX11_again_21 : decode cX11_again 21 = .ok (.iaload, 1) := by decide +kernel
theorem dX11_again_22 : decode cX11_again 22 = .ok (.iload_n 1, 1) := by decide +kernel
theorem dX11_again_23 : decode cX11_again 23 = .ok (.if_icmp .ne 6, 3) := by decide +kernel
theorem dX11_again_26 : decode cX11_again 26 = .ok (.iload 4, 2) := by decide +kernel
theorem dX11_again_28 : decode cX11_again 28 = .ok (.ireturn, 1) := by decide +kernel
theorem dX11_again_29 : decode cX11_again 29 = .ok (.iinc 4 1, 3) := by decide +kernel
theorem dX11_again_32 : decode cX11_again 32 = .ok (.goto (-27), 3) := by decide +kernel
theorem dX11_again_35 : decode cX11_again 35 = .ok (.sipush 1000, 3) := by decide +kernel
theorem dX11_again_38 : decode cX11_again 38 = .ok (.ireturn, 1) := by decide +kernel
theorem dX11_isSooner_0 : decode cX11_isSooner 0 = .ok (.iload_n 1, 1) := by decide +kernel
theorem dX11_isSooner_1 : decode cX11_isSooner 1 = .ok (.tableswitch 124 0 3 #[31, 52, 124, 73], 31) := by decide +kernel
theorem dX11_isSooner_32 : decode cX11_isSooner 32 = .ok (.aload_n 0, 1) := by decide +kernel
theorem dX11_isSooner_33 : decode cX11_isSooner 33 = .ok (.getfield 32, 3) := by decide +kernel
theorem dX11_isSooner_36 : decode cX11_isSooner 36 = .ok (.iload_n 2, 1) := by decide +kernel
theorem dX11_isSooner_37 : decode cX11_isSooner 37 = .ok (.iaload, 1) := by decide +kernel
theorem dX11_isSooner_38 : decode cX11_isSooner 38 = .ok (.aload_n 0, 1) := by decide +kernel
theorem dX11_isSooner_39 : decode cX11_isSooner 39 = .ok (.getfield 32, 3) := by decide +kernel
theorem dX11_isSooner_42 : decode cX11_isSooner 42 = .ok (.iload_n 3, 1) := by decide +kernel
theorem dX11_isSooner_43 : decode cX11_isSooner 43 = .ok (.iaload, 1) := by decide +kernel
theorem dX11_isSooner_44 : decode cX11_isSooner 44 = .ok (.if_icmp .ge 7, 3) := by decide +kernel
theorem dX11_isSooner_47 : decode cX11_isSooner 47 = .ok (.iconst 1, 1) := by decide +kernel
theorem dX11_isSooner_48 : decode cX11_isSooner 48 = .ok (.goto 4, 3) := by decide +kernel
theorem dX11_isSooner_51 : decode cX11_isSooner 51 = .ok (.iconst 0, 1) := by decide +kernel
theorem dX11_isSooner_52 : decode cX11_isSooner 52 = .ok (.ireturn, 1) := by decide +kernel
theorem dX11_isSooner_53 : decode cX11_isSooner 53 = .ok (.aload_n 0, 1) := by decide +kernel
theorem dX11_isSooner_54 : decode cX11_isSooner 54 = .ok (.getfield 35, 3) := by decide +kernel
theorem dX11_isSooner_57 : decode cX11_isSooner 57 = .ok (.iload_n 2, 1) := by decide +kernel
theorem dX11_isSooner_58 : decode cX11_isSooner 58 = .ok (.iaload, 1) := by decide +kernel
theorem dX11_isSooner_59 : decode cX11_isSooner 59 = .ok (.aload_n 0, 1) := by decide +kernel
theorem dX11_isSooner_60 : decode cX11_isSooner 60 = .ok (.getfield 35, 3) := by decide +kernel
theorem dX11_isSooner_63 : decode cX11_isSooner 63 = .ok (.iload_n 3, 1) := by decide +kernel
theorem dX11_isSooner_64 : decode cX11_isSooner 64 = .ok (.iaload, 1) := by decide +kernel
theorem dX11_isSooner_65 : decode cX11_isSooner 65 = .ok (.if_icmp .ge 7, 3) := by decide +kernel
theorem dX11_isSooner_68 : decode cX11_isSooner 68 = .ok (.iconst 1, 1) := by decide +kernel
theorem dX11_isSooner_69 : decode cX11_isSooner 69 = .ok (.goto 4, 3) := by decide +kernel
theorem dX11_isSooner_72 : decode cX11_isSooner 72 = .ok (.iconst 0, 1) := by decide +kernel
theorem dX11_isSooner_73 : decode cX11_isSooner 73 = .ok (.ireturn, 1) := by decide +kernel
theorem dX11_isSooner_74 : decode cX11_isSooner 74 = .ok (.aload_n 0, 1) := by decide +kernel
theorem dX11_isSooner_75 : decode cX11_isSooner 75 = .ok (.getfield 29, 3) := by decide +kernel
theorem dX11_isSooner_78 : decode cX11_isSooner 78 = .ok (.iload_n 2, 1) := by decide +kernel
theorem dX11_isSooner_79 : decode cX11_isSooner 79 = .ok (.iaload, 1) := by decide +kernel
theorem dX11_isSooner_80 : decode cX11_isSooner 80 = .ok (.aload_n 0, 1) := by decide +kernel
theorem dX11_isSooner_81 : decode cX11_isSooner 81 = .ok (.getfield 29, 3) := by decide +kernel
theorem dX11_isSooner_84 : decode cX11_isSooner 84 = .ok (.iload_n 3, 1) := by decide +kernel
theorem dX11_isSooner_85 : decode cX11_isSooner 85 = .ok (.iaload, 1) := by decide +kernel
theorem dX11_isSooner_86 : decode cX11_isSooner 86 = .ok (.if_icmp .lt 33, 3) := by decide +kernel
theorem dX11_isSooner_89 : decode cX11_isSooner 89 = .ok (.aload_n 0, 1) := by decide +kernel
theorem dX11_isSooner_90 : decode cX11_isSooner 90 = .ok (.getfield 29, 3) := by decide +kernel
theorem dX11_isSooner_93 : decode cX11_isSooner 93 = .ok (.iload_n 2, 1) := by decide +kernel
theorem dX11_isSooner_94 : decode cX11_isSooner 94 = .ok (.iaload, 1) := by decide +kernel
theorem dX11_isSooner_95 : decode cX11_isSooner 95 = .ok (.aload_n 0, 1) := by decide +kernel
theorem dX11_isSooner_96 : decode cX11_isSooner 96 = .ok (.getfield 29, 3) := by decide +kernel
theorem dX11_isSooner_99 : decode cX11_isSooner 99 = .ok (.iload_n 3, 1) := by decide +kernel
theorem dX11_isSooner_100 : decode cX11_isSooner 100 = .ok (.iaload, 1) := by decide +kernel
theorem dX11_isSooner_101 : decode cX11_isSooner 101 = .ok (.if_icmp .ne 22, 3) := by decide +kernel
theorem dX11_isSooner_104 : decode cX11_isSooner 104 = .ok (.aload_n 0, 1) := by decide +kernel
theorem dX11_isSooner_105 : decode cX11_isSooner 105 = .ok (.getfield 32, 3) := by decide +kernel
theorem dX11_isSooner_108 : decode cX11_isSooner 108 = .ok (.iload_n 2, 1) := by decide +kernel
theorem dX11_isSooner_109 : decode cX11_isSooner 109 = .ok (.iaload, 1) := by decide +kernel
theorem dX11_isSooner_110 : decode cX11_isSooner 110 = .ok (.aload_n 0, 1) := by decide +kernel
theorem dX11_isSooner_111 : decode cX11_isSooner 111 = .ok (.getfield 32, 3) := by decide +kernel
theorem dX11_isSooner_114 : decode cX11_isSooner 114 = .ok (.iload_n 3, 1) := by decide +kernel
theorem dX11_isSooner_115 : decode cX11_isSooner 115 = .ok (.iaload, 1) := by decide +kernel
theorem dX11_isSooner_116 : decode cX11_isSooner 116 = .ok (.if_icmp .ge 7, 3) := by decide +kernel
theorem dX11_isSooner_119 : decode cX11_isSooner 119 = .ok (.iconst 1, 1) := by decide +kernel
theorem dX11_isSooner_120 : decode cX11_isSooner 120 = .ok (.goto 4, 3) := by decide +kernel
theorem dX11_isSooner_123 : decode cX11_isSooner 123 = .ok (.iconst 0, 1) := by decide +kernel
theorem dX11_isSooner_124 : decode cX11_isSooner 124 = .ok (.ireturn, 1) := by decide +kernel
theorem dX11_isSooner_125 : decode cX11_isSooner 125 = .ok (.aload_n 0, 1) := by decide +kernel
theorem dX11_isSooner_126 : decode cX11_isSooner 126 = .ok (.aload_n 0, 1) := by decide +kernel
theorem dX11_isSooner_127 : decode cX11_isSooner 127 = .ok (.getfield 23, 3) := by decide +kernel
theorem dX11_isSooner_130 : decode cX11_isSooner 130 = .ok (.iload_n 2, 1) := by decide +kernel
theorem dX11_isSooner_131 : decode cX11_isSooner 131 = .ok (.iaload, 1) := by decide +kernel
theorem dX11_isSooner_132 : decode cX11_isSooner 132 = .ok (.iload 4, 2) := by decide +kernel
theorem dX11_isSooner_134 : decode cX11_isSooner 134 = .ok (.iload 5, 2) := by decide +kernel
theorem dX11_isSooner_136 : decode cX11_isSooner 136 = .ok (.invokevirtual 134, 3) := by decide +kernel
theorem dX11_isSooner_139 : decode cX11_isSooner 139 = .ok (.istore 6, 2) := by decide +kernel
theorem dX11_isSooner_141 : decode cX11_isSooner 141 = .ok (.aload_n 0, 1) := by decide +kernel
theorem dX11_isSooner_142 : decode cX11_isSooner 142 = .ok (.aload_n 0, 1) := by decide +kernel
theorem dX11_isSooner_143 : decode cX11_isSooner 143 = .ok (.getfield 23, 3) := by decide +kernel
theorem dX11_isSooner_146 : decode cX11_isSooner 146 = .ok (.iload_n 3, 1) := by decide +kernel
theorem dX11_isSooner_147 : decode cX11_isSooner 147 = .ok (.iaload, 1) := by decide +kernel
theorem dX11_isSooner_148 : decode cX11_isSooner 148 = .ok (.iload 4, 2) := by decide +kernel
theorem dX11_isSooner_150 : decode cX11_isSooner 150 = .ok (.iload 5, 2) := by decide +kernel
theorem dX11_isSooner_152 : decode cX11_isSooner 152 = .ok (.invokevirtual 134, 3) := by decide +kernel
theorem dX11_isSooner_155 : decode cX11_isSooner 155 = .ok (.istore 7, 2) := by decide +kernel
theorem dX11_isSooner_157 : decode cX11_isSooner 157 = .ok (.iload 6, 2) := by decide +kernel
theorem dX11_isSooner_159 : decode cX11_isSooner 159 = .ok (.iload 7, 2) := by decide +kernel
theorem dX11_isSooner_161 : decode cX11_isSooner 161 = .ok (.if_icmp .gt 25, 3) := by decide +kernel
theorem dX11_isSooner_164 : decode cX11_isSooner 164 = .ok (.iload 6, 2) := by decide +kernel
theorem dX11_isSooner_166 : decode cX11_isSooner 166 = .ok (.iload 7, 2) := by decide +kernel
theorem dX11_isSooner_168 : decode cX11_isSooner 168 = .ok (.if_icmp .ne 22, 3) := by decide +kernel
theorem dX11_isSooner_171 : decode cX11_isSooner 171 = .ok (.aload_n 0, 1) := by decide +kernel
theorem dX11_isSooner_172 : decode cX11_isSooner 172 = .ok (.getfield 23, 3) := by decide +kernel
theorem dX11_isSooner_175 : decode cX11_isSooner 175 = .ok (.iload_n 2, 1) := by decide +kernel
theorem dX11_isSooner_176 : decode cX11_isSooner 176 = .ok (.iaload, 1) := by decide +kernel
theorem dX11_isSooner_177 : decode cX11_isSooner 177 = .ok (.aload_n 0, 1) := by decide +kernel
theorem dX11_isSooner_178 : decode cX11_isSooner 178 = .ok (.getfield 23, 3) := by decide +kernel
theorem dX11_isSooner_181 : decode cX11_isSooner 181 = .ok (.iload_n 3, 1) := by decide +kernel
theorem dX11_isSooner_182 : decode cX11_isSooner 182 = .ok (.iaload, 1) := by decide +kernel
theorem dX11_isSooner_183 : decode cX11_isSooner 183 = .ok (.if_icmp .ge 7, 3) := by decide +kernel
theorem dX11_isSooner_186 : decode cX11_isSooner 186 = .ok (.iconst 1, 1) := by decide +kernel
theorem dX11_isSooner_187 : decode cX11_isSooner 187 = .ok (.goto 4, 3) := by decide +kernel
theorem dX11_isSooner_190 : decode cX11_isSooner 190 = .ok (.iconst 0, 1) := by decide +kernel
theorem dX11_isSooner_191 : decode cX11_isSooner 191 = .ok (.ireturn, 1) := by decide +kernel
theorem dX11_seatThatGoes_0 : decode cX11_seatThatGoes 0 = .ok (.iload_n 1, 1) := by decide +kernel
theorem dX11_seatThatGoes_1 : decode cX11_seatThatGoes 1 = .ok (.iconst 2, 1) := by decide +kernel
theorem dX11_seatThatGoes_2 : decode cX11_seatThatGoes 2 = .ok (.if_icmp .ne 61, 3) := by decide +kernel
theorem dX11_seatThatGoes_5 : decode cX11_seatThatGoes 5 = .ok (.aload_n 0, 1) := by decide +kernel
theorem dX11_seatThatGoes_6 : decode cX11_seatThatGoes 6 = .ok (.getfield 26, 3) := by decide +kernel
theorem dX11_seatThatGoes_9 : decode cX11_seatThatGoes 9 = .ok (.aload_n 0, 1) := by decide +kernel
theorem dX11_seatThatGoes_10 : decode cX11_seatThatGoes 10 = .ok (.getfield 137, 3) := by decide +kernel
theorem dX11_seatThatGoes_13 : decode cX11_seatThatGoes 13 = .ok (.baload, 1) := by decide +kernel
theorem dX11_seatThatGoes_14 : decode cX11_seatThatGoes 14 = .ok (.ifCond .eq 28, 3) := by decide +kernel
theorem dX11_seatThatGoes_17 : decode cX11_seatThatGoes 17 = .ok (.aload_n 0, 1) := by decide +kernel
theorem dX11_seatThatGoes_18 : decode cX11_seatThatGoes 18 = .ok (.getfield 26, 3) := by decide +kernel
theorem dX11_seatThatGoes_21 : decode cX11_seatThatGoes 21 = .ok (.aload_n 0, 1) := by decide +kernel
theorem dX11_seatThatGoes_22 : decode cX11_seatThatGoes 22 = .ok (.getfield 137, 3) := by decide +kernel
theorem dX11_seatThatGoes_25 : decode cX11_seatThatGoes 25 = .ok (.iconst 0, 1) := by decide +kernel
theorem dX11_seatThatGoes_26 : decode cX11_seatThatGoes 26 = .ok (.bastore, 1) := by decide +kernel
theorem dX11_seatThatGoes_27 : decode cX11_seatThatGoes 27 = .ok (.aload_n 0, 1) := by decide +kernel
theorem dX11_seatThatGoes_28 : decode cX11_seatThatGoes 28 = .ok (.aload_n 0, 1) := by decide +kernel
theorem dX11_seatThatGoes_29 : decode cX11_seatThatGoes 29 = .ok (.getfield 137, 3) := by decide +kernel
theorem dX11_seatThatGoes_32 : decode cX11_seatThatGoes 32 = .ok (.iconst 1, 1) := by decide +kernel
theorem dX11_seatThatGoes_33 : decode cX11_seatThatGoes 33 = .ok (.iadd, 1) := by decide +kernel
theorem dX11_seatThatGoes_34 : decode cX11_seatThatGoes 34 = .ok (.iload_n 2, 1) := by decide +kernel
theorem dX11_seatThatGoes_35 : decode cX11_seatThatGoes 35 = .ok (.irem, 1) := by decide +kernel
theorem dX11_seatThatGoes_36 : decode cX11_seatThatGoes 36 = .ok (.putfield 137, 3) := by decide +kernel
theorem dX11_seatThatGoes_39 : decode cX11_seatThatGoes 39 = .ok (.goto (-34), 3) := by decide +kernel
theorem dX11_seatThatGoes_42 : decode cX11_seatThatGoes 42 = .ok (.aload_n 0, 1) := by decide +kernel
theorem dX11_seatThatGoes_43 : decode cX11_seatThatGoes 43 = .ok (.getfield 137, 3) := by decide +kernel
theorem dX11_seatThatGoes_46 : decode cX11_seatThatGoes 46 = .ok (.istore 5, 2) := by decide +kernel
theorem dX11_seatThatGoes_48 : decode cX11_seatThatGoes 48 = .ok (.aload_n 0, 1) := by decide +kernel
theorem dX11_seatThatGoes_49 : decode cX11_seatThatGoes 49 = .ok (.aload_n 0, 1) := by decide +kernel
theorem dX11_seatThatGoes_50 : decode cX11_seatThatGoes 50 = .ok (.getfield 137, 3) := by decide +kernel
theorem dX11_seatThatGoes_53 : decode cX11_seatThatGoes 53 = .ok (.iconst 1, 1) := by decide +kernel
theorem dX11_seatThatGoes_54 : decode cX11_seatThatGoes 54 = .ok (.iadd, 1) := by decide +kernel
theorem dX11_seatThatGoes_55 : decode cX11_seatThatGoes 55 = .ok (.iload_n 2, 1) := by decide +kernel
theorem dX11_seatThatGoes_56 : decode cX11_seatThatGoes 56 = .ok (.irem, 1) := by decide +kernel
theorem dX11_seatThatGoes_57 : decode cX11_seatThatGoes 57 = .ok (.putfield 137, 3) := by decide +kernel
theorem dX11_seatThatGoes_60 : decode cX11_seatThatGoes 60 = .ok (.iload 5, 2) := by decide +kernel
theorem dX11_seatThatGoes_62 : decode cX11_seatThatGoes 62 = .ok (.ireturn, 1) := by decide +kernel
theorem dX11_seatThatGoes_63 : decode cX11_seatThatGoes 63 = .ok (.iconst 0, 1) := by decide +kernel
theorem dX11_seatThatGoes_64 : decode cX11_seatThatGoes 64 = .ok (.istore 5, 2) := by decide +kernel
theorem dX11_seatThatGoes_66 : decode cX11_seatThatGoes 66 = .ok (.iconst 1, 1) := by decide +kernel
theorem dX11_seatThatGoes_67 : decode cX11_seatThatGoes 67 = .ok (.istore 6, 2) := by decide +kernel
theorem dX11_seatThatGoes_69 : decode cX11_seatThatGoes 69 = .ok (.iload 6, 2) := by decide +kernel
theorem dX11_seatThatGoes_71 : decode cX11_seatThatGoes 71 = .ok (.aload_n 0, 1) := by decide +kernel
theorem dX11_seatThatGoes_72 : decode cX11_seatThatGoes 72 = .ok (.getfield 131, 3) := by decide +kernel
theorem dX11_seatThatGoes_75 : decode cX11_seatThatGoes 75 = .ok (.if_icmp .ge 33, 3) := by decide +kernel
theorem dX11_seatThatGoes_78 : decode cX11_seatThatGoes 78 = .ok (.aload_n 0, 1) := by decide +kernel
theorem dX11_seatThatGoes_79 : decode cX11_seatThatGoes 79 = .ok (.iload_n 1, 1) := by decide +kernel
theorem dX11_seatThatGoes_80 : decode cX11_seatThatGoes 80 = .ok (.iload 6, 2) := by decide +kernel
theorem dX11_seatThatGoes_82 : decode cX11_seatThatGoes 82 = .ok (.iload 5, 2) := by decide +kernel
theorem dX11_seatThatGoes_84 : decode cX11_seatThatGoes 84 = .ok (.iload_n 3, 1) := by decide +kernel
theorem dX11_seatThatGoes_85 : decode cX11_seatThatGoes 85 = .ok (.iload 4, 2) := by decide +kernel
theorem dX11_seatThatGoes_87 : decode cX11_seatThatGoes 87 = .ok (.invokevirtual 140, 3) := by decide +kernel
theorem dX11_seatThatGoes_90 : decode cX11_seatThatGoes 90 = .ok (.ifCond .eq 8, 3) := by decide +kernel
theorem dX11_seatThatGoes_93 : decode cX11_seatThatGoes 93 = .ok (.iload 6, 2) := by decide +kernel
theorem dX11_seatThatGoes_95 : decode cX11_seatThatGoes 95 = .ok (.goto 5, 3) := by decide +kernel
theorem dX11_seatThatGoes_98 : decode cX11_seatThatGoes 98 = .ok (.iload 5, 2) := by decide +kernel
theorem dX11_seatThatGoes_100 : decode cX11_seatThatGoes 100 = .ok (.istore 5, 2) := by decide +kernel
theorem dX11_seatThatGoes_102 : decode cX11_seatThatGoes 102 = .ok (.iinc 6 1, 3) := by decide +kernel
theorem dX11_seatThatGoes_105 : decode cX11_seatThatGoes 105 = .ok (.goto (-36), 3) := by decide +kernel
theorem dX11_seatThatGoes_108 : decode cX11_seatThatGoes 108 = .ok (.iload 5, 2) := by decide +kernel
theorem dX11_seatThatGoes_110 : decode cX11_seatThatGoes 110 = .ok (.ireturn, 1) := by decide +kernel
theorem dX11_played_0 : decode cX11_played 0 = .ok (.aload_n 0, 1) := by decide +kernel
theorem dX11_played_1 : decode cX11_played 1 = .ok (.iconst 0, 1) := by decide +kernel
theorem dX11_played_2 : decode cX11_played 2 = .ok (.putfield 131, 3) := by decide +kernel
theorem dX11_played_5 : decode cX11_played 5 = .ok (.aload_n 0, 1) := by decide +kernel
theorem dX11_played_6 : decode cX11_played 6 = .ok (.iconst 0, 1) := by decide +kernel
theorem dX11_played_7 : decode cX11_played 7 = .ok (.putfield 137, 3) := by decide +kernel
theorem dX11_played_10 : decode cX11_played 10 = .ok (.iconst 0, 1) := by decide +kernel
theorem dX11_played_11 : decode cX11_played 11 = .ok (.istore 5, 2) := by decide +kernel
theorem dX11_played_13 : decode cX11_played 13 = .ok (.iload_n 3, 1) := by decide +kernel
theorem dX11_played_14 : decode cX11_played 14 = .ok (.istore 6, 2) := by decide +kernel
theorem dX11_played_16 : decode cX11_played 16 = .ok (.iload 6, 2) := by decide +kernel
theorem dX11_played_18 : decode cX11_played 18 = .ok (.iload 4, 2) := by decide +kernel
theorem dX11_played_20 : decode cX11_played 20 = .ok (.if_icmp .ge 151, 3) := by decide +kernel
theorem dX11_played_23 : decode cX11_played 23 = .ok (.aload_n 0, 1) := by decide +kernel
theorem dX11_played_24 : decode cX11_played 24 = .ok (.getfield 7, 3) := by decide +kernel
theorem dX11_played_27 : decode cX11_played 27 = .ok (.sipush 1405, 3) := by decide +kernel
theorem dX11_played_30 : decode cX11_played 30 = .ok (.iload 6, 2) := by decide +kernel
theorem dX11_played_32 : decode cX11_played 32 = .ok (.iadd, 1) := by decide +kernel
theorem dX11_played_33 : decode cX11_played 33 = .ok (.iaload, 1) := by decide +kernel
theorem dX11_played_34 : decode cX11_played 34 = .ok (.istore 7, 2) := by decide +kernel
theorem dX11_played_36 : decode cX11_played 36 = .ok (.aload_n 0, 1) := by decide +kernel
theorem dX11_played_37 : decode cX11_played 37 = .ok (.iload 7, 2) := by decide +kernel
theorem dX11_played_39 : decode cX11_played 39 = .ok (.invokevirtual 144, 3) := by decide +kernel
theorem dX11_played_42 : decode cX11_played 42 = .ok (.istore 8, 2) := by decide +kernel
theorem dX11_played_44 : decode cX11_played 44 = .ok (.iload 8, 2) := by decide +kernel
theorem dX11_played_46 : decode cX11_played 46 = .ok (.ifCond .lt 37, 3) := by decide +kernel
theorem dX11_played_49 : decode cX11_played 49 = .ok (.iinc 5 1, 3) := by decide +kernel
theorem dX11_played_52 : decode cX11_played 52 = .ok (.aload_n 0, 1) := by decide +kernel
theorem dX11_played_53 : decode cX11_played 53 = .ok (.getfield 26, 3) := by decide +kernel
theorem dX11_played_56 : decode cX11_played 56 = .ok (.iload 8, 2) := by decide +kernel
theorem dX11_played_58 : decode cX11_played 58 = .ok (.iconst 1, 1) := by decide +kernel
theorem dX11_played_59 : decode cX11_played 59 = .ok (.bastore, 1) := by decide +kernel
theorem dX11_played_60 : decode cX11_played 60 = .ok (.aload_n 0, 1) := by decide +kernel
theorem dX11_played_61 : decode cX11_played 61 = .ok (.getfield 29, 3) := by decide +kernel
theorem dX11_played_64 : decode cX11_played 64 = .ok (.iload 8, 2) := by decide +kernel
theorem dX11_played_66 : decode cX11_played 66 = .ok (.dup2, 1) := by decide +kernel
theorem dX11_played_67 : decode cX11_played 67 = .ok (.iaload, 1) := by decide +kernel
theorem dX11_played_68 : decode cX11_played 68 = .ok (.iconst 1, 1) := by decide +kernel
theorem dX11_played_69 : decode cX11_played 69 = .ok (.iadd, 1) := by decide +kernel
theorem dX11_played_70 : decode cX11_played 70 = .ok (.iastore, 1) := by decide +kernel
theorem dX11_played_71 : decode cX11_played 71 = .ok (.aload_n 0, 1) := by decide +kernel
theorem dX11_played_72 : decode cX11_played 72 = .ok (.getfield 32, 3) := by decide +kernel
theorem dX11_played_75 : decode cX11_played 75 = .ok (.iload 8, 2) := by decide +kernel
theorem dX11_played_77 : decode cX11_played 77 = .ok (.iload 6, 2) := by decide +kernel
theorem dX11_played_79 : decode cX11_played 79 = .ok (.iastore, 1) := by decide +kernel
theorem dX11_played_80 : decode cX11_played 80 = .ok (.goto 85, 3) := by decide +kernel
theorem dX11_played_83 : decode cX11_played 83 = .ok (.aload_n 0, 1) := by decide +kernel
theorem dX11_played_84 : decode cX11_played 84 = .ok (.getfield 131, 3) := by decide +kernel
theorem dX11_played_87 : decode cX11_played 87 = .ok (.iload_n 2, 1) := by decide +kernel
theorem dX11_played_88 : decode cX11_played 88 = .ok (.if_icmp .ge 22, 3) := by decide +kernel
theorem dX11_played_91 : decode cX11_played 91 = .ok (.aload_n 0, 1) := by decide +kernel
theorem dX11_played_92 : decode cX11_played 92 = .ok (.getfield 131, 3) := by decide +kernel
theorem dX11_played_95 : decode cX11_played 95 = .ok (.istore 8, 2) := by decide +kernel
theorem dX11_played_97 : decode cX11_played 97 = .ok (.aload_n 0, 1) := by decide +kernel
theorem dX11_played_98 : decode cX11_played 98 = .ok (.dup, 1) := by decide +kernel
theorem dX11_played_99 : decode cX11_played 99 = .ok (.getfield 131, 3) := by decide +kernel
theorem dX11_played_102 : decode cX11_played 102 = .ok (.iconst 1, 1) := by decide +kernel
theorem dX11_played_103 : decode cX11_played 103 = .ok (.iadd, 1) := by decide +kernel
theorem dX11_played_104 : decode cX11_played 104 = .ok (.putfield 131, 3) := by decide +kernel
theorem dX11_played_107 : decode cX11_played 107 = .ok (.goto 15, 3) := by decide +kernel
theorem dX11_played_110 : decode cX11_played 110 = .ok (.aload_n 0, 1) := by decide +kernel
theorem dX11_played_111 : decode cX11_played 111 = .ok (.iload_n 1, 1) := by decide +kernel
theorem dX11_played_112 : decode cX11_played 112 = .ok (.iload_n 2, 1) := by decide +kernel
theorem dX11_played_113 : decode cX11_played 113 = .ok (.iload 6, 2) := by decide +kernel
theorem dX11_played_115 : decode cX11_played 115 = .ok (.iload 4, 2) := by decide +kernel
theorem dX11_played_117 : decode cX11_played 117 = .ok (.invokevirtual 147, 3) := by decide +kernel
theorem dX11_played_120 : decode cX11_played 120 = .ok (.istore 8, 2) := by decide +kernel
theorem dX11_played_122 : decode cX11_played 122 = .ok (.aload_n 0, 1) := by decide +kernel
theorem dX11_played_123 : decode cX11_played 123 = .ok (.getfield 23, 3) := by decide +kernel
theorem dX11_played_126 : decode cX11_played 126 = .ok (.iload 8, 2) := by decide +kernel
theorem dX11_played_128 : decode cX11_played 128 = .ok (.iload 7, 2) := by decide +kernel
theorem dX11_played_130 : decode cX11_played 130 = .ok (.iastore, 1) := by decide +kernel
theorem dX11_played_131 : decode cX11_played 131 = .ok (.aload_n 0, 1) := by decide +kernel
theorem dX11_played_132 : decode cX11_played 132 = .ok (.getfield 26, 3) := by decide +kernel
theorem dX11_played_135 : decode cX11_played 135 = .ok (.iload 8, 2) := by decide +kernel
theorem dX11_played_137 : decode cX11_played 137 = .ok (.iconst 0, 1) := by decide +kernel
theorem dX11_played_138 : decode cX11_played 138 = .ok (.bastore, 1) := by decide +kernel
theorem dX11_played_139 : decode cX11_played 139 = .ok (.aload_n 0, 1) := by decide +kernel
theorem dX11_played_140 : decode cX11_played 140 = .ok (.getfield 29, 3) := by decide +kernel
theorem dX11_played_143 : decode cX11_played 143 = .ok (.iload 8, 2) := by decide +kernel
theorem dX11_played_145 : decode cX11_played 145 = .ok (.iconst 1, 1) := by decide +kernel
theorem dX11_played_146 : decode cX11_played 146 = .ok (.iastore, 1) := by decide +kernel
theorem dX11_played_147 : decode cX11_played 147 = .ok (.aload_n 0, 1) := by decide +kernel
theorem dX11_played_148 : decode cX11_played 148 = .ok (.getfield 32, 3) := by decide +kernel
theorem dX11_played_151 : decode cX11_played 151 = .ok (.iload 8, 2) := by decide +kernel
theorem dX11_played_153 : decode cX11_played 153 = .ok (.iload 6, 2) := by decide +kernel
theorem dX11_played_155 : decode cX11_played 155 = .ok (.iastore, 1) := by decide +kernel
theorem dX11_played_156 : decode cX11_played 156 = .ok (.aload_n 0, 1) := by decide +kernel
theorem dX11_played_157 : decode cX11_played 157 = .ok (.getfield 35, 3) := by decide +kernel
theorem dX11_played_160 : decode cX11_played 160 = .ok (.iload 8, 2) := by decide +kernel
theorem dX11_played_162 : decode cX11_played 162 = .ok (.iload 6, 2) := by decide +kernel
theorem dX11_played_164 : decode cX11_played 164 = .ok (.iastore, 1) := by decide +kernel
theorem dX11_played_165 : decode cX11_played 165 = .ok (.iinc 6 1, 3) := by decide +kernel
theorem dX11_played_168 : decode cX11_played 168 = .ok (.goto (-152), 3) := by decide +kernel
theorem dX11_played_171 : decode cX11_played 171 = .ok (.iload 5, 2) := by decide +kernel
theorem dX11_played_173 : decode cX11_played 173 = .ok (.ireturn, 1) := by decide +kernel
theorem dX11_indexIn_0 : decode cX11_indexIn 0 = .ok (.iconst 0, 1) := by decide +kernel
theorem dX11_indexIn_1 : decode cX11_indexIn 1 = .ok (.istore_n 3, 1) := by decide +kernel
theorem dX11_indexIn_2 : decode cX11_indexIn 2 = .ok (.iload_n 3, 1) := by decide +kernel
theorem dX11_indexIn_3 : decode cX11_indexIn 3 = .ok (.aload_n 0, 1) := by decide +kernel
theorem dX11_indexIn_4 : decode cX11_indexIn 4 = .ok (.getfield 41, 3) := by decide +kernel
theorem dX11_indexIn_7 : decode cX11_indexIn 7 = .ok (.iload_n 1, 1) := by decide +kernel
theorem dX11_indexIn_8 : decode cX11_indexIn 8 = .ok (.iaload, 1) := by decide +kernel
theorem dX11_indexIn_9 : decode cX11_indexIn 9 = .ok (.if_icmp .ge 26, 3) := by decide +kernel
theorem dX11_indexIn_12 : decode cX11_indexIn 12 = .ok (.aload_n 0, 1) := by decide +kernel
theorem dX11_indexIn_13 : decode cX11_indexIn 13 = .ok (.getfield 38, 3) := by decide +kernel
theorem dX11_indexIn_16 : decode cX11_indexIn 16 = .ok (.bipush 64, 2) := by decide +kernel
theorem dX11_indexIn_18 : decode cX11_indexIn 18 = .ok (.iload_n 1, 1) := by decide +kernel
theorem dX11_indexIn_19 : decode cX11_indexIn 19 = .ok (.imul, 1) := by decide +kernel
theorem dX11_indexIn_20 : decode cX11_indexIn 20 = .ok (.iload_n 3, 1) := by decide +kernel
theorem dX11_indexIn_21 : decode cX11_indexIn 21 = .ok (.iadd, 1) := by decide +kernel
theorem dX11_indexIn_22 : decode cX11_indexIn 22 = .ok (.iaload, 1) := by decide +kernel
theorem dX11_indexIn_23 : decode cX11_indexIn 23 = .ok (.iload_n 2, 1) := by decide +kernel
theorem dX11_indexIn_24 : decode cX11_indexIn 24 = .ok (.if_icmp .ne 5, 3) := by decide +kernel
theorem dX11_indexIn_27 : decode cX11_indexIn 27 = .ok (.iload_n 3, 1) := by decide +kernel
theorem dX11_indexIn_28 : decode cX11_indexIn 28 = .ok (.ireturn, 1) := by decide +kernel
theorem dX11_indexIn_29 : decode cX11_indexIn 29 = .ok (.iinc 3 1, 3) := by decide +kernel
theorem dX11_indexIn_32 : decode cX11_indexIn 32 = .ok (.goto (-30), 3) := by decide +kernel
theorem dX11_indexIn_35 : decode cX11_indexIn 35 = .ok (.iconst (-1), 1) := by decide +kernel
theorem dX11_indexIn_36 : decode cX11_indexIn 36 = .ok (.ireturn, 1) := by decide +kernel
theorem dX11_join_0 : decode cX11_join 0 = .ok (.aload_n 0, 1) := by decide +kernel
theorem dX11_join_1 : decode cX11_join 1 = .ok (.getfield 38, 3) := by decide +kernel
theorem dX11_join_4 : decode cX11_join 4 = .ok (.bipush 64, 2) := by decide +kernel
theorem dX11_join_6 : decode cX11_join 6 = .ok (.iload_n 1, 1) := by decide +kernel
theorem dX11_join_7 : decode cX11_join 7 = .ok (.imul, 1) := by decide +kernel
theorem dX11_join_8 : decode cX11_join 8 = .ok (.aload_n 0, 1) := by decide +kernel
theorem dX11_join_9 : decode cX11_join 9 = .ok (.getfield 41, 3) := by decide +kernel
theorem dX11_join_12 : decode cX11_join 12 = .ok (.iload_n 1, 1) := by decide +kernel
theorem dX11_join_13 : decode cX11_join 13 = .ok (.iaload, 1) := by decide +kernel
theorem dX11_join_14 : decode cX11_join 14 = .ok (.iadd, 1) := by decide +kernel
theorem dX11_join_15 : decode cX11_join 15 = .ok (.iload_n 2, 1) := by decide +kernel
theorem dX11_join_16 : decode cX11_join 16 = .ok (.iastore, 1) := by decide +kernel
theorem dX11_join_17 : decode cX11_join 17 = .ok (.aload_n 0, 1) := by decide +kernel
theorem dX11_join_18 : decode cX11_join 18 = .ok (.getfield 41, 3) := by decide +kernel
theorem dX11_join_21 : decode cX11_join 21 = .ok (.iload_n 1, 1) := by decide +kernel
theorem dX11_join_22 : decode cX11_join 22 = .ok (.dup2, 1) := by decide +kernel
theorem dX11_join_23 : decode cX11_join 23 = .ok (.iaload, 1) := by decide +kernel
theorem dX11_join_24 : decode cX11_join 24 = .ok (.iconst 1, 1) := by decide +kernel
theorem dX11_join_25 : decode cX11_join 25 = .ok (.iadd, 1) := by decide +kernel
theorem dX11_join_26 : decode cX11_join 26 = .ok (.iastore, 1) := by decide +kernel
theorem dX11_join_27 : decode cX11_join 27 = .ok (.return_, 1) := by decide +kernel
theorem dX11_leave_0 : decode cX11_leave 0 = .ok (.aload_n 0, 1) := by decide +kernel
theorem dX11_leave_1 : decode cX11_leave 1 = .ok (.getfield 38, 3) := by decide +kernel
theorem dX11_leave_4 : decode cX11_leave 4 = .ok (.bipush 64, 2) := by decide +kernel
theorem dX11_leave_6 : decode cX11_leave 6 = .ok (.iload_n 1, 1) := by decide +kernel
theorem dX11_leave_7 : decode cX11_leave 7 = .ok (.imul, 1) := by decide +kernel
theorem dX11_leave_8 : decode cX11_leave 8 = .ok (.iload_n 2, 1) := by decide +kernel
theorem dX11_leave_9 : decode cX11_leave 9 = .ok (.iadd, 1) := by decide +kernel
theorem dX11_leave_10 : decode cX11_leave 10 = .ok (.iaload, 1) := by decide +kernel
theorem dX11_leave_11 : decode cX11_leave 11 = .ok (.istore_n 3, 1) := by decide +kernel
theorem dX11_leave_12 : decode cX11_leave 12 = .ok (.iload_n 2, 1) := by decide +kernel
theorem dX11_leave_13 : decode cX11_leave 13 = .ok (.iconst 1, 1) := by decide +kernel
theorem dX11_leave_14 : decode cX11_leave 14 = .ok (.iadd, 1) := by decide +kernel
theorem dX11_leave_15 : decode cX11_leave 15 = .ok (.istore 4, 2) := by decide +kernel
theorem dX11_leave_17 : decode cX11_leave 17 = .ok (.iload 4, 2) := by decide +kernel
theorem dX11_leave_19 : decode cX11_leave 19 = .ok (.aload_n 0, 1) := by decide +kernel
theorem dX11_leave_20 : decode cX11_leave 20 = .ok (.getfield 41, 3) := by decide +kernel
theorem dX11_leave_23 : decode cX11_leave 23 = .ok (.iload_n 1, 1) := by decide +kernel
theorem dX11_leave_24 : decode cX11_leave 24 = .ok (.iaload, 1) := by decide +kernel
theorem dX11_leave_25 : decode cX11_leave 25 = .ok (.if_icmp .ge 35, 3) := by decide +kernel
theorem dX11_leave_28 : decode cX11_leave 28 = .ok (.aload_n 0, 1) := by decide +kernel
theorem dX11_leave_29 : decode cX11_leave 29 = .ok (.getfield 38, 3) := by decide +kernel
theorem dX11_leave_32 : decode cX11_leave 32 = .ok (.bipush 64, 2) := by decide +kernel
theorem dX11_leave_34 : decode cX11_leave 34 = .ok (.iload_n 1, 1) := by decide +kernel
theorem dX11_leave_35 : decode cX11_leave 35 = .ok (.imul, 1) := by decide +kernel
theorem dX11_leave_36 : decode cX11_leave 36 = .ok (.iload 4, 2) := by decide +kernel
theorem dX11_leave_38 : decode cX11_leave 38 = .ok (.iadd, 1) := by decide +kernel
theorem dX11_leave_39 : decode cX11_leave 39 = .ok (.iconst 1, 1) := by decide +kernel
theorem dX11_leave_40 : decode cX11_leave 40 = .ok (.isub, 1) := by decide +kernel
theorem dX11_leave_41 : decode cX11_leave 41 = .ok (.aload_n 0, 1) := by decide +kernel
theorem dX11_leave_42 : decode cX11_leave 42 = .ok (.getfield 38, 3) := by decide +kernel
theorem dX11_leave_45 : decode cX11_leave 45 = .ok (.bipush 64, 2) := by decide +kernel
theorem dX11_leave_47 : decode cX11_leave 47 = .ok (.iload_n 1, 1) := by decide +kernel
theorem dX11_leave_48 : decode cX11_leave 48 = .ok (.imul, 1) := by decide +kernel
theorem dX11_leave_49 : decode cX11_leave 49 = .ok (.iload 4, 2) := by decide +kernel
theorem dX11_leave_51 : decode cX11_leave 51 = .ok (.iadd, 1) := by decide +kernel
theorem dX11_leave_52 : decode cX11_leave 52 = .ok (.iaload, 1) := by decide +kernel
theorem dX11_leave_53 : decode cX11_leave 53 = .ok (.iastore, 1) := by decide +kernel
theorem dX11_leave_54 : decode cX11_leave 54 = .ok (.iinc 4 1, 3) := by decide +kernel
theorem dX11_leave_57 : decode cX11_leave 57 = .ok (.goto (-40), 3) := by decide +kernel
theorem dX11_leave_60 : decode cX11_leave 60 = .ok (.aload_n 0, 1) := by decide +kernel
theorem dX11_leave_61 : decode cX11_leave 61 = .ok (.getfield 41, 3) := by decide +kernel
theorem dX11_leave_64 : decode cX11_leave 64 = .ok (.iload_n 1, 1) := by decide +kernel
theorem dX11_leave_65 : decode cX11_leave 65 = .ok (.dup2, 1) := by decide +kernel
theorem dX11_leave_66 : decode cX11_leave 66 = .ok (.iaload, 1) := by decide +kernel
theorem dX11_leave_67 : decode cX11_leave 67 = .ok (.iconst 1, 1) := by decide +kernel
theorem dX11_leave_68 : decode cX11_leave 68 = .ok (.isub, 1) := by decide +kernel
theorem dX11_leave_69 : decode cX11_leave 69 = .ok (.iastore, 1) := by decide +kernel
theorem dX11_leave_70 : decode cX11_leave 70 = .ok (.iload_n 3, 1) := by decide +kernel
theorem dX11_leave_71 : decode cX11_leave 71 = .ok (.ireturn, 1) := by decide +kernel
theorem dX11_makeRoom_0 : decode cX11_makeRoom 0 = .ok (.aload_n 0, 1) := by decide +kernel
theorem dX11_makeRoom_1 : decode cX11_makeRoom 1 = .ok (.getfield 41, 3) := by decide +kernel
theorem dX11_makeRoom_4 : decode cX11_makeRoom 4 = .ok (.iconst 0, 1) := by decide +kernel
theorem dX11_makeRoom_5 : decode cX11_makeRoom 5 = .ok (.iaload, 1) := by decide +kernel
theorem dX11_makeRoom_6 : decode cX11_makeRoom 6 = .ok (.ifCond .le 37, 3) := by decide +kernel
theorem dX11_makeRoom_9 : decode cX11_makeRoom 9 = .ok (.aload_n 0, 1) := by decide +kernel
theorem dX11_makeRoom_10 : decode cX11_makeRoom 10 = .ok (.getfield 41, 3) := by decide +kernel
theorem dX11_makeRoom_13 : decode cX11_makeRoom 13 = .ok (.iconst 0, 1) := by decide +kernel
theorem dX11_makeRoom_14 : decode cX11_makeRoom 14 = .ok (.iaload, 1) := by decide +kernel
theorem dX11_makeRoom_15 : decode cX11_makeRoom 15 = .ok (.aload_n 0, 1) := by decide +kernel
theorem dX11_makeRoom_16 : decode cX11_makeRoom 16 = .ok (.getfield 151, 3) := by decide +kernel
theorem dX11_makeRoom_19 : decode cX11_makeRoom 19 = .ok (.if_icmp .gt 20, 3) := by decide +kernel
theorem dX11_makeRoom_22 : decode cX11_makeRoom 22 = .ok (.aload_n 0, 1) := by decide +kernel
theorem dX11_makeRoom_23 : decode cX11_makeRoom 23 = .ok (.getfield 41, 3) := by decide +kernel
theorem dX11_makeRoom_26 : decode cX11_makeRoom 26 = .ok (.iconst 0, 1) := by decide +kernel
theorem dX11_makeRoom_27 : decode cX11_makeRoom 27 = .ok (.iaload, 1) := by decide +kernel
theorem dX11_makeRoom_28 : decode cX11_makeRoom 28 = .ok (.aload_n 0, 1) := by decide +kernel
theorem dX11_makeRoom_29 : decode cX11_makeRoom 29 = .ok (.getfield 151, 3) := by decide +kernel
theorem dX11_makeRoom_32 : decode cX11_makeRoom 32 = .ok (.if_icmp .ne 11, 3) := by decide +kernel
theorem dX11_makeRoom_35 : decode cX11_makeRoom 35 = .ok (.iload_n 1, 1) := by decide +kernel
theorem dX11_makeRoom_36 : decode cX11_makeRoom 36 = .ok (.ifCond .eq 7, 3) := by decide +kernel
theorem dX11_makeRoom_39 : decode cX11_makeRoom 39 = .ok (.iconst 1, 1) := by decide +kernel
theorem dX11_makeRoom_40 : decode cX11_makeRoom 40 = .ok (.goto 4, 3) := by decide +kernel
theorem dX11_makeRoom_43 : decode cX11_makeRoom 43 = .ok (.iconst 0, 1) := by decide +kernel
theorem dX11_makeRoom_44 : decode cX11_makeRoom 44 = .ok (.istore_n 2, 1) := by decide +kernel
theorem dX11_makeRoom_45 : decode cX11_makeRoom 45 = .ok (.iload_n 2, 1) := by decide +kernel
theorem dX11_makeRoom_46 : decode cX11_makeRoom 46 = .ok (.ifCond .ne 21, 3) := by decide +kernel
theorem dX11_makeRoom_49 : decode cX11_makeRoom 49 = .ok (.aload_n 0, 1) := by decide +kernel
theorem dX11_makeRoom_50 : decode cX11_makeRoom 50 = .ok (.getfield 41, 3) := by decide +kernel
theorem dX11_makeRoom_53 : decode cX11_makeRoom 53 = .ok (.iconst 1, 1) := by decide +kernel
theorem dX11_makeRoom_54 : decode cX11_makeRoom 54 = .ok (.iaload, 1) := by decide +kernel
theorem dX11_makeRoom_55 : decode cX11_makeRoom 55 = .ok (.ifCond .ne 26, 3) := by decide +kernel
theorem dX11_makeRoom_58 : decode cX11_makeRoom 58 = .ok (.aload_n 0, 1) := by decide +kernel
theorem dX11_makeRoom_59 : decode cX11_makeRoom 59 = .ok (.getfield 41, 3) := by decide +kernel
theorem dX11_makeRoom_62 : decode cX11_makeRoom 62 = .ok (.iconst 0, 1) := by decide +kernel
theorem dX11_makeRoom_63 : decode cX11_makeRoom 63 = .ok (.iaload, 1) := by decide +kernel
theorem dX11_makeRoom_64 : decode cX11_makeRoom 64 = .ok (.ifCond .le 17, 3) := by decide +kernel
theorem dX11_makeRoom_67 : decode cX11_makeRoom 67 = .ok (.aload_n 0, 1) := by decide +kernel
theorem dX11_makeRoom_68 : decode cX11_makeRoom 68 = .ok (.iconst 2, 1) := by decide +kernel
theorem dX11_makeRoom_69 : decode cX11_makeRoom 69 = .ok (.aload_n 0, 1) := by decide +kernel
theorem dX11_makeRoom_70 : decode cX11_makeRoom 70 = .ok (.iconst 0, 1) := by decide +kernel
theorem dX11_makeRoom_71 : decode cX11_makeRoom 71 = .ok (.iconst 0, 1) := by decide +kernel
theorem dX11_makeRoom_72 : decode cX11_makeRoom 72 = .ok (.invokevirtual 154, 3) := by decide +kernel
theorem dX11_makeRoom_75 : decode cX11_makeRoom 75 = .ok (.invokevirtual 157, 3) := by decide +kernel
theorem dX11_makeRoom_78 : decode cX11_makeRoom 78 = .ok (.goto 23, 3) := by decide +kernel
theorem dX11_makeRoom_81 : decode cX11_makeRoom 81 = .ok (.aload_n 0, 1) := by decide +kernel
theorem dX11_makeRoom_82 : decode cX11_makeRoom 82 = .ok (.getfield 41, 3) := by decide +kernel
theorem dX11_makeRoom_85 : decode cX11_makeRoom 85 = .ok (.iconst 1, 1) := by decide +kernel
theorem dX11_makeRoom_86 : decode cX11_makeRoom 86 = .ok (.iaload, 1) := by decide +kernel
theorem dX11_makeRoom_87 : decode cX11_makeRoom 87 = .ok (.ifCond .le 14, 3) := by decide +kernel
theorem dX11_makeRoom_90 : decode cX11_makeRoom 90 = .ok (.aload_n 0, 1) := by decide +kernel
theorem dX11_makeRoom_91 : decode cX11_makeRoom 91 = .ok (.iconst 3, 1) := by decide +kernel
theorem dX11_makeRoom_92 : decode cX11_makeRoom 92 = .ok (.aload_n 0, 1) := by decide +kernel
theorem dX11_makeRoom_93 : decode cX11_makeRoom 93 = .ok (.iconst 1, 1) := by decide +kernel
theorem dX11_makeRoom_94 : decode cX11_makeRoom 94 = .ok (.iconst 0, 1) := by decide +kernel
theorem dX11_makeRoom_95 : decode cX11_makeRoom 95 = .ok (.invokevirtual 154, 3) := by decide +kernel
theorem dX11_makeRoom_98 : decode cX11_makeRoom 98 = .ok (.invokevirtual 157, 3) := by decide +kernel
theorem dX11_makeRoom_101 : decode cX11_makeRoom 101 = .ok (.return_, 1) := by decide +kernel
theorem dX11_otherKey_0 : decode cX11_otherKey 0 = .ok (.aload_n 0, 1) := by decide +kernel
theorem dX11_otherKey_1 : decode cX11_otherKey 1 = .ok (.getfield 41, 3) := by decide +kernel
theorem dX11_otherKey_4 : decode cX11_otherKey 4 = .ok (.iconst 0, 1) := by decide +kernel
theorem dX11_otherKey_5 : decode cX11_otherKey 5 = .ok (.iaload, 1) := by decide +kernel
theorem dX11_otherKey_6 : decode cX11_otherKey 6 = .ok (.aload_n 0, 1) := by decide +kernel
theorem dX11_otherKey_7 : decode cX11_otherKey 7 = .ok (.getfield 41, 3) := by decide +kernel
theorem dX11_otherKey_10 : decode cX11_otherKey 10 = .ok (.iconst 2, 1) := by decide +kernel
theorem dX11_otherKey_11 : decode cX11_otherKey 11 = .ok (.iaload, 1) := by decide +kernel
theorem dX11_otherKey_12 : decode cX11_otherKey 12 = .ok (.iadd, 1) := by decide +kernel
theorem dX11_otherKey_13 : decode cX11_otherKey 13 = .ok (.iload_n 2, 1) := by decide +kernel
theorem dX11_otherKey_14 : decode cX11_otherKey 14 = .ok (.if_icmp .ne 38, 3) := by decide +kernel
theorem dX11_otherKey_17 : decode cX11_otherKey 17 = .ok (.aload_n 0, 1) := by decide +kernel
theorem dX11_otherKey_18 : decode cX11_otherKey 18 = .ok (.getfield 41, 3) := by decide +kernel
theorem dX11_otherKey_21 : decode cX11_otherKey 21 = .ok (.iconst 0, 1) := by decide +kernel
theorem dX11_otherKey_22 : decode cX11_otherKey 22 = .ok (.iaload, 1) := by decide +kernel
theorem dX11_otherKey_23 : decode cX11_otherKey 23 = .ok (.iload_n 2, 1) := by decide +kernel
theorem dX11_otherKey_24 : decode cX11_otherKey 24 = .ok (.if_icmp .ge 18, 3) := by decide +kernel
theorem dX11_otherKey_27 : decode cX11_otherKey 27 = .ok (.aload_n 0, 1) := by decide +kernel
theorem dX11_otherKey_28 : decode cX11_otherKey 28 = .ok (.iconst 2, 1) := by decide +kernel
theorem dX11_otherKey_29 : decode cX11_otherKey 29 = .ok (.iconst 0, 1) := by decide +kernel
theorem dX11_otherKey_30 : decode cX11_otherKey 30 = .ok (.invokevirtual 154, 3) := by decide +kernel
theorem dX11_otherKey_33 : decode cX11_otherKey 33 = .ok (.istore_n 3, 1) := by decide +kernel
theorem dX11_otherKey_34 : decode cX11_otherKey 34 = .ok (.aload_n 0, 1) := by decide +kernel
theorem dX11_otherKey_35 : decode cX11_otherKey 35 = .ok (.iconst 0, 1) := by decide +kernel
theorem dX11_otherKey_36 : decode cX11_otherKey 36 = .ok (.invokevirtual 160, 3) := by decide +kernel
theorem dX11_otherKey_39 : decode cX11_otherKey 39 = .ok (.goto 89, 3) := by decide +kernel
theorem dX11_otherKey_42 : decode cX11_otherKey 42 = .ok (.aload_n 0, 1) := by decide +kernel
theorem dX11_otherKey_43 : decode cX11_otherKey 43 = .ok (.iconst 0, 1) := by decide +kernel
theorem dX11_otherKey_44 : decode cX11_otherKey 44 = .ok (.iconst 0, 1) := by decide +kernel
theorem dX11_otherKey_45 : decode cX11_otherKey 45 = .ok (.invokevirtual 154, 3) := by decide +kernel
theorem dX11_otherKey_48 : decode cX11_otherKey 48 = .ok (.istore_n 3, 1) := by decide +kernel
theorem dX11_otherKey_49 : decode cX11_otherKey 49 = .ok (.goto 79, 3) := by decide +kernel
theorem dX11_otherKey_52 : decode cX11_otherKey 52 = .ok (.aload_n 0, 1) := by decide +kernel
theorem dX11_otherKey_53 : decode cX11_otherKey 53 = .ok (.getfield 41, 3) := by decide +kernel
theorem dX11_otherKey_56 : decode cX11_otherKey 56 = .ok (.iconst 0, 1) := by decide +kernel
theorem dX11_otherKey_57 : decode cX11_otherKey 57 = .ok (.iaload, 1) := by decide +kernel
theorem dX11_otherKey_58 : decode cX11_otherKey 58 = .ok (.aload_n 0, 1) := by decide +kernel
theorem dX11_otherKey_59 : decode cX11_otherKey 59 = .ok (.getfield 41, 3) := by decide +kernel
theorem dX11_otherKey_62 : decode cX11_otherKey 62 = .ok (.iconst 1, 1) := by decide +kernel
theorem dX11_otherKey_63 : decode cX11_otherKey 63 = .ok (.iaload, 1) := by decide +kernel
theorem dX11_otherKey_64 : decode cX11_otherKey 64 = .ok (.iadd, 1) := by decide +kernel
theorem dX11_otherKey_65 : decode cX11_otherKey 65 = .ok (.aload_n 0, 1) := by decide +kernel
theorem dX11_otherKey_66 : decode cX11_otherKey 66 = .ok (.getfield 41, 3) := by decide +kernel
theorem dX11_otherKey_69 : decode cX11_otherKey 69 = .ok (.iconst 2, 1) := by decide +kernel
theorem dX11_otherKey_70 : decode cX11_otherKey 70 = .ok (.iaload, 1) := by decide +kernel
theorem dX11_otherKey_71 : decode cX11_otherKey 71 = .ok (.iadd, 1) := by decide +kernel
theorem dX11_otherKey_72 : decode cX11_otherKey 72 = .ok (.aload_n 0, 1) := by decide +kernel
theorem dX11_otherKey_73 : decode cX11_otherKey 73 = .ok (.getfield 41, 3) := by decide +kernel
theorem dX11_otherKey_76 : decode cX11_otherKey 76 = .ok (.iconst 3, 1) := by decide +kernel
theorem dX11_otherKey_77 : decode cX11_otherKey 77 = .ok (.iaload, 1) := by decide +kernel
theorem dX11_otherKey_78 : decode cX11_otherKey 78 = .ok (.iadd, 1) := by decide +kernel
theorem dX11_otherKey_79 : decode cX11_otherKey 79 = .ok (.iload_n 2, 1) := by decide +kernel
theorem dX11_otherKey_80 : decode cX11_otherKey 80 = .ok (.if_icmp .lt 48, 3) := by decide +kernel
theorem dX11_otherKey_83 : decode cX11_otherKey 83 = .ok (.aload_n 0, 1) := by decide +kernel
theorem dX11_otherKey_84 : decode cX11_otherKey 84 = .ok (.getfield 41, 3) := by decide +kernel
theorem dX11_otherKey_87 : decode cX11_otherKey 87 = .ok (.iconst 0, 1) := by decide +kernel
theorem dX11_otherKey_88 : decode cX11_otherKey 88 = .ok (.iaload, 1) := by decide +kernel
theorem dX11_otherKey_89 : decode cX11_otherKey 89 = .ok (.aload_n 0, 1) := by decide +kernel
theorem dX11_otherKey_90 : decode cX11_otherKey 90 = .ok (.getfield 41, 3) := by decide +kernel
theorem dX11_otherKey_93 : decode cX11_otherKey 93 = .ok (.iconst 1, 1) := by decide +kernel
theorem dX11_otherKey_94 : decode cX11_otherKey 94 = .ok (.iaload, 1) := by decide +kernel
theorem dX11_otherKey_95 : decode cX11_otherKey 95 = .ok (.iadd, 1) := by decide +kernel
theorem dX11_otherKey_96 : decode cX11_otherKey 96 = .ok (.aload_n 0, 1) := by decide +kernel
theorem dX11_otherKey_97 : decode cX11_otherKey 97 = .ok (.getfield 41, 3) := by decide +kernel
theorem dX11_otherKey_100 : decode cX11_otherKey 100 = .ok (.iconst 2, 1) := by decide +kernel
theorem dX11_otherKey_101 : decode cX11_otherKey 101 = .ok (.iaload, 1) := by decide +kernel
theorem dX11_otherKey_102 : decode cX11_otherKey 102 = .ok (.iadd, 1) := by decide +kernel
theorem dX11_otherKey_103 : decode cX11_otherKey 103 = .ok (.aload_n 0, 1) := by decide +kernel
theorem dX11_otherKey_104 : decode cX11_otherKey 104 = .ok (.getfield 41, 3) := by decide +kernel
theorem dX11_otherKey_107 : decode cX11_otherKey 107 = .ok (.iconst 3, 1) := by decide +kernel
theorem dX11_otherKey_108 : decode cX11_otherKey 108 = .ok (.iaload, 1) := by decide +kernel
theorem dX11_otherKey_109 : decode cX11_otherKey 109 = .ok (.iadd, 1) := by decide +kernel
theorem dX11_otherKey_110 : decode cX11_otherKey 110 = .ok (.iconst 2, 1) := by decide +kernel
theorem dX11_otherKey_111 : decode cX11_otherKey 111 = .ok (.iload_n 2, 1) := by decide +kernel
theorem dX11_otherKey_112 : decode cX11_otherKey 112 = .ok (.imul, 1) := by decide +kernel
theorem dX11_otherKey_113 : decode cX11_otherKey 113 = .ok (.if_icmp .ne 10, 3) := by decide +kernel
theorem dX11_otherKey_116 : decode cX11_otherKey 116 = .ok (.aload_n 0, 1) := by decide +kernel
theorem dX11_otherKey_117 : decode cX11_otherKey 117 = .ok (.iconst 3, 1) := by decide +kernel
theorem dX11_otherKey_118 : decode cX11_otherKey 118 = .ok (.iconst 0, 1) := by decide +kernel
theorem dX11_otherKey_119 : decode cX11_otherKey 119 = .ok (.invokevirtual 154, 3) := by decide +kernel
theorem dX11_otherKey_122 : decode cX11_otherKey 122 = .ok (.istore_n 3, 1) := by decide +kernel
theorem dX11_otherKey_123 : decode cX11_otherKey 123 = .ok (.aload_n 0, 1) := by decide +kernel
theorem dX11_otherKey_124 : decode cX11_otherKey 124 = .ok (.iconst 0, 1) := by decide +kernel
theorem dX11_otherKey_125 : decode cX11_otherKey 125 = .ok (.invokevirtual 160, 3) := by decide +kernel
theorem dX11_otherKey_128 : decode cX11_otherKey 128 = .ok (.aload_n 0, 1) := by decide +kernel
theorem dX11_otherKey_129 : decode cX11_otherKey 129 = .ok (.iconst 0, 1) := by decide +kernel
theorem dX11_otherKey_130 : decode cX11_otherKey 130 = .ok (.iload_n 1, 1) := by decide +kernel
theorem dX11_otherKey_131 : decode cX11_otherKey 131 = .ok (.invokevirtual 157, 3) := by decide +kernel
theorem dX11_otherKey_134 : decode cX11_otherKey 134 = .ok (.return_, 1) := by decide +kernel
theorem dX11_balanced_0 : decode cX11_balanced 0 = .ok (.iconst 0, 1) := by decide +kernel
theorem dX11_balanced_1 : decode cX11_balanced 1 = .ok (.istore 4, 2) := by decide +kernel
theorem dX11_balanced_3 : decode cX11_balanced 3 = .ok (.iload 4, 2) := by decide +kernel
theorem dX11_balanced_5 : decode cX11_balanced 5 = .ok (.iconst 4, 1) := by decide +kernel
theorem dX11_balanced_6 : decode cX11_balanced 6 = .ok (.if_icmp .ge 17, 3) := by decide +kernel
theorem dX11_balanced_9 : decode cX11_balanced 9 = .ok (.aload_n 0, 1) := by decide +kernel
theorem dX11_balanced_10 : decode cX11_balanced 10 = .ok (.getfield 41, 3) := by decide +kernel
theorem dX11_balanced_13 : decode cX11_balanced 13 = .ok (.iload 4, 2) := by decide +kernel
theorem dX11_balanced_15 : decode cX11_balanced 15 = .ok (.iconst 0, 1) := by decide +kernel
theorem dX11_balanced_16 : decode cX11_balanced 16 = .ok (.iastore, 1) := by decide +kernel
theorem dX11_balanced_17 : decode cX11_balanced 17 = .ok (.iinc 4 1, 3) := by decide +kernel
theorem dX11_balanced_20 : decode cX11_balanced 20 = .ok (.goto (-17), 3) := by decide +kernel
theorem dX11_balanced_23 : decode cX11_balanced 23 = .ok (.aload_n 0, 1) := by decide +kernel
theorem dX11_balanced_24 : decode cX11_balanced 24 = .ok (.iconst 0, 1) := by decide +kernel
theorem dX11_balanced_25 : decode cX11_balanced 25 = .ok (.putfield 151, 3) := by decide +kernel
theorem dX11_balanced_28 : decode cX11_balanced 28 = .ok (.iconst 0, 1) := by decide +kernel
theorem dX11_balanced_29 : decode cX11_balanced 29 = .ok (.istore 4, 2) := by decide +kernel
theorem dX11_balanced_31 : decode cX11_balanced 31 = .ok (.iload_n 2, 1) := by decide +kernel
theorem dX11_balanced_32 : decode cX11_balanced 32 = .ok (.istore 5, 2) := by decide +kernel
theorem dX11_balanced_34 : decode cX11_balanced 34 = .ok (.iload 5, 2) := by decide +kernel
theorem dX11_balanced_36 : decode cX11_balanced 36 = .ok (.iload_n 3, 1) := by decide +kernel
theorem dX11_balanced_37 : decode cX11_balanced 37 = .ok (.if_icmp .ge 262, 3) := by decide +kernel
theorem dX11_balanced_40 : decode cX11_balanced 40 = .ok (.aload_n 0, 1) := by decide +kernel
theorem dX11_balanced_41 : decode cX11_balanced 41 = .ok (.getfield 7, 3) := by decide +kernel
theorem dX11_balanced_44 : decode cX11_balanced 44 = .ok (.sipush 1405, 3) := by decide +kernel
theorem dX11_balanced_47 : decode cX11_balanced 47 = .ok (.iload 5, 2) := by decide +kernel
theorem dX11_balanced_49 : decode cX11_balanced 49 = .ok (.iadd, 1) := by decide +kernel
theorem dX11_balanced_50 : decode cX11_balanced 50 = .ok (.iaload, 1) := by decide +kernel
theorem dX11_balanced_51 : decode cX11_balanced 51 = .ok (.istore 6, 2) := by decide +kernel
theorem dX11_balanced_53 : decode cX11_balanced 53 = .ok (.aload_n 0, 1) := by decide +kernel
theorem dX11_balanced_54 : decode cX11_balanced 54 = .ok (.iconst 0, 1) := by decide +kernel
theorem dX11_balanced_55 : decode cX11_balanced 55 = .ok (.iload 6, 2) := by decide +kernel
theorem dX11_balanced_57 : decode cX11_balanced 57 = .ok (.invokevirtual 164, 3) := by decide +kernel
theorem dX11_balanced_60 : decode cX11_balanced 60 = .ok (.istore 7, 2) := by decide +kernel
theorem dX11_balanced_62 : decode cX11_balanced 62 = .ok (.aload_n 0, 1) := by decide +kernel
theorem dX11_balanced_63 : decode cX11_balanced 63 = .ok (.iconst 1, 1) := by decide +kernel
theorem dX11_balanced_64 : decode cX11_balanced 64 = .ok (.iload 6, 2) := by decide +kernel
theorem dX11_balanced_66 : decode cX11_balanced 66 = .ok (.invokevirtual 164, 3) := by decide +kernel
theorem dX11_balanced_69 : decode cX11_balanced 69 = .ok (.istore 8, 2) := by decide +kernel
theorem dX11_balanced_71 : decode cX11_balanced 71 = .ok (.aload_n 0, 1) := by decide +kernel
theorem dX11_balanced_72 : decode cX11_balanced 72 = .ok (.iconst 2, 1) := by decide +kernel
theorem dX11_balanced_73 : decode cX11_balanced 73 = .ok (.iload 6, 2) := by decide +kernel
theorem dX11_balanced_75 : decode cX11_balanced 75 = .ok (.invokevirtual 164, 3) := by decide +kernel
theorem dX11_balanced_78 : decode cX11_balanced 78 = .ok (.istore 9, 2) := by decide +kernel
theorem dX11_balanced_80 : decode cX11_balanced 80 = .ok (.aload_n 0, 1) := by decide +kernel
theorem dX11_balanced_81 : decode cX11_balanced 81 = .ok (.iconst 3, 1) := by decide +kernel
theorem dX11_balanced_82 : decode cX11_balanced 82 = .ok (.iload 6, 2) := by decide +kernel
theorem dX11_balanced_84 : decode cX11_balanced 84 = .ok (.invokevirtual 164, 3) := by decide +kernel
theorem dX11_balanced_87 : decode cX11_balanced 87 = .ok (.istore 10, 2) := by decide +kernel
theorem dX11_balanced_89 : decode cX11_balanced 89 = .ok (.iload 7, 2) := by decide +kernel
theorem dX11_balanced_91 : decode cX11_balanced 91 = .ok (.ifCond .ge 8, 3) := by decide +kernel
theorem dX11_balanced_94 : decode cX11_balanced 94 = .ok (.iload 8, 2) := by decide +kernel
theorem dX11_balanced_96 : decode cX11_balanced 96 = .ok (.ifCond .lt 40, 3) := by decide +kernel
theorem dX11_balanced_99 : decode cX11_balanced 99 = .ok (.iinc 4 1, 3) := by decide +kernel
theorem dX11_balanced_102 : decode cX11_balanced 102 = .ok (.iload 7, 2) := by decide +kernel
theorem dX11_balanced_104 : decode cX11_balanced 104 = .ok (.ifCond .lt 13, 3) := by decide +kernel
theorem dX11_balanced_107 : decode cX11_balanced 107 = .ok (.aload_n 0, 1) := by decide +kernel
theorem dX11_balanced_108 : decode cX11_balanced 108 = .ok (.iconst 0, 1) := by decide +kernel
theorem dX11_balanced_109 : decode cX11_balanced 109 = .ok (.iload 7, 2) := by decide +kernel
theorem dX11_balanced_111 : decode cX11_balanced 111 = .ok (.invokevirtual 154, 3) := by decide +kernel
theorem dX11_balanced_114 : decode cX11_balanced 114 = .ok (.goto 10, 3) := by decide +kernel
theorem dX11_balanced_117 : decode cX11_balanced 117 = .ok (.aload_n 0, 1) := by decide +kernel
theorem dX11_balanced_118 : decode cX11_balanced 118 = .ok (.iconst 1, 1) := by decide +kernel
theorem dX11_balanced_119 : decode cX11_balanced 119 = .ok (.iload 8, 2) := by decide +kernel
theorem dX11_balanced_121 : decode cX11_balanced 121 = .ok (.invokevirtual 154, 3) := by decide +kernel
theorem dX11_balanced_124 : decode cX11_balanced 124 = .ok (.istore 11, 2) := by decide +kernel
theorem dX11_balanced_126 : decode cX11_balanced 126 = .ok (.aload_n 0, 1) := by decide +kernel
theorem dX11_balanced_127 : decode cX11_balanced 127 = .ok (.iconst 1, 1) := by decide +kernel
theorem dX11_balanced_128 : decode cX11_balanced 128 = .ok (.iload 6, 2) := by decide +kernel
theorem dX11_balanced_130 : decode cX11_balanced 130 = .ok (.invokevirtual 157, 3) := by decide +kernel
theorem dX11_balanced_133 : decode cX11_balanced 133 = .ok (.goto 160, 3) := by decide +kernel
theorem dX11_balanced_136 : decode cX11_balanced 136 = .ok (.iload 9, 2) := by decide +kernel
theorem dX11_balanced_138 : decode cX11_balanced 138 = .ok (.ifCond .lt 73, 3) := by decide +kernel
theorem dX11_balanced_141 : decode cX11_balanced 141 = .ok (.aload_n 0, 1) := by decide +kernel
theorem dX11_balanced_142 : decode cX11_balanced 142 = .ok (.getfield 41, 3) := by decide +kernel
theorem dX11_balanced_145 : decode cX11_balanced 145 = .ok (.iconst 3, 1) := by decide +kernel
theorem dX11_balanced_146 : decode cX11_balanced 146 = .ok (.iaload, 1) := by decide +kernel
theorem dX11_balanced_147 : decode cX11_balanced 147 = .ok (.aload_n 0, 1) := by decide +kernel
theorem dX11_balanced_148 : decode cX11_balanced 148 = .ok (.getfield 41, 3) := by decide +kernel
theorem dX11_balanced_151 : decode cX11_balanced 151 = .ok (.iconst 2, 1) := by decide +kernel
theorem dX11_balanced_152 : decode cX11_balanced 152 = .ok (.iaload, 1) := by decide +kernel
theorem dX11_balanced_153 : decode cX11_balanced 153 = .ok (.idiv, 1) := by decide +kernel
theorem dX11_balanced_154 : decode cX11_balanced 154 = .ok (.istore 11, 2) := by decide +kernel
theorem dX11_balanced_156 : decode cX11_balanced 156 = .ok (.aload_n 0, 1) := by decide +kernel
theorem dX11_balanced_157 : decode cX11_balanced 157 = .ok (.aload_n 0, 1) := by decide +kernel
theorem dX11_balanced_158 : decode cX11_balanced 158 = .ok (.getfield 151, 3) := by decide +kernel
theorem dX11_balanced_161 : decode cX11_balanced 161 = .ok (.iload 11, 2) := by decide +kernel
theorem dX11_balanced_163 : decode cX11_balanced 163 = .ok (.iconst 1, 1) := by decide +kernel
theorem dX11_balanced_164 : decode cX11_balanced 164 = .ok (.if_icmp .ge 7, 3) := by decide +kernel
theorem dX11_balanced_167 : decode cX11_balanced 167 = .ok (.iconst 1, 1) := by decide +kernel
theorem dX11_balanced_168 : decode cX11_balanced 168 = .ok (.goto 5, 3) := by decide +kernel
theorem dX11_balanced_171 : decode cX11_balanced 171 = .ok (.iload 11, 2) := by decide +kernel
theorem dX11_balanced_173 : decode cX11_balanced 173 = .ok (.iadd, 1) := by decide +kernel
theorem dX11_balanced_174 : decode cX11_balanced 174 = .ok (.iconst 0, 1) := by decide +kernel
theorem dX11_balanced_175 : decode cX11_balanced 175 = .ok (.iload_n 1, 1) := by decide +kernel
theorem dX11_balanced_176 : decode cX11_balanced 176 = .ok (.invokestatic 44, 3) := by decide +kernel
theorem dX11_balanced_179 : decode cX11_balanced 179 = .ok (.putfield 151, 3) := by decide +kernel
theorem dX11_balanced_182 : decode cX11_balanced 182 = .ok (.aload_n 0, 1) := by decide +kernel
theorem dX11_balanced_183 : decode cX11_balanced 183 = .ok (.iconst 0, 1) := by decide +kernel
theorem dX11_balanced_184 : decode cX11_balanced 184 = .ok (.invokevirtual 160, 3) := by decide +kernel
theorem dX11_balanced_187 : decode cX11_balanced 187 = .ok (.aload_n 0, 1) := by decide +kernel
theorem dX11_balanced_188 : decode cX11_balanced 188 = .ok (.iconst 2, 1) := by decide +kernel
theorem dX11_balanced_189 : decode cX11_balanced 189 = .ok (.aload_n 0, 1) := by decide +kernel
theorem dX11_balanced_190 : decode cX11_balanced 190 = .ok (.iconst 2, 1) := by decide +kernel
theorem dX11_balanced_191 : decode cX11_balanced 191 = .ok (.iload 6, 2) := by decide +kernel
theorem dX11_balanced_193 : decode cX11_balanced 193 = .ok (.invokevirtual 164, 3) := by decide +kernel
theorem dX11_balanced_196 : decode cX11_balanced 196 = .ok (.invokevirtual 154, 3) := by decide +kernel
theorem dX11_balanced_199 : decode cX11_balanced 199 = .ok (.istore 12, 2) := by decide +kernel
theorem dX11_balanced_201 : decode cX11_balanced 201 = .ok (.aload_n 0, 1) := by decide +kernel
theorem dX11_balanced_202 : decode cX11_balanced 202 = .ok (.iconst 1, 1) := by decide +kernel
theorem dX11_balanced_203 : decode cX11_balanced 203 = .ok (.iload 6, 2) := by decide +kernel
theorem dX11_balanced_205 : decode cX11_balanced 205 = .ok (.invokevirtual 157, 3) := by decide +kernel
theorem dX11_balanced_208 : decode cX11_balanced 208 = .ok (.goto 85, 3) := by decide +kernel
theorem dX11_balanced_211 : decode cX11_balanced 211 = .ok (.iload 10, 2) := by decide +kernel
theorem dX11_balanced_213 : decode cX11_balanced 213 = .ok (.ifCond .lt 73, 3) := by decide +kernel
theorem dX11_balanced_216 : decode cX11_balanced 216 = .ok (.aload_n 0, 1) := by decide +kernel
theorem dX11_balanced_217 : decode cX11_balanced 217 = .ok (.getfield 41, 3) := by decide +kernel
theorem dX11_balanced_220 : decode cX11_balanced 220 = .ok (.iconst 2, 1) := by decide +kernel
theorem dX11_balanced_221 : decode cX11_balanced 221 = .ok (.iaload, 1) := by decide +kernel
theorem dX11_balanced_222 : decode cX11_balanced 222 = .ok (.aload_n 0, 1) := by decide +kernel
theorem dX11_balanced_223 : decode cX11_balanced 223 = .ok (.getfield 41, 3) := by decide +kernel
theorem dX11_balanced_226 : decode cX11_balanced 226 = .ok (.iconst 3, 1) := by decide +kernel
theorem dX11_balanced_227 : decode cX11_balanced 227 = .ok (.iaload, 1) := by decide +kernel
theorem dX11_balanced_228 : decode cX11_balanced 228 = .ok (.idiv, 1) := by decide +kernel
theorem dX11_balanced_229 : decode cX11_balanced 229 = .ok (.istore 11, 2) := by decide +kernel
theorem dX11_balanced_231 : decode cX11_balanced 231 = .ok (.aload_n 0, 1) := by decide +kernel
theorem dX11_balanced_232 : decode cX11_balanced 232 = .ok (.aload_n 0, 1) := by decide +kernel
theorem dX11_balanced_233 : decode cX11_balanced 233 = .ok (.getfield 151, 3) := by decide +kernel
theorem dX11_balanced_236 : decode cX11_balanced 236 = .ok (.iload 11, 2) := by decide +kernel
theorem dX11_balanced_238 : decode cX11_balanced 238 = .ok (.iconst 1, 1) := by decide +kernel
theorem dX11_balanced_239 : decode cX11_balanced 239 = .ok (.if_icmp .ge 7, 3) := by decide +kernel
theorem dX11_balanced_242 : decode cX11_balanced 242 = .ok (.iconst 1, 1) := by decide +kernel
theorem dX11_balanced_243 : decode cX11_balanced 243 = .ok (.goto 5, 3) := by decide +kernel
theorem dX11_balanced_246 : decode cX11_balanced 246 = .ok (.iload 11, 2) := by decide +kernel
theorem dX11_balanced_248 : decode cX11_balanced 248 = .ok (.isub, 1) := by decide +kernel
theorem dX11_balanced_249 : decode cX11_balanced 249 = .ok (.iconst 0, 1) := by decide +kernel
theorem dX11_balanced_250 : decode cX11_balanced 250 = .ok (.iload_n 1, 1) := by decide +kernel
theorem dX11_balanced_251 : decode cX11_balanced 251 = .ok (.invokestatic 44, 3) := by decide +kernel
theorem dX11_balanced_254 : decode cX11_balanced 254 = .ok (.putfield 151, 3) := by decide +kernel
theorem dX11_balanced_257 : decode cX11_balanced 257 = .ok (.aload_n 0, 1) := by decide +kernel
theorem dX11_balanced_258 : decode cX11_balanced 258 = .ok (.iconst 1, 1) := by decide +kernel
theorem dX11_balanced_259 : decode cX11_balanced 259 = .ok (.invokevirtual 160, 3) := by decide +kernel
theorem dX11_balanced_262 : decode cX11_balanced 262 = .ok (.aload_n 0, 1) := by decide +kernel
theorem dX11_balanced_263 : decode cX11_balanced 263 = .ok (.iconst 3, 1) := by decide +kernel
theorem dX11_balanced_264 : decode cX11_balanced 264 = .ok (.aload_n 0, 1) := by decide +kernel
theorem dX11_balanced_265 : decode cX11_balanced 265 = .ok (.iconst 3, 1) := by decide +kernel
theorem dX11_balanced_266 : decode cX11_balanced 266 = .ok (.iload 6, 2) := by decide +kernel
theorem dX11_balanced_268 : decode cX11_balanced 268 = .ok (.invokevirtual 164, 3) := by decide +kernel
theorem dX11_balanced_271 : decode cX11_balanced 271 = .ok (.invokevirtual 154, 3) := by decide +kernel
theorem dX11_balanced_274 : decode cX11_balanced 274 = .ok (.istore 12, 2) := by decide +kernel
theorem dX11_balanced_276 : decode cX11_balanced 276 = .ok (.aload_n 0, 1) := by decide +kernel
theorem dX11_balanced_277 : decode cX11_balanced 277 = .ok (.iconst 1, 1) := by decide +kernel
theorem dX11_balanced_278 : decode cX11_balanced 278 = .ok (.iload 6, 2) := by decide +kernel
theorem dX11_balanced_280 : decode cX11_balanced 280 = .ok (.invokevirtual 157, 3) := by decide +kernel
theorem dX11_balanced_283 : decode cX11_balanced 283 = .ok (.goto 10, 3) := by decide +kernel
theorem dX11_balanced_286 : decode cX11_balanced 286 = .ok (.aload_n 0, 1) := by decide +kernel
theorem dX11_balanced_287 : decode cX11_balanced 287 = .ok (.iload 6, 2) := by decide +kernel
theorem dX11_balanced_289 : decode cX11_balanced 289 = .ok (.iload_n 1, 1) := by decide +kernel
theorem dX11_balanced_290 : decode cX11_balanced 290 = .ok (.invokevirtual 167, 3) := by decide +kernel
theorem dX11_balanced_293 : decode cX11_balanced 293 = .ok (.iinc 5 1, 3) := by decide +kernel
theorem dX11_balanced_296 : decode cX11_balanced 296 = .ok (.goto (-262), 3) := by decide +kernel
theorem dX11_balanced_299 : decode cX11_balanced 299 = .ok (.iload 4, 2) := by decide +kernel
theorem dX11_balanced_301 : decode cX11_balanced 301 = .ok (.ireturn, 1) := by decide +kernel
theorem dX11_replay_0 : decode cX11_replay 0 = .ok (.iload_n 1, 1) := by decide +kernel
theorem dX11_replay_1 : decode cX11_replay 1 = .ok (.iconst 0, 1) := by decide +kernel
theorem dX11_replay_2 : decode cX11_replay 2 = .ok (.iconst 5, 1) := by decide +kernel
theorem dX11_replay_3 : decode cX11_replay 3 = .ok (.invokestatic 59, 3) := by decide +kernel
theorem dX11_replay_6 : decode cX11_replay 6 = .ok (.ifCond .eq 36, 3) := by decide +kernel
theorem dX11_replay_9 : decode cX11_replay 9 = .ok (.iload_n 2, 1) := by decide +kernel
theorem dX11_replay_10 : decode cX11_replay 10 = .ok (.iconst 1, 1) := by decide +kernel
theorem dX11_replay_11 : decode cX11_replay 11 = .ok (.bipush 30, 2) := by decide +kernel
theorem dX11_replay_13 : decode cX11_replay 13 = .ok (.invokestatic 59, 3) := by decide +kernel
theorem dX11_replay_16 : decode cX11_replay 16 = .ok (.ifCond .eq 26, 3) := by decide +kernel
theorem dX11_replay_19 : decode cX11_replay 19 = .ok (.iload_n 3, 1) := by decide +kernel
theorem dX11_replay_20 : decode cX11_replay 20 = .ok (.ifCond .lt 22, 3) := by decide +kernel
theorem dX11_replay_23 : decode cX11_replay 23 = .ok (.iload 4, 2) := by decide +kernel
theorem dX11_replay_25 : decode cX11_replay 25 = .ok (.iload_n 3, 1) := by decide +kernel
theorem dX11_replay_26 : decode cX11_replay 26 = .ok (.if_icmp .lt 16, 3) := by decide +kernel
theorem dX11_replay_29 : decode cX11_replay 29 = .ok (.iload 4, 2) := by decide +kernel
theorem dX11_replay_31 : decode cX11_replay 31 = .ok (.aload_n 0, 1) := by decide +kernel
theorem dX11_replay_32 : decode cX11_replay 32 = .ok (.getfield 7, 3) := by decide +kernel
theorem dX11_replay_35 : decode cX11_replay 35 = .ok (.sipush 1404, 3) := by decide +kernel
theorem dX11_replay_38 : decode cX11_replay 38 = .ok (.iaload, 1) := by decide +kernel
theorem dX11_replay_39 : decode cX11_replay 39 = .ok (.if_icmp .le 6, 3) := by decide +kernel
theorem dX11_replay_42 : decode cX11_replay 42 = .ok (.bipush (-2), 2) := by decide +kernel
theorem dX11_replay_44 : decode cX11_replay 44 = .ok (.ireturn, 1) := by decide +kernel
theorem dX11_replay_45 : decode cX11_replay 45 = .ok (.iload_n 1, 1) := by decide +kernel
theorem dX11_replay_46 : decode cX11_replay 46 = .ok (.iconst 5, 1) := by decide +kernel
theorem dX11_replay_47 : decode cX11_replay 47 = .ok (.if_icmp .ne 14, 3) := by decide +kernel
theorem dX11_replay_50 : decode cX11_replay 50 = .ok (.aload_n 0, 1) := by decide +kernel
theorem dX11_replay_51 : decode cX11_replay 51 = .ok (.iload_n 2, 1) := by decide +kernel
theorem dX11_replay_52 : decode cX11_replay 52 = .ok (.iload_n 3, 1) := by decide +kernel
theorem dX11_replay_53 : decode cX11_replay 53 = .ok (.iload 4, 2) := by decide +kernel
theorem dX11_replay_55 : decode cX11_replay 55 = .ok (.invokevirtual 170, 3) := by decide +kernel
theorem dX11_replay_58 : decode cX11_replay 58 = .ok (.goto 12, 3) := by decide +kernel
theorem dX11_replay_61 : decode cX11_replay 61 = .ok (.aload_n 0, 1) := by decide +kernel
theorem dX11_replay_62 : decode cX11_replay 62 = .ok (.iload_n 1, 1) := by decide +kernel
theorem dX11_replay_63 : decode cX11_replay 63 = .ok (.iload_n 2, 1) := by decide +kernel
theorem dX11_replay_64 : decode cX11_replay 64 = .ok (.iload_n 3, 1) := by decide +kernel
theorem dX11_replay_65 : decode cX11_replay 65 = .ok (.iload 4, 2) := by decide +kernel
theorem dX11_replay_67 : decode cX11_replay 67 = .ok (.invokevirtual 173, 3) := by decide +kernel
theorem dX11_replay_70 : decode cX11_replay 70 = .ok (.istore 5, 2) := by decide +kernel
theorem dX11_replay_72 : decode cX11_replay 72 = .ok (.aload_n 0, 1) := by decide +kernel
theorem dX11_replay_73 : decode cX11_replay 73 = .ok (.iconst 0, 1) := by decide +kernel
theorem dX11_replay_74 : decode cX11_replay 74 = .ok (.putfield 176, 3) := by decide +kernel
theorem dX11_replay_77 : decode cX11_replay 77 = .ok (.iconst 0, 1) := by decide +kernel
theorem dX11_replay_78 : decode cX11_replay 78 = .ok (.istore 6, 2) := by decide +kernel
theorem dX11_replay_80 : decode cX11_replay 80 = .ok (.iload 6, 2) := by decide +kernel
theorem dX11_replay_82 : decode cX11_replay 82 = .ok (.bipush 100, 2) := by decide +kernel
theorem dX11_replay_84 : decode cX11_replay 84 = .ok (.if_icmp .ge 84, 3) := by decide +kernel
theorem dX11_replay_87 : decode cX11_replay 87 = .ok (.iload_n 1, 1) := by decide +kernel
theorem dX11_replay_88 : decode cX11_replay 88 = .ok (.iconst 5, 1) := by decide +kernel
theorem dX11_replay_89 : decode cX11_replay 89 = .ok (.if_icmp .ne 31, 3) := by decide +kernel
theorem dX11_replay_92 : decode cX11_replay 92 = .ok (.aload_n 0, 1) := by decide +kernel
theorem dX11_replay_93 : decode cX11_replay 93 = .ok (.iconst 0, 1) := by decide +kernel
theorem dX11_replay_94 : decode cX11_replay 94 = .ok (.iload 6, 2) := by decide +kernel
theorem dX11_replay_96 : decode cX11_replay 96 = .ok (.invokevirtual 164, 3) := by decide +kernel
theorem dX11_replay_99 : decode cX11_replay 99 = .ok (.ifCond .ge 13, 3) := by decide +kernel
theorem dX11_replay_102 : decode cX11_replay 102 = .ok (.aload_n 0, 1) := by decide +kernel
theorem dX11_replay_103 : decode cX11_replay 103 = .ok (.iconst 1, 1) := by decide +kernel
theorem dX11_replay_104 : decode cX11_replay 104 = .ok (.iload 6, 2) := by decide +kernel
theorem dX11_replay_106 : decode cX11_replay 106 = .ok (.invokevirtual 164, 3) := by decide +kernel
theorem dX11_replay_109 : decode cX11_replay 109 = .ok (.ifCond .lt 7, 3) := by decide +kernel
theorem dX11_replay_112 : decode cX11_replay 112 = .ok (.iconst 1, 1) := by decide +kernel
theorem dX11_replay_113 : decode cX11_replay 113 = .ok (.goto 21, 3) := by decide +kernel
theorem dX11_replay_116 : decode cX11_replay 116 = .ok (.iconst 0, 1) := by decide +kernel
theorem dX11_replay_117 : decode cX11_replay 117 = .ok (.goto 17, 3) := by decide +kernel
theorem dX11_replay_120 : decode cX11_replay 120 = .ok (.aload_n 0, 1) := by decide +kernel
theorem dX11_replay_121 : decode cX11_replay 121 = .ok (.iload 6, 2) := by decide +kernel
theorem dX11_replay_123 : decode cX11_replay 123 = .ok (.invokevirtual 144, 3) := by decide +kernel
theorem dX11_replay_126 : decode cX11_replay 126 = .ok (.ifCond .lt 7, 3) := by decide +kernel
theorem dX11_replay_129 : decode cX11_replay 129 = .ok (.iconst 1, 1) := by decide +kernel
theorem dX11_replay_130 : decode cX11_replay 130 = .ok (.goto 4, 3) := by decide +kernel
theorem dX11_replay_133 : decode cX11_replay 133 = .ok (.iconst 0, 1) := by decide +kernel
theorem dX11_replay_134 : decode cX11_replay 134 = .ok (.istore 7, 2) := by decide +kernel
theorem dX11_replay_136 : decode cX11_replay 136 = .ok (.iload 7, 2) := by decide +kernel
theorem dX11_replay_138 : decode cX11_replay 138 = .ok (.ifCond .eq 24, 3) := by decide +kernel
theorem dX11_replay_141 : decode cX11_replay 141 = .ok (.aload_n 0, 1) := by decide +kernel
theorem dX11_replay_142 : decode cX11_replay 142 = .ok (.getfield 20, 3) := by decide +kernel
theorem dX11_replay_145 : decode cX11_replay 145 = .ok (.aload_n 0, 1) := by decide +kernel
theorem dX11_replay_146 : decode cX11_replay 146 = .ok (.getfield 176, 3) := by decide +kernel
theorem dX11_replay_149 : decode cX11_replay 149 = .ok (.iload 6, 2) := by decide +kernel
theorem dX11_replay_151 : decode cX11_replay 151 = .ok (.iastore, 1) := by decide +kernel
theorem dX11_replay_152 : decode cX11_replay 152 = .ok (.aload_n 0, 1) := by decide +kernel
theorem dX11_replay_153 : decode cX11_replay 153 = .ok (.dup, 1) := by decide +kernel
theorem dX11_replay_154 : decode cX11_replay 154 = .ok (.getfield 176, 3) := by decide +kernel
theorem dX11_replay_157 : decode cX11_replay 157 = .ok (.iconst 1, 1) := by decide +kernel
theorem dX11_replay_158 : decode cX11_replay 158 = .ok (.iadd, 1) := by decide +kernel
theorem dX11_replay_159 : decode cX11_replay 159 = .ok (.putfield 176, 3) := by decide +kernel
theorem dX11_replay_162 : decode cX11_replay 162 = .ok (.iinc 6 1, 3) := by decide +kernel
theorem dX11_replay_165 : decode cX11_replay 165 = .ok (.goto (-85), 3) := by decide +kernel
theorem dX11_replay_168 : decode cX11_replay 168 = .ok (.iload 5, 2) := by decide +kernel
theorem dX11_replay_170 : decode cX11_replay 170 = .ok (.ireturn, 1) := by decide +kernel
theorem dX11_kept_0 : decode cX11_kept 0 = .ok (.iload_n 1, 1) := by decide +kernel
theorem dX11_kept_1 : decode cX11_kept 1 = .ok (.iconst 0, 1) := by decide +kernel
theorem dX11_kept_2 : decode cX11_kept 2 = .ok (.aload_n 0, 1) := by decide +kernel
theorem dX11_kept_3 : decode cX11_kept 3 = .ok (.getfield 176, 3) := by decide +kernel
theorem dX11_kept_6 : decode cX11_kept 6 = .ok (.iconst 1, 1) := by decide +kernel
theorem dX11_kept_7 : decode cX11_kept 7 = .ok (.isub, 1) := by decide +kernel
theorem dX11_kept_8 : decode cX11_kept 8 = .ok (.invokestatic 59, 3) := by decide +kernel
theorem dX11_kept_11 : decode cX11_kept 11 = .ok (.ifCond .eq 12, 3) := by decide +kernel
theorem dX11_kept_14 : decode cX11_kept 14 = .ok (.aload_n 0, 1) := by decide +kernel
theorem dX11_kept_15 : decode cX11_kept 15 = .ok (.getfield 20, 3) := by decide +kernel
theorem dX11_kept_18 : decode cX11_kept 18 = .ok (.iload_n 1, 1) := by decide +kernel
theorem dX11_kept_19 : decode cX11_kept 19 = .ok (.iaload, 1) := by decide +kernel
theorem dX11_kept_20 : decode cX11_kept 20 = .ok (.goto 4, 3) := by decide +kernel
theorem dX11_kept_23 : decode cX11_kept 23 = .ok (.iconst (-1), 1) := by decide +kernel
theorem dX11_kept_24 : decode cX11_kept 24 = .ok (.ireturn, 1) := by decide +kernel
theorem dX11_save_0 : decode cX11_save 0 = .ok (.iload_n 1, 1) := by decide +kernel
theorem dX11_save_1 : decode cX11_save 1 = .ok (.iconst 0, 1) := by decide +kernel
theorem dX11_save_2 : decode cX11_save 2 = .ok (.iconst 3, 1) := by decide +kernel
theorem dX11_save_3 : decode cX11_save 3 = .ok (.invokestatic 59, 3) := by decide +kernel
theorem dX11_save_6 : decode cX11_save 6 = .ok (.ifCond .ne 6, 3) := by decide +kernel
theorem dX11_save_9 : decode cX11_save 9 = .ok (.bipush (-2), 2) := by decide +kernel
theorem dX11_save_11 : decode cX11_save 11 = .ok (.ireturn, 1) := by decide +kernel
theorem dX11_save_12 : decode cX11_save 12 = .ok (.iconst 0, 1) := by decide +kernel
theorem dX11_save_13 : decode cX11_save 13 = .ok (.istore_n 2, 1) := by decide +kernel
theorem dX11_save_14 : decode cX11_save 14 = .ok (.iload_n 2, 1) := by decide +kernel
theorem dX11_save_15 : decode cX11_save 15 = .ok (.sipush 1805, 3) := by decide +kernel
theorem dX11_save_18 : decode cX11_save 18 = .ok (.if_icmp .ge 27, 3) := by decide +kernel
theorem dX11_save_21 : decode cX11_save 21 = .ok (.aload_n 0, 1) := by decide +kernel
theorem dX11_save_22 : decode cX11_save 22 = .ok (.getfield 13, 3) := by decide +kernel
theorem dX11_save_25 : decode cX11_save 25 = .ok (.sipush 1805, 3) := by decide +kernel
theorem dX11_save_28 : decode cX11_save 28 = .ok (.iload_n 1, 1) := by decide +kernel
theorem dX11_save_29 : decode cX11_save 29 = .ok (.imul, 1) := by decide +kernel
theorem dX11_save_30 : decode cX11_save 30 = .ok (.iload_n 2, 1) := by decide +kernel
theorem dX11_save_31 : decode cX11_save 31 = .ok (.iadd, 1) := by decide +kernel
theorem dX11_save_32 : decode cX11_save 32 = .ok (.aload_n 0, 1) := by decide +kernel
theorem dX11_save_33 : decode cX11_save 33 = .ok (.getfield 7, 3) := by decide +kernel
theorem dX11_save_36 : decode cX11_save 36 = .ok (.iload_n 2, 1) := by decide +kernel
theorem dX11_save_37 : decode cX11_save 37 = .ok (.iaload, 1) := by decide +kernel
theorem dX11_save_38 : decode cX11_save 38 = .ok (.iastore, 1) := by decide +kernel
theorem dX11_save_39 : decode cX11_save 39 = .ok (.iinc 2 1, 3) := by decide +kernel
theorem dX11_save_42 : decode cX11_save 42 = .ok (.goto (-28), 3) := by decide +kernel
theorem dX11_save_45 : decode cX11_save 45 = .ok (.aload_n 0, 1) := by decide +kernel
theorem dX11_save_46 : decode cX11_save 46 = .ok (.getfield 16, 3) := by decide +kernel
theorem dX11_save_49 : decode cX11_save 49 = .ok (.iload_n 1, 1) := by decide +kernel
theorem dX11_save_50 : decode cX11_save 50 = .ok (.iconst 1, 1) := by decide +kernel
theorem dX11_save_51 : decode cX11_save 51 = .ok (.bastore, 1) := by decide +kernel
theorem dX11_save_52 : decode cX11_save 52 = .ok (.aload_n 0, 1) := by decide +kernel
theorem dX11_save_53 : decode cX11_save 53 = .ok (.getfield 7, 3) := by decide +kernel
theorem dX11_save_56 : decode cX11_save 56 = .ok (.sipush 1397, 3) := by decide +kernel
theorem dX11_save_59 : decode cX11_save 59 = .ok (.iaload, 1) := by decide +kernel
theorem dX11_save_60 : decode cX11_save 60 = .ok (.ireturn, 1) := by decide +kernel
theorem dX11_load_0 : decode cX11_load 0 = .ok (.iload_n 1, 1) := by decide +kernel
theorem dX11_load_1 : decode cX11_load 1 = .ok (.iconst 0, 1) := by decide +kernel
theorem dX11_load_2 : decode cX11_load 2 = .ok (.iconst 3, 1) := by decide +kernel
theorem dX11_load_3 : decode cX11_load 3 = .ok (.invokestatic 59, 3) := by decide +kernel
theorem dX11_load_6 : decode cX11_load 6 = .ok (.ifCond .ne 6, 3) := by decide +kernel
theorem dX11_load_9 : decode cX11_load 9 = .ok (.bipush (-2), 2) := by decide +kernel
theorem dX11_load_11 : decode cX11_load 11 = .ok (.ireturn, 1) := by decide +kernel
theorem dX11_load_12 : decode cX11_load 12 = .ok (.aload_n 0, 1) := by decide +kernel
theorem dX11_load_13 : decode cX11_load 13 = .ok (.getfield 16, 3) := by decide +kernel
theorem dX11_load_16 : decode cX11_load 16 = .ok (.iload_n 1, 1) := by decide +kernel
theorem dX11_load_17 : decode cX11_load 17 = .ok (.baload, 1) := by decide +kernel
theorem dX11_load_18 : decode cX11_load 18 = .ok (.ifCond .ne 5, 3) := by decide +kernel
theorem dX11_load_21 : decode cX11_load 21 = .ok (.iconst (-1), 1) := by decide +kernel
theorem dX11_load_22 : decode cX11_load 22 = .ok (.ireturn, 1) := by decide +kernel
theorem dX11_load_23 : decode cX11_load 23 = .ok (.iconst 0, 1) := by decide +kernel
theorem dX11_load_24 : decode cX11_load 24 = .ok (.istore_n 2, 1) := by decide +kernel
theorem dX11_load_25 : decode cX11_load 25 = .ok (.iload_n 2, 1) := by decide +kernel
theorem dX11_load_26 : decode cX11_load 26 = .ok (.sipush 1805, 3) := by decide +kernel
theorem dX11_load_29 : decode cX11_load 29 = .ok (.if_icmp .ge 27, 3) := by decide +kernel
theorem dX11_load_32 : decode cX11_load 32 = .ok (.aload_n 0, 1) := by decide +kernel
theorem dX11_load_33 : decode cX11_load 33 = .ok (.getfield 7, 3) := by decide +kernel
theorem dX11_load_36 : decode cX11_load 36 = .ok (.iload_n 2, 1) := by decide +kernel
theorem dX11_load_37 : decode cX11_load 37 = .ok (.aload_n 0, 1) := by decide +kernel
theorem dX11_load_38 : decode cX11_load 38 = .ok (.getfield 13, 3) := by decide +kernel
theorem dX11_load_41 : decode cX11_load 41 = .ok (.sipush 1805, 3) := by decide +kernel
theorem dX11_load_44 : decode cX11_load 44 = .ok (.iload_n 1, 1) := by decide +kernel
theorem dX11_load_45 : decode cX11_load 45 = .ok (.imul, 1) := by decide +kernel
theorem dX11_load_46 : decode cX11_load 46 = .ok (.iload_n 2, 1) := by decide +kernel
theorem dX11_load_47 : decode cX11_load 47 = .ok (.iadd, 1) := by decide +kernel
theorem dX11_load_48 : decode cX11_load 48 = .ok (.iaload, 1) := by decide +kernel
theorem dX11_load_49 : decode cX11_load 49 = .ok (.iastore, 1) := by decide +kernel
theorem dX11_load_50 : decode cX11_load 50 = .ok (.iinc 2 1, 3) := by decide +kernel
theorem dX11_load_53 : decode cX11_load 53 = .ok (.goto (-28), 3) := by decide +kernel
theorem dX11_load_56 : decode cX11_load 56 = .ok (.aload_n 0, 1) := by decide +kernel
theorem dX11_load_57 : decode cX11_load 57 = .ok (.getfield 7, 3) := by decide +kernel
theorem dX11_load_60 : decode cX11_load 60 = .ok (.sipush 1397, 3) := by decide +kernel
theorem dX11_load_63 : decode cX11_load 63 = .ok (.iaload, 1) := by decide +kernel
theorem dX11_load_64 : decode cX11_load 64 = .ok (.ireturn, 1) := by decide +kernel
theorem dX11_sound_0 : decode cX11_sound 0 = .ok (.aload_n 0, 1) := by decide +kernel
theorem dX11_sound_1 : decode cX11_sound 1 = .ok (.iconst 0, 1) := by decide +kernel
theorem dX11_sound_2 : decode cX11_sound 2 = .ok (.invokevirtual 93, 3) := by decide +kernel
theorem dX11_sound_5 : decode cX11_sound 5 = .ok (.aload_n 0, 1) := by decide +kernel
theorem dX11_sound_6 : decode cX11_sound 6 = .ok (.getfield 7, 3) := by decide +kernel
theorem dX11_sound_9 : decode cX11_sound 9 = .ok (.sipush 1393, 3) := by decide +kernel
theorem dX11_sound_12 : decode cX11_sound 12 = .ok (.iaload, 1) := by decide +kernel
theorem dX11_sound_13 : decode cX11_sound 13 = .ok (.if_icmp .gt 43, 3) := by decide +kernel
theorem dX11_sound_16 : decode cX11_sound 16 = .ok (.aload_n 0, 1) := by decide +kernel
theorem dX11_sound_17 : decode cX11_sound 17 = .ok (.invokevirtual 106, 3) := by decide +kernel
theorem dX11_sound_20 : decode cX11_sound 20 = .ok (.aload_n 0, 1) := by decide +kernel
theorem dX11_sound_21 : decode cX11_sound 21 = .ok (.getfield 52, 3) := by decide +kernel
theorem dX11_sound_24 : decode cX11_sound 24 = .ok (.aload_n 0, 1) := by decide +kernel
theorem dX11_sound_25 : decode cX11_sound 25 = .ok (.getfield 7, 3) := by decide +kernel
theorem dX11_sound_28 : decode cX11_sound 28 = .ok (.sipush 1393, 3) := by decide +kernel
theorem dX11_sound_31 : decode cX11_sound 31 = .ok (.iaload, 1) := by decide +kernel
theorem dX11_sound_32 : decode cX11_sound 32 = .ok (.isub, 1) := by decide +kernel
theorem dX11_sound_33 : decode cX11_sound 33 = .ok (.if_icmp .gt 23, 3) := by decide +kernel
theorem dX11_sound_36 : decode cX11_sound 36 = .ok (.aload_n 0, 1) := by decide +kernel
theorem dX11_sound_37 : decode cX11_sound 37 = .ok (.iconst 2, 1) := by decide +kernel
theorem dX11_sound_38 : decode cX11_sound 38 = .ok (.invokevirtual 93, 3) := by decide +kernel
theorem dX11_sound_41 : decode cX11_sound 41 = .ok (.aload_n 0, 1) := by decide +kernel
theorem dX11_sound_42 : decode cX11_sound 42 = .ok (.getfield 7, 3) := by decide +kernel
theorem dX11_sound_45 : decode cX11_sound 45 = .ok (.sipush 1394, 3) := by decide +kernel
theorem dX11_sound_48 : decode cX11_sound 48 = .ok (.iaload, 1) := by decide +kernel
theorem dX11_sound_49 : decode cX11_sound 49 = .ok (.if_icmp .gt 7, 3) := by decide +kernel
theorem dX11_sound_52 : decode cX11_sound 52 = .ok (.iconst 1, 1) := by decide +kernel
theorem dX11_sound_53 : decode cX11_sound 53 = .ok (.goto 4, 3) := by decide +kernel
theorem dX11_sound_56 : decode cX11_sound 56 = .ok (.iconst 0, 1) := by decide +kernel
theorem dX11_sound_57 : decode cX11_sound 57 = .ok (.istore_n 1, 1) := by decide +kernel
theorem dX11_sound_58 : decode cX11_sound 58 = .ok (.iconst 0, 1) := by decide +kernel
theorem dX11_sound_59 : decode cX11_sound 59 = .ok (.istore_n 2, 1) := by decide +kernel
theorem dX11_sound_60 : decode cX11_sound 60 = .ok (.iload_n 2, 1) := by decide +kernel
theorem dX11_sound_61 : decode cX11_sound 61 = .ok (.bipush 100, 2) := by decide +kernel
theorem dX11_sound_63 : decode cX11_sound 63 = .ok (.if_icmp .ge 123, 3) := by decide +kernel
theorem dX11_sound_66 : decode cX11_sound 66 = .ok (.iconst 0, 1) := by decide +kernel
theorem dX11_sound_67 : decode cX11_sound 67 = .ok (.istore_n 3, 1) := by decide +kernel
theorem dX11_sound_68 : decode cX11_sound 68 = .ok (.iconst 0, 1) := by decide +kernel
theorem dX11_sound_69 : decode cX11_sound 69 = .ok (.istore 4, 2) := by decide +kernel
theorem dX11_sound_71 : decode cX11_sound 71 = .ok (.iload 4, 2) := by decide +kernel
theorem dX11_sound_73 : decode cX11_sound 73 = .ok (.iconst 3, 1) := by decide +kernel
theorem dX11_sound_74 : decode cX11_sound 74 = .ok (.if_icmp .ge 49, 3) := by decide +kernel
theorem dX11_sound_77 : decode cX11_sound 77 = .ok (.iconst 0, 1) := by decide +kernel
theorem dX11_sound_78 : decode cX11_sound 78 = .ok (.istore 5, 2) := by decide +kernel
theorem dX11_sound_80 : decode cX11_sound 80 = .ok (.iload 5, 2) := by decide +kernel
theorem dX11_sound_82 : decode cX11_sound 82 = .ok (.aload_n 0, 1) := by decide +kernel
theorem dX11_sound_83 : decode cX11_sound 83 = .ok (.iload 4, 2) := by decide +kernel
theorem dX11_sound_85 : decode cX11_sound 85 = .ok (.invokevirtual 84, 3) := by decide +kernel
theorem dX11_sound_88 : decode cX11_sound 88 = .ok (.if_icmp .ge 29, 3) := by decide +kernel
theorem dX11_sound_91 : decode cX11_sound 91 = .ok (.iload_n 3, 1) := by decide +kernel
theorem dX11_sound_92 : decode cX11_sound 92 = .ok (.aload_n 0, 1) := by decide +kernel
theorem dX11_sound_93 : decode cX11_sound 93 = .ok (.iload 4, 2) := by decide +kernel
theorem dX11_sound_95 : decode cX11_sound 95 = .ok (.iload 5, 2) := by decide +kernel
theorem dX11_sound_97 : decode cX11_sound 97 = .ok (.invokevirtual 87, 3) := by decide +kernel
theorem dX11_sound_100 : decode cX11_sound 100 = .ok (.iload_n 2, 1) := by decide +kernel
theorem dX11_sound_101 : decode cX11_sound 101 = .ok (.if_icmp .ne 7, 3) := by decide +kernel
theorem dX11_sound_104 : decode cX11_sound 104 = .ok (.iconst 1, 1) := by decide +kernel
theorem dX11_sound_105 : decode cX11_sound 105 = .ok (.goto 4, 3) := by decide +kernel
theorem dX11_sound_108 : decode cX11_sound 108 = .ok (.iconst 0, 1) := by decide +kernel
theorem dX11_sound_109 : decode cX11_sound 109 = .ok (.iadd, 1) := by decide +kernel
theorem dX11_sound_110 : decode cX11_sound 110 = .ok (.istore_n 3, 1) := by decide +kernel
theorem dX11_sound_111 : decode cX11_sound 111 = .ok (.iinc 5 1, 3) := by decide +kernel
theorem dX11_sound_114 : decode cX11_sound 114 = .ok (.goto (-34), 3) := by decide +kernel
theorem dX11_sound_117 : decode cX11_sound 117 = .ok (.iinc 4 1, 3) := by decide +kernel
theorem dX11_sound_120 : decode cX11_sound 120 = .ok (.goto (-49), 3) := by decide +kernel
theorem dX11_sound_123 : decode cX11_sound 123 = .ok (.aload_n 0, 1) := by decide +kernel
theorem dX11_sound_124 : decode cX11_sound 124 = .ok (.getfield 7, 3) := by decide +kernel
theorem dX11_sound_127 : decode cX11_sound 127 = .ok (.sipush 1705, 3) := by decide +kernel
theorem dX11_sound_130 : decode cX11_sound 130 = .ok (.iload_n 2, 1) := by decide +kernel
theorem dX11_sound_131 : decode cX11_sound 131 = .ok (.iadd, 1) := by decide +kernel
theorem dX11_sound_132 : decode cX11_sound 132 = .ok (.iaload, 1) := by decide +kernel
theorem dX11_sound_133 : decode cX11_sound 133 = .ok (.bipush 15, 2) := by decide +kernel
theorem dX11_sound_135 : decode cX11_sound 135 = .ok (.if_icmp .ge 16, 3) := by decide +kernel
theorem dX11_sound_138 : decode cX11_sound 138 = .ok (.aload_n 0, 1) := by decide +kernel
theorem dX11_sound_139 : decode cX11_sound 139 = .ok (.getfield 7, 3) := by decide +kernel
theorem dX11_sound_142 : decode cX11_sound 142 = .ok (.sipush 1705, 3) := by decide +kernel
theorem dX11_sound_145 : decode cX11_sound 145 = .ok (.iload_n 2, 1) := by decide +kernel
theorem dX11_sound_146 : decode cX11_sound 146 = .ok (.iadd, 1) := by decide +kernel
theorem dX11_sound_147 : decode cX11_sound 147 = .ok (.iaload, 1) := by decide +kernel
theorem dX11_sound_148 : decode cX11_sound 148 = .ok (.goto 5, 3) := by decide +kernel
theorem dX11_sound_151 : decode cX11_sound 151 = .ok (.bipush 15, 2) := by decide +kernel
theorem dX11_sound_153 : decode cX11_sound 153 = .ok (.istore 4, 2) := by decide +kernel
theorem dX11_sound_155 : decode cX11_sound 155 = .ok (.iload_n 1, 1) := by decide +kernel
theorem dX11_sound_156 : decode cX11_sound 156 = .ok (.ifCond .eq 22, 3) := by decide +kernel
theorem dX11_sound_159 : decode cX11_sound 159 = .ok (.iload_n 3, 1) := by decide +kernel
theorem dX11_sound_160 : decode cX11_sound 160 = .ok (.iconst 2, 1) := by decide +kernel
theorem dX11_sound_161 : decode cX11_sound 161 = .ok (.if_icmp .ge 17, 3) := by decide +kernel
theorem dX11_sound_164 : decode cX11_sound 164 = .ok (.aload_n 0, 1) := by decide +kernel
theorem dX11_sound_165 : decode cX11_sound 165 = .ok (.iload_n 2, 1) := by decide +kernel
theorem dX11_sound_166 : decode cX11_sound 166 = .ok (.invokevirtual 113, 3) := by decide +kernel
theorem dX11_sound_169 : decode cX11_sound 169 = .ok (.iload 4, 2) := by decide +kernel
theorem dX11_sound_171 : decode cX11_sound 171 = .ok (.if_icmp .lt 7, 3) := by decide +kernel
theorem dX11_sound_174 : decode cX11_sound 174 = .ok (.iconst 1, 1) := by decide +kernel
theorem dX11_sound_175 : decode cX11_sound 175 = .ok (.goto 4, 3) := by decide +kernel
theorem dX11_sound_178 : decode cX11_sound 178 = .ok (.iconst 0, 1) := by decide +kernel
theorem dX11_sound_179 : decode cX11_sound 179 = .ok (.istore_n 1, 1) := by decide +kernel
theorem dX11_sound_180 : decode cX11_sound 180 = .ok (.iinc 2 1, 3) := by decide +kernel
theorem dX11_sound_183 : decode cX11_sound 183 = .ok (.goto (-123), 3) := by decide +kernel
theorem dX11_sound_186 : decode cX11_sound 186 = .ok (.iconst 0, 1) := by decide +kernel
theorem dX11_sound_187 : decode cX11_sound 187 = .ok (.istore_n 2, 1) := by decide +kernel
theorem dX11_sound_188 : decode cX11_sound 188 = .ok (.iload_n 2, 1) := by decide +kernel
theorem dX11_sound_189 : decode cX11_sound 189 = .ok (.sipush 256, 3) := by decide +kernel
theorem dX11_sound_192 : decode cX11_sound 192 = .ok (.if_icmp .ge 38, 3) := by decide +kernel
theorem dX11_sound_195 : decode cX11_sound 195 = .ok (.iload_n 1, 1) := by decide +kernel
theorem dX11_sound_196 : decode cX11_sound 196 = .ok (.ifCond .eq 26, 3) := by decide +kernel
theorem dX11_sound_199 : decode cX11_sound 199 = .ok (.aload_n 0, 1) := by decide +kernel
theorem dX11_sound_200 : decode cX11_sound 200 = .ok (.getfield 7, 3) := by decide +kernel
theorem dX11_sound_203 : decode cX11_sound 203 = .ok (.sipush 606, 3) := by decide +kernel
theorem dX11_sound_206 : decode cX11_sound 206 = .ok (.iload_n 2, 1) := by decide +kernel
theorem dX11_sound_207 : decode cX11_sound 207 = .ok (.iadd, 1) := by decide +kernel
theorem dX11_sound_208 : decode cX11_sound 208 = .ok (.iaload, 1) := by decide +kernel
theorem dX11_sound_209 : decode cX11_sound 209 = .ok (.iconst 0, 1) := by decide +kernel
theorem dX11_sound_210 : decode cX11_sound 210 = .ok (.bipush 15, 2) := by decide +kernel
theorem dX11_sound_212 : decode cX11_sound 212 = .ok (.invokestatic 59, 3) := by decide +kernel
theorem dX11_sound_215 : decode cX11_sound 215 = .ok (.ifCond .eq 7, 3) := by decide +kernel
theorem dX11_sound_218 : decode cX11_sound 218 = .ok (.iconst 1, 1) := by decide +kernel
theorem dX11_sound_219 : decode cX11_sound 219 = .ok (.goto 4, 3) := by decide +kernel
theorem dX11_sound_222 : decode cX11_sound 222 = .ok (.iconst 0, 1) := by decide +kernel
theorem dX11_sound_223 : decode cX11_sound 223 = .ok (.istore_n 1, 1) := by decide +kernel
theorem dX11_sound_224 : decode cX11_sound 224 = .ok (.iinc 2 1, 3) := by decide +kernel
theorem dX11_sound_227 : decode cX11_sound 227 = .ok (.goto (-39), 3) := by decide +kernel
theorem dX11_sound_230 : decode cX11_sound 230 = .ok (.iload_n 1, 1) := by decide +kernel
theorem dX11_sound_231 : decode cX11_sound 231 = .ok (.ifCond .eq 7, 3) := by decide +kernel
theorem dX11_sound_234 : decode cX11_sound 234 = .ok (.iconst 1, 1) := by decide +kernel
theorem dX11_sound_235 : decode cX11_sound 235 = .ok (.goto 4, 3) := by decide +kernel
theorem dX11_sound_238 : decode cX11_sound 238 = .ok (.iconst 0, 1) := by decide +kernel
theorem dX11_sound_239 : decode cX11_sound 239 = .ok (.ireturn, 1) := by decide +kernel
