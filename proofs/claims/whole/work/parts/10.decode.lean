theorem dX9_init_0 : decode cX9_init 0 = .ok (.aload_n 0, 1) := by decide +kernel
theorem dX9_init_1 : decode cX9_init 1 = .ok (.invokespecial 1, 3) := by decide +kernel
theorem dX9_init_4 : decode cX9_init 4 = .ok (.aload_n 0, 1) := by decide +kernel
theorem dX9_init_5 : decode cX9_init 5 = .ok (.bipush 30, 2) := by decide +kernel
theorem dX9_init_7 : decode cX9_init 7 = .ok (.newarray .int, 2) := by decide +kernel
theorem dX9_init_9 : decode cX9_init 9 = .ok (.putfield 7, 3) := by decide +kernel
theorem dX9_init_12 : decode cX9_init 12 = .ok (.aload_n 0, 1) := by decide +kernel
theorem dX9_init_13 : decode cX9_init 13 = .ok (.bipush 30, 2) := by decide +kernel
theorem dX9_init_15 : decode cX9_init 15 = .ok (.newarray .int, 2) := by decide +kernel
theorem dX9_init_17 : decode cX9_init 17 = .ok (.putfield 13, 3) := by decide +kernel
theorem dX9_init_20 : decode cX9_init 20 = .ok (.aload_n 0, 1) := by decide +kernel
theorem dX9_init_21 : decode cX9_init 21 = .ok (.bipush 62, 2) := by decide +kernel
theorem dX9_init_23 : decode cX9_init 23 = .ok (.newarray .int, 2) := by decide +kernel
theorem dX9_init_25 : decode cX9_init 25 = .ok (.putfield 16, 3) := by decide +kernel
theorem dX9_init_28 : decode cX9_init 28 = .ok (.aload_n 0, 1) := by decide +kernel
theorem dX9_init_29 : decode cX9_init 29 = .ok (.bipush 32, 2) := by decide +kernel
theorem dX9_init_31 : decode cX9_init 31 = .ok (.newarray .boolean, 2) := by decide +kernel
theorem dX9_init_33 : decode cX9_init 33 = .ok (.putfield 19, 3) := by decide +kernel
theorem dX9_init_36 : decode cX9_init 36 = .ok (.aload_n 0, 1) := by decide +kernel
theorem dX9_init_37 : decode cX9_init 37 = .ok (.bipush 32, 2) := by decide +kernel
theorem dX9_init_39 : decode cX9_init 39 = .ok (.newarray .int, 2) := by decide +kernel
theorem dX9_init_41 : decode cX9_init 41 = .ok (.putfield 23, 3) := by decide +kernel
theorem dX9_init_44 : decode cX9_init 44 = .ok (.aload_n 0, 1) := by decide +kernel
theorem dX9_init_45 : decode cX9_init 45 = .ok (.bipush 32, 2) := by decide +kernel
theorem dX9_init_47 : decode cX9_init 47 = .ok (.newarray .int, 2) := by decide +kernel
theorem dX9_init_49 : decode cX9_init 49 = .ok (.putfield 26, 3) := by decide +kernel
theorem dX9_init_52 : decode cX9_init 52 = .ok (.aload_n 0, 1) := by decide +kernel
theorem dX9_init_53 : decode cX9_init 53 = .ok (.sipush 360, 3) := by decide +kernel
theorem dX9_init_56 : decode cX9_init 56 = .ok (.newarray .int, 2) := by decide +kernel
theorem dX9_init_58 : decode cX9_init 58 = .ok (.putfield 29, 3) := by decide +kernel
theorem dX9_init_61 : decode cX9_init 61 = .ok (.aload_n 0, 1) := by decide +kernel
theorem dX9_init_62 : decode cX9_init 62 = .ok (.bipush 12, 2) := by decide +kernel
theorem dX9_init_64 : decode cX9_init 64 = .ok (.newarray .int, 2) := by decide +kernel
theorem dX9_init_66 : decode cX9_init 66 = .ok (.putfield 32, 3) := by decide +kernel
theorem dX9_init_69 : decode cX9_init 69 = .ok (.aload_n 0, 1) := by decide +kernel
theorem dX9_init_70 : decode cX9_init 70 = .ok (.bipush 12, 2) := by decide +kernel
theorem dX9_init_72 : decode cX9_init 72 = .ok (.newarray .int, 2) := by decide +kernel
theorem dX9_init_74 : decode cX9_init 74 = .ok (.putfield 35, 3) := by decide +kernel
theorem dX9_init_77 : decode cX9_init 77 = .ok (.aload_n 0, 1) := by decide +kernel
theorem dX9_init_78 : decode cX9_init 78 = .ok (.bipush 12, 2) := by decide +kernel
theorem dX9_init_80 : decode cX9_init 80 = .ok (.newarray .int, 2) := by decide +kernel
theorem dX9_init_82 : decode cX9_init 82 = .ok (.putfield 38, 3) := by decide +kernel
theorem dX9_init_85 : decode cX9_init 85 = .ok (.aload_n 0, 1) := by decide +kernel
theorem dX9_init_86 : decode cX9_init 86 = .ok (.bipush 12, 2) := by decide +kernel
theorem dX9_init_88 : decode cX9_init 88 = .ok (.newarray .int, 2) := by decide +kernel
theorem dX9_init_90 : decode cX9_init 90 = .ok (.putfield 41, 3) := by decide +kernel
theorem dX9_init_93 : decode cX9_init 93 = .ok (.aload_n 0, 1) := by decide +kernel
theorem dX9_init_94 : decode cX9_init 94 = .ok (.bipush 12, 2) := by decide +kernel
theorem dX9_init_96 : decode cX9_init 96 = .ok (.newarray .int, 2) := by decide +kernel
theorem dX9_init_98 : decode cX9_init 98 = .ok (.putfield 44, 3) := by decide +kernel
theorem dX9_init_101 : decode cX9_init 101 = .ok (.aload_n 0, 1) := by decide +kernel
theorem dX9_init_102 : decode cX9_init 102 = .ok (.bipush 12, 2) := by decide +kernel
theorem dX9_init_104 : decode cX9_init 104 = .ok (.newarray .boolean, 2) := by decide +kernel
theorem dX9_init_106 : decode cX9_init 106 = .ok (.putfield 47, 3) := by decide +kernel
theorem dX9_init_109 : decode cX9_init 109 = .ok (.aload_n 0, 1) := by decide +kernel
theorem dX9_init_110 : decode cX9_init 110 = .ok (.bipush 12, 2) := by decide +kernel
theorem dX9_init_112 : decode cX9_init 112 = .ok (.newarray .int, 2) := by decide +kernel
theorem dX9_init_114 : decode cX9_init 114 = .ok (.putfield 50, 3) := by decide +kernel
theorem dX9_init_117 : decode cX9_init 117 = .ok (.aload_n 0, 1) := by decide +kernel
theorem dX9_init_118 : decode cX9_init 118 = .ok (.iconst 5, 1) := by decide +kernel
theorem dX9_init_119 : decode cX9_init 119 = .ok (.newarray .int, 2) := by decide +kernel
theorem dX9_init_121 : decode cX9_init 121 = .ok (.putfield 53, 3) := by decide +kernel
theorem dX9_init_124 : decode cX9_init 124 = .ok (.aload_n 0, 1) := by decide +kernel
theorem dX9_init_125 : decode cX9_init 125 = .ok (.iconst 5, 1) := by decide +kernel
theorem dX9_init_126 : decode cX9_init 126 = .ok (.newarray .int, 2) := by decide +kernel
theorem dX9_init_128 : decode cX9_init 128 = .ok (.putfield 56, 3) := by decide +kernel
theorem dX9_init_131 : decode cX9_init 131 = .ok (.aload_n 0, 1) := by decide +kernel
theorem dX9_init_132 : decode cX9_init 132 = .ok (.iconst 5, 1) := by decide +kernel
theorem dX9_init_133 : decode cX9_init 133 = .ok (.newarray .int, 2) := by decide +kernel
theorem dX9_init_135 : decode cX9_init 135 = .ok (.putfield 59, 3) := by decide +kernel
theorem dX9_init_138 : decode cX9_init 138 = .ok (.aload_n 0, 1) := by decide +kernel
theorem dX9_init_139 : decode cX9_init 139 = .ok (.iconst 5, 1) := by decide +kernel
theorem dX9_init_140 : decode cX9_init 140 = .ok (.newarray .int, 2) := by decide +kernel
theorem dX9_init_142 : decode cX9_init 142 = .ok (.putfield 62, 3) := by decide +kernel
theorem dX9_init_145 : decode cX9_init 145 = .ok (.aload_n 0, 1) := by decide +kernel
theorem dX9_init_146 : decode cX9_init 146 = .ok (.iconst 5, 1) := by decide +kernel
theorem dX9_init_147 : decode cX9_init 147 = .ok (.newarray .int, 2) := by decide +kernel
theorem dX9_init_149 : decode cX9_init 149 = .ok (.putfield 65, 3) := by decide +kernel
theorem dX9_init_152 : decode cX9_init 152 = .ok (.aload_n 0, 1) := by decide +kernel
theorem dX9_init_153 : decode cX9_init 153 = .ok (.iconst 5, 1) := by decide +kernel
theorem dX9_init_154 : decode cX9_init 154 = .ok (.newarray .int, 2) := by decide +kernel
theorem dX9_init_156 : decode cX9_init 156 = .ok (.putfield 68, 3) := by decide +kernel
theorem dX9_init_159 : decode cX9_init 159 = .ok (.aload_n 0, 1) := by decide +kernel
theorem dX9_init_160 : decode cX9_init 160 = .ok (.bipush 12, 2) := by decide +kernel
theorem dX9_init_162 : decode cX9_init 162 = .ok (.newarray .int, 2) := by decide +kernel
theorem dX9_init_164 : decode cX9_init 164 = .ok (.putfield 71, 3) := by decide +kernel
theorem dX9_init_167 : decode cX9_init 167 = .ok (.aload_n 0, 1) := by decide +kernel
theorem dX9_init_168 : decode cX9_init 168 = .ok (.bipush 12, 2) := by decide +kernel
theorem dX9_init_170 : decode cX9_init 170 = .ok (.newarray .boolean, 2) := by decide +kernel
theorem dX9_init_172 : decode cX9_init 172 = .ok (.putfield 74, 3) := by decide +kernel
theorem dX9_init_175 : decode cX9_init 175 = .ok (.aload_n 0, 1) := by decide +kernel
theorem dX9_init_176 : decode cX9_init 176 = .ok (.iconst 5, 1) := by decide +kernel
theorem dX9_init_177 : decode cX9_init 177 = .ok (.newarray .int, 2) := by decide +kernel
theorem dX9_init_179 : decode cX9_init 179 = .ok (.putfield 77, 3) := by decide +kernel
theorem dX9_init_182 : decode cX9_init 182 = .ok (.aload_n 0, 1) := by decide +kernel
theorem dX9_init_183 : decode cX9_init 183 = .ok (.iconst 5, 1) := by decide +kernel
theorem dX9_init_184 : decode cX9_init 184 = .ok (.newarray .int, 2) := by decide +kernel
theorem dX9_init_186 : decode cX9_init 186 = .ok (.putfield 80, 3) := by decide +kernel
theorem dX9_init_189 : decode cX9_init 189 = .ok (.aload_n 0, 1) := by decide +kernel
theorem dX9_init_190 : decode cX9_init 190 = .ok (.iconst 5, 1) := by decide +kernel
theorem dX9_init_191 : decode cX9_init 191 = .ok (.newarray .int, 2) := by decide +kernel
theorem dX9_init_193 : decode cX9_init 193 = .ok (.putfield 83, 3) := by decide +kernel
theorem dX9_init_196 : decode cX9_init 196 = .ok (.aload_n 0, 1) := by decide +kernel
theorem dX9_init_197 : decode cX9_init 197 = .ok (.iconst 5, 1) := by decide +kernel
theorem dX9_init_198 : decode cX9_init 198 = .ok (.newarray .int, 2) := by decide +kernel
theorem dX9_init_200 : decode cX9_init 200 = .ok (.putfield 86, 3) := by decide +kernel
theorem dX9_init_203 : decode cX9_init 203 = .ok (.aload_n 0, 1) := by decide +kernel
theorem dX9_init_204 : decode cX9_init 204 = .ok (.iconst 5, 1) := by decide +kernel
theorem dX9_init_205 : decode cX9_init 205 = .ok (.newarray .int, 2) := by decide +kernel
theorem dX9_init_207 : decode cX9_init 207 = .ok (.putfield 89, 3) := by decide +kernel
theorem dX9_init_210 : decode cX9_init 210 = .ok (.aload_n 0, 1) := by decide +kernel
theorem dX9_init_211 : decode cX9_init 211 = .ok (.iconst 5, 1) := by decide +kernel
theorem dX9_init_212 : decode cX9_init 212 = .ok (.newarray .int, 2) := by decide +kernel
theorem dX9_init_214 : decode cX9_init 214 = .ok (.putfield 92, 3) := by decide +kernel
theorem dX9_init_217 : decode cX9_init 217 = .ok (.aload_n 0, 1) := by decide +kernel
theorem dX9_init_218 : decode cX9_init 218 = .ok (.iconst 5, 1) := by decide +kernel
theorem dX9_init_219 : decode cX9_init 219 = .ok (.newarray .int, 2) := by decide +kernel
theorem dX9_init_221 : decode cX9_init 221 = .ok (.putfield 95, 3) := by decide +kernel
theorem dX9_init_224 : decode cX9_init 224 = .ok (.aload_n 0, 1) := by decide +kernel
theorem dX9_init_225 : decode cX9_init 225 = .ok (.iconst 5, 1) := by decide +kernel
theorem dX9_init_226 : decode cX9_init 226 = .ok (.newarray .int, 2) := by decide +kernel
theorem dX9_init_228 : decode cX9_init 228 = .ok (.putfield 98, 3) := by decide +kernel
theorem dX9_init_231 : decode cX9_init 231 = .ok (.aload_n 0, 1) := by decide +kernel
theorem dX9_init_232 : decode cX9_init 232 = .ok (.bipush 40, 2) := by decide +kernel
theorem dX9_init_234 : decode cX9_init 234 = .ok (.newarray .int, 2) := by decide +kernel
theorem dX9_init_236 : decode cX9_init 236 = .ok (.putfield 101, 3) := by decide +kernel
theorem dX9_init_239 : decode cX9_init 239 = .ok (.aload_n 0, 1) := by decide +kernel
theorem dX9_init_240 : decode cX9_init 240 = .ok (.bipush 40, 2) := by decide +kernel
theorem dX9_init_242 : decode cX9_init 242 = .ok (.newarray .int, 2) := by decide +kernel
theorem dX9_init_244 : decode cX9_init 244 = .ok (.putfield 104, 3) := by decide +kernel
theorem dX9_init_247 : decode cX9_init 247 = .ok (.aload_n 0, 1) := by decide +kernel
theorem dX9_init_248 : decode cX9_init 248 = .ok (.bipush 40, 2) := by decide +kernel
theorem dX9_init_250 : decode cX9_init 250 = .ok (.newarray .int, 2) := by decide +kernel
theorem dX9_init_252 : decode cX9_init 252 = .ok (.putfield 107, 3) := by decide +kernel
theorem dX9_init_255 : decode cX9_init 255 = .ok (.aload_n 0, 1) := by decide +kernel
theorem dX9_init_256 : decode cX9_init 256 = .ok (.bipush 40, 2) := by decide +kernel
theorem dX9_init_258 : decode cX9_init 258 = .ok (.newarray .int, 2) := by decide +kernel
theorem dX9_init_260 : decode cX9_init 260 = .ok (.putfield 110, 3) := by decide +kernel
theorem dX9_init_263 : decode cX9_init 263 = .ok (.aload_n 0, 1) := by decide +kernel
theorem dX9_init_264 : decode cX9_init 264 = .ok (.bipush 40, 2) := by decide +kernel
theorem dX9_init_266 : decode cX9_init 266 = .ok (.newarray .int, 2) := by decide +kernel
theorem dX9_init_268 : decode cX9_init 268 = .ok (.putfield 113, 3) := by decide +kernel
theorem dX9_init_271 : decode cX9_init 271 = .ok (.aload_n 0, 1) := by decide +kernel
theorem dX9_init_272 : decode cX9_init 272 = .ok (.sipush 1200, 3) := by decide +kernel
theorem dX9_init_275 : decode cX9_init 275 = .ok (.newarray .int, 2) := by decide +kernel
theorem dX9_init_277 : decode cX9_init 277 = .ok (.putfield 116, 3) := by decide +kernel
theorem dX9_init_280 : decode cX9_init 280 = .ok (.aload_n 0, 1) := by decide +kernel
theorem dX9_init_281 : decode cX9_init 281 = .ok (.bipush 40, 2) := by decide +kernel
theorem dX9_init_283 : decode cX9_init 283 = .ok (.newarray .int, 2) := by decide +kernel
theorem dX9_init_285 : decode cX9_init 285 = .ok (.putfield 119, 3) := by decide +kernel
theorem dX9_init_288 : decode cX9_init 288 = .ok (.aload_n 0, 1) := by decide +kernel
theorem dX9_init_289 : decode cX9_init 289 = .ok (.bipush 32, 2) := by decide +kernel
theorem dX9_init_291 : decode cX9_init 291 = .ok (.newarray .long, 2) := by decide +kernel
theorem dX9_init_293 : decode cX9_init 293 = .ok (.putfield 122, 3) := by decide +kernel
theorem dX9_init_296 : decode cX9_init 296 = .ok (.aload_n 0, 1) := by decide +kernel
theorem dX9_init_297 : decode cX9_init 297 = .ok (.invokevirtual 126, 3) := by decide +kernel
theorem dX9_init_300 : decode cX9_init 300 = .ok (.return_, 1) := by decide +kernel
theorem dX9_thrown_0 : decode cX9_thrown 0 = .ok (.aload_n 0, 1) := by decide +kernel
theorem dX9_thrown_1 : decode cX9_thrown 1 = .ok (.getfield 129, 3) := by decide +kernel
theorem dX9_thrown_4 : decode cX9_thrown 4 = .ok (.ireturn, 1) := by decide +kernel
theorem dX9_goes_0 : decode cX9_goes 0 = .ok (.aload_n 0, 1) := by decide +kernel
theorem dX9_goes_1 : decode cX9_goes 1 = .ok (.iload_n 1, 1) := by decide +kernel
theorem dX9_goes_2 : decode cX9_goes 2 = .ok (.ifCond .ne 7, 3) := by decide +kernel
theorem dX9_goes_5 : decode cX9_goes 5 = .ok (.iconst 1, 1) := by decide +kernel
theorem dX9_goes_6 : decode cX9_goes 6 = .ok (.goto 20, 3) := by decide +kernel
theorem dX9_goes_9 : decode cX9_goes 9 = .ok (.iload_n 2, 1) := by decide +kernel
theorem dX9_goes_10 : decode cX9_goes 10 = .ok (.ifCond .ne 7, 3) := by decide +kernel
theorem dX9_goes_13 : decode cX9_goes 13 = .ok (.iconst 2, 1) := by decide +kernel
theorem dX9_goes_14 : decode cX9_goes 14 = .ok (.goto 12, 3) := by decide +kernel
theorem dX9_goes_17 : decode cX9_goes 17 = .ok (.iload_n 3, 1) := by decide +kernel
theorem dX9_goes_18 : decode cX9_goes 18 = .ok (.ifCond .ne 7, 3) := by decide +kernel
theorem dX9_goes_21 : decode cX9_goes 21 = .ok (.iconst 3, 1) := by decide +kernel
theorem dX9_goes_22 : decode cX9_goes 22 = .ok (.goto 4, 3) := by decide +kernel
theorem dX9_goes_25 : decode cX9_goes 25 = .ok (.iconst 0, 1) := by decide +kernel
theorem dX9_goes_26 : decode cX9_goes 26 = .ok (.putfield 129, 3) := by decide +kernel
theorem dX9_goes_29 : decode cX9_goes 29 = .ok (.aload_n 0, 1) := by decide +kernel
theorem dX9_goes_30 : decode cX9_goes 30 = .ok (.getfield 129, 3) := by decide +kernel
theorem dX9_goes_33 : decode cX9_goes 33 = .ok (.ifCond .ne 7, 3) := by decide +kernel
theorem dX9_goes_36 : decode cX9_goes 36 = .ok (.iconst 1, 1) := by decide +kernel
theorem dX9_goes_37 : decode cX9_goes 37 = .ok (.goto 4, 3) := by decide +kernel
theorem dX9_goes_40 : decode cX9_goes 40 = .ok (.iconst 0, 1) := by decide +kernel
theorem dX9_goes_41 : decode cX9_goes 41 = .ok (.ireturn, 1) := by decide +kernel
theorem dX9_isIn_0 : decode cX9_isIn 0 = .ok (.iload_n 0, 1) := by decide +kernel
theorem dX9_isIn_1 : decode cX9_isIn 1 = .ok (.ifCond .lt 12, 3) := by decide +kernel
theorem dX9_isIn_4 : decode cX9_isIn 4 = .ok (.iload_n 0, 1) := by decide +kernel
theorem dX9_isIn_5 : decode cX9_isIn 5 = .ok (.iload_n 1, 1) := by decide +kernel
theorem dX9_isIn_6 : decode cX9_isIn 6 = .ok (.if_icmp .ge 7, 3) := by decide +kernel
theorem dX9_isIn_9 : decode cX9_isIn 9 = .ok (.iconst 1, 1) := by decide +kernel
theorem dX9_isIn_10 : decode cX9_isIn 10 = .ok (.goto 4, 3) := by decide +kernel
theorem dX9_isIn_13 : decode cX9_isIn 13 = .ok (.iconst 0, 1) := by decide +kernel
theorem dX9_isIn_14 : decode cX9_isIn 14 = .ok (.ireturn, 1) := by decide +kernel
theorem dX9_isWithin_0 : decode cX9_isWithin 0 = .ok (.iload_n 0, 1) := by decide +kernel
theorem dX9_isWithin_1 : decode cX9_isWithin 1 = .ok (.iload_n 1, 1) := by decide +kernel
theorem dX9_isWithin_2 : decode cX9_isWithin 2 = .ok (.if_icmp .lt 12, 3) := by decide +kernel
theorem dX9_isWithin_5 : decode cX9_isWithin 5 = .ok (.iload_n 0, 1) := by decide +kernel
theorem dX9_isWithin_6 : decode cX9_isWithin 6 = .ok (.iload_n 2, 1) := by decide +kernel
theorem dX9_isWithin_7 : decode cX9_isWithin 7 = .ok (.if_icmp .gt 7, 3) := by decide +kernel
theorem dX9_isWithin_10 : decode cX9_isWithin 10 = .ok (.iconst 1, 1) := by decide +kernel
theorem dX9_isWithin_11 : decode cX9_isWithin 11 = .ok (.goto 4, 3) := by decide +kernel
theorem dX9_isWithin_14 : decode cX9_isWithin 14 = .ok (.iconst 0, 1) := by decide +kernel
theorem dX9_isWithin_15 : decode cX9_isWithin 15 = .ok (.ireturn, 1) := by decide +kernel
theorem dX9_has_0 : decode cX9_has 0 = .ok (.iload_n 0, 1) := by decide +kernel
theorem dX9_has_1 : decode cX9_has 1 = .ok (.iload_n 1, 1) := by decide +kernel
theorem dX9_has_2 : decode cX9_has 2 = .ok (.ishr, 1) := by decide +kernel
theorem dX9_has_3 : decode cX9_has 3 = .ok (.iconst 1, 1) := by decide +kernel
theorem dX9_has_4 : decode cX9_has 4 = .ok (.iand, 1) := by decide +kernel
theorem dX9_has_5 : decode cX9_has 5 = .ok (.iconst 1, 1) := by decide +kernel
theorem dX9_has_6 : decode cX9_has 6 = .ok (.if_icmp .ne 7, 3) := by decide +kernel
theorem dX9_has_9 : decode cX9_has 9 = .ok (.iconst 1, 1) := by decide +kernel
theorem dX9_has_10 : decode cX9_has 10 = .ok (.goto 4, 3) := by decide +kernel
theorem dX9_has_13 : decode cX9_has 13 = .ok (.iconst 0, 1) := by decide +kernel
theorem dX9_has_14 : decode cX9_has 14 = .ok (.ireturn, 1) := by decide +kernel
theorem dX9_isFigure_0 : decode cX9_isFigure 0 = .ok (.iload_n 0, 1) := by decide +kernel
theorem dX9_isFigure_1 : decode cX9_isFigure 1 = .ok (.bipush 48, 2) := by decide +kernel
theorem dX9_isFigure_3 : decode cX9_isFigure 3 = .ok (.if_icmp .lt 13, 3) := by decide +kernel
theorem dX9_isFigure_6 : decode cX9_isFigure 6 = .ok (.iload_n 0, 1) := by decide +kernel
theorem dX9_isFigure_7 : decode cX9_isFigure 7 = .ok (.bipush 57, 2) := by decide +kernel
theorem dX9_isFigure_9 : decode cX9_isFigure 9 = .ok (.if_icmp .gt 7, 3) := by decide +kernel
theorem dX9_isFigure_12 : decode cX9_isFigure 12 = .ok (.iconst 1, 1) := by decide +kernel
theorem dX9_isFigure_13 : decode cX9_isFigure 13 = .ok (.goto 4, 3) := by decide +kernel
theorem dX9_isFigure_16 : decode cX9_isFigure 16 = .ok (.iconst 0, 1) := by decide +kernel
theorem dX9_isFigure_17 : decode cX9_isFigure 17 = .ok (.ireturn, 1) := by decide +kernel
theorem dX9_isFunction_0 : decode cX9_isFunction 0 = .ok (.iload_n 0, 1) := by decide +kernel
theorem dX9_isFunction_1 : decode cX9_isFunction 1 = .ok (.bipush 109, 2) := by decide +kernel
theorem dX9_isFunction_3 : decode cX9_isFunction 3 = .ok (.if_icmp .eq 15, 3) := by decide +kernel
theorem dX9_isFunction_6 : decode cX9_isFunction 6 = .ok (.iload_n 0, 1) := by decide +kernel
theorem dX9_isFunction_7 : decode cX9_isFunction 7 = .ok (.bipush 110, 2) := by decide +kernel
theorem dX9_isFunction_9 : decode cX9_isFunction 9 = .ok (.if_icmp .eq 9, 3) := by decide +kernel
theorem dX9_isFunction_12 : decode cX9_isFunction 12 = .ok (.iload_n 0, 1) := by decide +kernel
theorem dX9_isFunction_13 : decode cX9_isFunction 13 = .ok (.bipush 105, 2) := by decide +kernel
theorem dX9_isFunction_15 : decode cX9_isFunction 15 = .ok (.if_icmp .ne 7, 3) := by decide +kernel
theorem dX9_isFunction_18 : decode cX9_isFunction 18 = .ok (.iconst 1, 1) := by decide +kernel
theorem dX9_isFunction_19 : decode cX9_isFunction 19 = .ok (.goto 4, 3) := by decide +kernel
theorem dX9_isFunction_22 : decode cX9_isFunction 22 = .ok (.iconst 0, 1) := by decide +kernel
theorem dX9_isFunction_23 : decode cX9_isFunction 23 = .ok (.ireturn, 1) := by decide +kernel
theorem dX9_isName_0 : decode cX9_isName 0 = .ok (.iload_n 0, 1) := by decide +kernel
theorem dX9_isName_1 : decode cX9_isName 1 = .ok (.bipush 99, 2) := by decide +kernel
theorem dX9_isName_3 : decode cX9_isName 3 = .ok (.if_icmp .eq 15, 3) := by decide +kernel
theorem dX9_isName_6 : decode cX9_isName 6 = .ok (.iload_n 0, 1) := by decide +kernel
theorem dX9_isName_7 : decode cX9_isName 7 = .ok (.bipush 114, 2) := by decide +kernel
theorem dX9_isName_9 : decode cX9_isName 9 = .ok (.if_icmp .eq 9, 3) := by decide +kernel
theorem dX9_isName_12 : decode cX9_isName 12 = .ok (.iload_n 0, 1) := by decide +kernel
theorem dX9_isName_13 : decode cX9_isName 13 = .ok (.bipush 108, 2) := by decide +kernel
theorem dX9_isName_15 : decode cX9_isName 15 = .ok (.if_icmp .ne 7, 3) := by decide +kernel
theorem dX9_isName_18 : decode cX9_isName 18 = .ok (.iconst 1, 1) := by decide +kernel
theorem dX9_isName_19 : decode cX9_isName 19 = .ok (.goto 4, 3) := by decide +kernel
theorem dX9_isName_22 : decode cX9_isName 22 = .ok (.iconst 0, 1) := by decide +kernel
theorem dX9_isName_23 : decode cX9_isName 23 = .ok (.ireturn, 1) := by decide +kernel
theorem dX9_deedOf_0 : decode cX9_deedOf 0 = .ok (.iload_n 0, 1) := by decide +kernel
theorem dX9_deedOf_1 : decode cX9_deedOf 1 = .ok (.bipush 43, 2) := by decide +kernel
theorem dX9_deedOf_3 : decode cX9_deedOf 3 = .ok (.if_icmp .ne 7, 3) := by decide +kernel
theorem dX9_deedOf_6 : decode cX9_deedOf 6 = .ok (.iconst 2, 1) := by decide +kernel
theorem dX9_deedOf_7 : decode cX9_deedOf 7 = .ok (.goto 56, 3) := by decide +kernel
theorem dX9_deedOf_10 : decode cX9_deedOf 10 = .ok (.iload_n 0, 1) := by decide +kernel
theorem dX9_deedOf_11 : decode cX9_deedOf 11 = .ok (.bipush 45, 2) := by decide +kernel
theorem dX9_deedOf_13 : decode cX9_deedOf 13 = .ok (.if_icmp .ne 7, 3) := by decide +kernel
theorem dX9_deedOf_16 : decode cX9_deedOf 16 = .ok (.iconst 3, 1) := by decide +kernel
theorem dX9_deedOf_17 : decode cX9_deedOf 17 = .ok (.goto 46, 3) := by decide +kernel
theorem dX9_deedOf_20 : decode cX9_deedOf 20 = .ok (.iload_n 0, 1) := by decide +kernel
theorem dX9_deedOf_21 : decode cX9_deedOf 21 = .ok (.bipush 42, 2) := by decide +kernel
theorem dX9_deedOf_23 : decode cX9_deedOf 23 = .ok (.if_icmp .ne 7, 3) := by decide +kernel
theorem dX9_deedOf_26 : decode cX9_deedOf 26 = .ok (.iconst 4, 1) := by decide +kernel
theorem dX9_deedOf_27 : decode cX9_deedOf 27 = .ok (.goto 36, 3) := by decide +kernel
theorem dX9_deedOf_30 : decode cX9_deedOf 30 = .ok (.iload_n 0, 1) := by decide +kernel
theorem dX9_deedOf_31 : decode cX9_deedOf 31 = .ok (.bipush 60, 2) := by decide +kernel
theorem dX9_deedOf_33 : decode cX9_deedOf 33 = .ok (.if_icmp .ne 7, 3) := by decide +kernel
theorem dX9_deedOf_36 : decode cX9_deedOf 36 = .ok (.iconst 5, 1) := by decide +kernel
theorem dX9_deedOf_37 : decode cX9_deedOf 37 = .ok (.goto 26, 3) := by decide +kernel
theorem dX9_deedOf_40 : decode cX9_deedOf 40 = .ok (.iload_n 0, 1) := by decide +kernel
theorem dX9_deedOf_41 : decode cX9_deedOf 41 = .ok (.bipush 62, 2) := by decide +kernel
theorem dX9_deedOf_43 : decode cX9_deedOf 43 = .ok (.if_icmp .ne 8, 3) := by decide +kernel
theorem dX9_deedOf_46 : decode cX9_deedOf 46 = .ok (.bipush 6, 2) := by decide +kernel
theorem dX9_deedOf_48 : decode cX9_deedOf 48 = .ok (.goto 15, 3) := by decide +kernel
theorem dX9_deedOf_51 : decode cX9_deedOf 51 = .ok (.iload_n 0, 1) := by decide +kernel
theorem dX9_deedOf_52 : decode cX9_deedOf 52 = .ok (.bipush 61, 2) := by decide +kernel
theorem dX9_deedOf_54 : decode cX9_deedOf 54 = .ok (.if_icmp .ne 8, 3) := by decide +kernel
theorem dX9_deedOf_57 : decode cX9_deedOf 57 = .ok (.bipush 7, 2) := by decide +kernel
theorem dX9_deedOf_59 : decode cX9_deedOf 59 = .ok (.goto 4, 3) := by decide +kernel
theorem dX9_deedOf_62 : decode cX9_deedOf 62 = .ok (.iconst 0, 1) := by decide +kernel
theorem dX9_deedOf_63 : decode cX9_deedOf 63 = .ok (.ireturn, 1) := by decide +kernel
theorem dX9_rank_0 : decode cX9_rank 0 = .ok (.iload_n 0, 1) := by decide +kernel
theorem dX9_rank_1 : decode cX9_rank 1 = .ok (.iconst 1, 1) := by decide +kernel
theorem dX9_rank_2 : decode cX9_rank 2 = .ok (.if_icmp .ne 7, 3) := by decide +kernel
theorem dX9_rank_5 : decode cX9_rank 5 = .ok (.iconst 4, 1) := by decide +kernel
theorem dX9_rank_6 : decode cX9_rank 6 = .ok (.goto 37, 3) := by decide +kernel
theorem dX9_rank_9 : decode cX9_rank 9 = .ok (.iload_n 0, 1) := by decide +kernel
theorem dX9_rank_10 : decode cX9_rank 10 = .ok (.iconst 4, 1) := by decide +kernel
theorem dX9_rank_11 : decode cX9_rank 11 = .ok (.if_icmp .ne 7, 3) := by decide +kernel
theorem dX9_rank_14 : decode cX9_rank 14 = .ok (.iconst 3, 1) := by decide +kernel
theorem dX9_rank_15 : decode cX9_rank 15 = .ok (.goto 28, 3) := by decide +kernel
theorem dX9_rank_18 : decode cX9_rank 18 = .ok (.iload_n 0, 1) := by decide +kernel
theorem dX9_rank_19 : decode cX9_rank 19 = .ok (.iconst 2, 1) := by decide +kernel
theorem dX9_rank_20 : decode cX9_rank 20 = .ok (.if_icmp .eq 8, 3) := by decide +kernel
theorem dX9_rank_23 : decode cX9_rank 23 = .ok (.iload_n 0, 1) := by decide +kernel
theorem dX9_rank_24 : decode cX9_rank 24 = .ok (.iconst 3, 1) := by decide +kernel
theorem dX9_rank_25 : decode cX9_rank 25 = .ok (.if_icmp .ne 7, 3) := by decide +kernel
theorem dX9_rank_28 : decode cX9_rank 28 = .ok (.iconst 2, 1) := by decide +kernel
theorem dX9_rank_29 : decode cX9_rank 29 = .ok (.goto 14, 3) := by decide +kernel
theorem dX9_rank_32 : decode cX9_rank 32 = .ok (.iload_n 0, 1) := by decide +kernel
theorem dX9_rank_33 : decode cX9_rank 33 = .ok (.bipush 11, 2) := by decide +kernel
theorem dX9_rank_35 : decode cX9_rank 35 = .ok (.if_icmp .ne 7, 3) := by decide +kernel
theorem dX9_rank_38 : decode cX9_rank 38 = .ok (.iconst 0, 1) := by decide +kernel
theorem dX9_rank_39 : decode cX9_rank 39 = .ok (.goto 4, 3) := by decide +kernel
theorem dX9_rank_42 : decode cX9_rank 42 = .ok (.iconst 1, 1) := by decide +kernel
theorem dX9_rank_43 : decode cX9_rank 43 = .ok (.ireturn, 1) := by decide +kernel
theorem dX9_type_0 : decode cX9_type 0 = .ok (.iload_n 1, 1) := by decide +kernel
theorem dX9_type_1 : decode cX9_type 1 = .ok (.invokestatic 133, 3) := by decide +kernel
theorem dX9_type_4 : decode cX9_type 4 = .ok (.ifCond .ne 42, 3) := by decide +kernel
theorem dX9_type_7 : decode cX9_type 7 = .ok (.iload_n 1, 1) := by decide +kernel
theorem dX9_type_8 : decode cX9_type 8 = .ok (.invokestatic 137, 3) := by decide +kernel
theorem dX9_type_11 : decode cX9_type 11 = .ok (.ifCond .ne 35, 3) := by decide +kernel
theorem dX9_type_14 : decode cX9_type 14 = .ok (.iload_n 1, 1) := by decide +kernel
theorem dX9_type_15 : decode cX9_type 15 = .ok (.invokestatic 140, 3) := by decide +kernel
theorem dX9_type_18 : decode cX9_type 18 = .ok (.ifCond .ne 28, 3) := by decide +kernel
theorem dX9_type_21 : decode cX9_type 21 = .ok (.iload_n 1, 1) := by decide +kernel
theorem dX9_type_22 : decode cX9_type 22 = .ok (.invokestatic 143, 3) := by decide +kernel
theorem dX9_type_25 : decode cX9_type 25 = .ok (.ifCond .gt 21, 3) := by decide +kernel
theorem dX9_type_28 : decode cX9_type 28 = .ok (.iload_n 1, 1) := by decide +kernel
theorem dX9_type_29 : decode cX9_type 29 = .ok (.bipush 40, 2) := by decide +kernel
theorem dX9_type_31 : decode cX9_type 31 = .ok (.if_icmp .eq 15, 3) := by decide +kernel
theorem dX9_type_34 : decode cX9_type 34 = .ok (.iload_n 1, 1) := by decide +kernel
theorem dX9_type_35 : decode cX9_type 35 = .ok (.bipush 41, 2) := by decide +kernel
theorem dX9_type_37 : decode cX9_type 37 = .ok (.if_icmp .eq 9, 3) := by decide +kernel
theorem dX9_type_40 : decode cX9_type 40 = .ok (.iload_n 1, 1) := by decide +kernel
theorem dX9_type_41 : decode cX9_type 41 = .ok (.bipush 44, 2) := by decide +kernel
theorem dX9_type_43 : decode cX9_type 43 = .ok (.if_icmp .ne 7, 3) := by decide +kernel
theorem dX9_type_46 : decode cX9_type 46 = .ok (.iconst 1, 1) := by decide +kernel
theorem dX9_type_47 : decode cX9_type 47 = .ok (.goto 4, 3) := by decide +kernel
theorem dX9_type_50 : decode cX9_type 50 = .ok (.iconst 0, 1) := by decide +kernel
theorem dX9_type_51 : decode cX9_type 51 = .ok (.istore_n 2, 1) := by decide +kernel
theorem dX9_type_52 : decode cX9_type 52 = .ok (.aload_n 0, 1) := by decide +kernel
theorem dX9_type_53 : decode cX9_type 53 = .ok (.iload_n 2, 1) := by decide +kernel
theorem dX9_type_54 : decode cX9_type 54 = .ok (.aload_n 0, 1) := by decide +kernel
theorem dX9_type_55 : decode cX9_type 55 = .ok (.getfield 147, 3) := by decide +kernel
theorem dX9_type_58 : decode cX9_type 58 = .ok (.bipush 30, 2) := by decide +kernel
theorem dX9_type_60 : decode cX9_type 60 = .ok (.if_icmp .ge 7, 3) := by decide +kernel
theorem dX9_type_63 : decode cX9_type 63 = .ok (.iconst 1, 1) := by decide +kernel
theorem dX9_type_64 : decode cX9_type 64 = .ok (.goto 4, 3) := by decide +kernel
theorem dX9_type_67 : decode cX9_type 67 = .ok (.iconst 0, 1) := by decide +kernel
theorem dX9_type_68 : decode cX9_type 68 = .ok (.iconst 1, 1) := by decide +kernel
theorem dX9_type_69 : decode cX9_type 69 = .ok (.invokevirtual 150, 3) := by decide +kernel
theorem dX9_type_72 : decode cX9_type 72 = .ok (.ifCond .ne 5, 3) := by decide +kernel
theorem dX9_type_75 : decode cX9_type 75 = .ok (.iconst 0, 1) := by decide +kernel
theorem dX9_type_76 : decode cX9_type 76 = .ok (.ireturn, 1) := by decide +kernel
theorem dX9_type_77 : decode cX9_type 77 = .ok (.aload_n 0, 1) := by decide +kernel
theorem dX9_type_78 : decode cX9_type 78 = .ok (.getfield 7, 3) := by decide +kernel
theorem dX9_type_81 : decode cX9_type 81 = .ok (.aload_n 0, 1) := by decide +kernel
theorem dX9_type_82 : decode cX9_type 82 = .ok (.getfield 147, 3) := by decide +kernel
theorem dX9_type_85 : decode cX9_type 85 = .ok (.iload_n 1, 1) := by decide +kernel
theorem dX9_type_86 : decode cX9_type 86 = .ok (.iastore, 1) := by decide +kernel
theorem dX9_type_87 : decode cX9_type 87 = .ok (.aload_n 0, 1) := by decide +kernel
theorem dX9_type_88 : decode cX9_type 88 = .ok (.dup, 1) := by decide +kernel
theorem dX9_type_89 : decode cX9_type 89 = .ok (.getfield 147, 3) := by decide +kernel
theorem dX9_type_92 : decode cX9_type 92 = .ok (.iconst 1, 1) := by decide +kernel
theorem dX9_type_93 : decode cX9_type 93 = .ok (.iadd, 1) := by decide +kernel
theorem dX9_type_94 : decode cX9_type 94 = .ok (.putfield 147, 3) := by decide +kernel
theorem dX9_type_97 : decode cX9_type 97 = .ok (.aload_n 0, 1) := by decide +kernel
theorem dX9_type_98 : decode cX9_type 98 = .ok (.getfield 147, 3) := by decide +kernel
theorem dX9_type_101 : decode cX9_type 101 = .ok (.ireturn, 1) := by decide +kernel
theorem dX9_wipe_0 : decode cX9_wipe 0 = .ok (.aload_n 0, 1) := by decide +kernel
theorem dX9_wipe_1 : decode cX9_wipe 1 = .ok (.iconst 0, 1) := by decide +kernel
theorem dX9_wipe_2 : decode cX9_wipe 2 = .ok (.putfield 129, 3) := by decide +kernel
theorem dX9_wipe_5 : decode cX9_wipe 5 = .ok (.aload_n 0, 1) := by decide +kernel
theorem dX9_wipe_6 : decode cX9_wipe 6 = .ok (.getfield 147, 3) := by decide +kernel
theorem dX9_wipe_9 : decode cX9_wipe 9 = .ok (.istore_n 1, 1) := by decide +kernel
theorem dX9_wipe_10 : decode cX9_wipe 10 = .ok (.aload_n 0, 1) := by decide +kernel
theorem dX9_wipe_11 : decode cX9_wipe 11 = .ok (.iconst 0, 1) := by decide +kernel
theorem dX9_wipe_12 : decode cX9_wipe 12 = .ok (.putfield 147, 3) := by decide +kernel
theorem dX9_wipe_15 : decode cX9_wipe 15 = .ok (.iload_n 1, 1) := by decide +kernel
theorem dX9_wipe_16 : decode cX9_wipe 16 = .ok (.ireturn, 1) := by decide +kernel
theorem dX9_makes_0 : decode cX9_makes 0 = .ok (.aload_n 0, 1) := by decide +kernel
theorem dX9_makes_1 : decode cX9_makes 1 = .ok (.getfield 13, 3) := by decide +kernel
theorem dX9_makes_4 : decode cX9_makes 4 = .ok (.aload_n 0, 1) := by decide +kernel
theorem dX9_makes_5 : decode cX9_makes 5 = .ok (.getfield 154, 3) := by decide +kernel
theorem dX9_makes_8 : decode cX9_makes 8 = .ok (.iload_n 1, 1) := by decide +kernel
theorem dX9_makes_9 : decode cX9_makes 9 = .ok (.iastore, 1) := by decide +kernel
theorem dX9_makes_10 : decode cX9_makes 10 = .ok (.aload_n 0, 1) := by decide +kernel
theorem dX9_makes_11 : decode cX9_makes 11 = .ok (.dup, 1) := by decide +kernel
theorem dX9_makes_12 : decode cX9_makes 12 = .ok (.getfield 154, 3) := by decide +kernel
theorem dX9_makes_15 : decode cX9_makes 15 = .ok (.iconst 1, 1) := by decide +kernel
theorem dX9_makes_16 : decode cX9_makes 16 = .ok (.iadd, 1) := by decide +kernel
theorem dX9_makes_17 : decode cX9_makes 17 = .ok (.putfield 154, 3) := by decide +kernel
theorem dX9_makes_20 : decode cX9_makes 20 = .ok (.return_, 1) := by decide +kernel
theorem dX9_opensOne_0 : decode cX9_opensOne 0 = .ok (.aload_n 0, 1) := by decide +kernel
theorem dX9_opensOne_1 : decode cX9_opensOne 1 = .ok (.getfield 16, 3) := by decide +kernel
theorem dX9_opensOne_4 : decode cX9_opensOne 4 = .ok (.aload_n 0, 1) := by decide +kernel
theorem dX9_opensOne_5 : decode cX9_opensOne 5 = .ok (.getfield 157, 3) := by decide +kernel
theorem dX9_opensOne_8 : decode cX9_opensOne 8 = .ok (.iload_n 1, 1) := by decide +kernel
theorem dX9_opensOne_9 : decode cX9_opensOne 9 = .ok (.iastore, 1) := by decide +kernel
theorem dX9_opensOne_10 : decode cX9_opensOne 10 = .ok (.aload_n 0, 1) := by decide +kernel
theorem dX9_opensOne_11 : decode cX9_opensOne 11 = .ok (.dup, 1) := by decide +kernel
theorem dX9_opensOne_12 : decode cX9_opensOne 12 = .ok (.getfield 157, 3) := by decide +kernel
theorem dX9_opensOne_15 : decode cX9_opensOne 15 = .ok (.iconst 1, 1) := by decide +kernel
theorem dX9_opensOne_16 : decode cX9_opensOne 16 = .ok (.iadd, 1) := by decide +kernel
theorem dX9_opensOne_17 : decode cX9_opensOne 17 = .ok (.putfield 157, 3) := by decide +kernel
theorem dX9_opensOne_20 : decode cX9_opensOne 20 = .ok (.return_, 1) := by decide +kernel
theorem dX9_closes_0 : decode cX9_closes 0 = .ok (.aload_n 0, 1) := by decide +kernel
theorem dX9_closes_1 : decode cX9_closes 1 = .ok (.getfield 157, 3) := by decide +kernel
theorem dX9_closes_4 : decode cX9_closes 4 = .ok (.ifCond .le 67, 3) := by decide +kernel
theorem dX9_closes_7 : decode cX9_closes 7 = .ok (.aload_n 0, 1) := by decide +kernel
theorem dX9_closes_8 : decode cX9_closes 8 = .ok (.getfield 16, 3) := by decide +kernel
theorem dX9_closes_11 : decode cX9_closes 11 = .ok (.aload_n 0, 1) := by decide +kernel
theorem dX9_closes_12 : decode cX9_closes 12 = .ok (.getfield 157, 3) := by decide +kernel
theorem dX9_closes_15 : decode cX9_closes 15 = .ok (.iconst 1, 1) := by decide +kernel
theorem dX9_closes_16 : decode cX9_closes 16 = .ok (.isub, 1) := by decide +kernel
theorem dX9_closes_17 : decode cX9_closes 17 = .ok (.iaload, 1) := by decide +kernel
theorem dX9_closes_18 : decode cX9_closes 18 = .ok (.bipush 11, 2) := by decide +kernel
theorem dX9_closes_20 : decode cX9_closes 20 = .ok (.if_icmp .eq 51, 3) := by decide +kernel
theorem dX9_closes_23 : decode cX9_closes 23 = .ok (.aload_n 0, 1) := by decide +kernel
theorem dX9_closes_24 : decode cX9_closes 24 = .ok (.getfield 16, 3) := by decide +kernel
theorem dX9_closes_27 : decode cX9_closes 27 = .ok (.aload_n 0, 1) := by decide +kernel
theorem dX9_closes_28 : decode cX9_closes 28 = .ok (.getfield 157, 3) := by decide +kernel
theorem dX9_closes_31 : decode cX9_closes 31 = .ok (.iconst 1, 1) := by decide +kernel
theorem dX9_closes_32 : decode cX9_closes 32 = .ok (.isub, 1) := by decide +kernel
theorem dX9_closes_33 : decode cX9_closes 33 = .ok (.iaload, 1) := by decide +kernel
theorem dX9_closes_34 : decode cX9_closes 34 = .ok (.invokestatic 160, 3) := by decide +kernel
theorem dX9_closes_37 : decode cX9_closes 37 = .ok (.iload_n 1, 1) := by decide +kernel
theorem dX9_closes_38 : decode cX9_closes 38 = .ok (.if_icmp .lt 33, 3) := by decide +kernel
theorem dX9_closes_41 : decode cX9_closes 41 = .ok (.aload_n 0, 1) := by decide +kernel
theorem dX9_closes_42 : decode cX9_closes 42 = .ok (.dup, 1) := by decide +kernel
theorem dX9_closes_43 : decode cX9_closes 43 = .ok (.getfield 157, 3) := by decide +kernel
theorem dX9_closes_46 : decode cX9_closes 46 = .ok (.iconst 1, 1) := by decide +kernel
theorem dX9_closes_47 : decode cX9_closes 47 = .ok (.isub, 1) := by decide +kernel
theorem dX9_closes_48 : decode cX9_closes 48 = .ok (.putfield 157, 3) := by decide +kernel
theorem dX9_closes_51 : decode cX9_closes 51 = .ok (.aload_n 0, 1) := by decide +kernel
theorem dX9_closes_52 : decode cX9_closes 52 = .ok (.sipush 30000, 3) := by decide +kernel
theorem dX9_closes_55 : decode cX9_closes 55 = .ok (.aload_n 0, 1) := by decide +kernel
theorem dX9_closes_56 : decode cX9_closes 56 = .ok (.getfield 16, 3) := by decide +kernel
theorem dX9_closes_59 : decode cX9_closes 59 = .ok (.aload_n 0, 1) := by decide +kernel
theorem dX9_closes_60 : decode cX9_closes 60 = .ok (.getfield 157, 3) := by decide +kernel
theorem dX9_closes_63 : decode cX9_closes 63 = .ok (.iaload, 1) := by decide +kernel
theorem dX9_closes_64 : decode cX9_closes 64 = .ok (.iadd, 1) := by decide +kernel
theorem dX9_closes_65 : decode cX9_closes 65 = .ok (.invokevirtual 163, 3) := by decide +kernel
theorem dX9_closes_68 : decode cX9_closes 68 = .ok (.goto (-68), 3) := by decide +kernel
theorem dX9_closes_71 : decode cX9_closes 71 = .ok (.return_, 1) := by decide +kernel
theorem dX9_takesName_0 : decode cX9_takesName 0 = .ok (.aload_n 0, 1) := by decide +kernel
theorem dX9_takesName_1 : decode cX9_takesName 1 = .ok (.getfield 7, 3) := by decide +kernel
theorem dX9_takesName_4 : decode cX9_takesName 4 = .ok (.iload_n 1, 1) := by decide +kernel
theorem dX9_takesName_5 : decode cX9_takesName 5 = .ok (.iaload, 1) := by decide +kernel
theorem dX9_takesName_6 : decode cX9_takesName 6 = .ok (.istore_n 2, 1) := by decide +kernel
theorem dX9_takesName_7 : decode cX9_takesName 7 = .ok (.iload_n 1, 1) := by decide +kernel
theorem dX9_takesName_8 : decode cX9_takesName 8 = .ok (.iconst 1, 1) := by decide +kernel
theorem dX9_takesName_9 : decode cX9_takesName 9 = .ok (.iadd, 1) := by decide +kernel
theorem dX9_takesName_10 : decode cX9_takesName 10 = .ok (.istore_n 3, 1) := by decide +kernel
theorem dX9_takesName_11 : decode cX9_takesName 11 = .ok (.iload_n 3, 1) := by decide +kernel
theorem dX9_takesName_12 : decode cX9_takesName 12 = .ok (.aload_n 0, 1) := by decide +kernel
theorem dX9_takesName_13 : decode cX9_takesName 13 = .ok (.getfield 147, 3) := by decide +kernel
theorem dX9_takesName_16 : decode cX9_takesName 16 = .ok (.if_icmp .ne 8, 3) := by decide +kernel
theorem dX9_takesName_19 : decode cX9_takesName 19 = .ok (.bipush 100, 2) := by decide +kernel
theorem dX9_takesName_21 : decode cX9_takesName 21 = .ok (.iload_n 3, 1) := by decide +kernel
theorem dX9_takesName_22 : decode cX9_takesName 22 = .ok (.iadd, 1) := by decide +kernel
theorem dX9_takesName_23 : decode cX9_takesName 23 = .ok (.ireturn, 1) := by decide +kernel
theorem dX9_takesName_24 : decode cX9_takesName 24 = .ok (.aload_n 0, 1) := by decide +kernel
theorem dX9_takesName_25 : decode cX9_takesName 25 = .ok (.getfield 7, 3) := by decide +kernel
theorem dX9_takesName_28 : decode cX9_takesName 28 = .ok (.iload_n 3, 1) := by decide +kernel
theorem dX9_takesName_29 : decode cX9_takesName 29 = .ok (.iaload, 1) := by decide +kernel
theorem dX9_takesName_30 : decode cX9_takesName 30 = .ok (.bipush 48, 2) := by decide +kernel
theorem dX9_takesName_32 : decode cX9_takesName 32 = .ok (.isub, 1) := by decide +kernel
theorem dX9_takesName_33 : decode cX9_takesName 33 = .ok (.istore 4, 2) := by decide +kernel
theorem dX9_takesName_35 : decode cX9_takesName 35 = .ok (.aload_n 0, 1) := by decide +kernel
theorem dX9_takesName_36 : decode cX9_takesName 36 = .ok (.getfield 7, 3) := by decide +kernel
theorem dX9_takesName_39 : decode cX9_takesName 39 = .ok (.iload_n 3, 1) := by decide +kernel
theorem dX9_takesName_40 : decode cX9_takesName 40 = .ok (.iaload, 1) := by decide +kernel
theorem dX9_takesName_41 : decode cX9_takesName 41 = .ok (.invokestatic 133, 3) := by decide +kernel
theorem dX9_takesName_44 : decode cX9_takesName 44 = .ok (.ifCond .eq 15, 3) := by decide +kernel
theorem dX9_takesName_47 : decode cX9_takesName 47 = .ok (.iload_n 2, 1) := by decide +kernel
theorem dX9_takesName_48 : decode cX9_takesName 48 = .ok (.bipush 99, 2) := by decide +kernel
theorem dX9_takesName_50 : decode cX9_takesName 50 = .ok (.if_icmp .eq 14, 3) := by decide +kernel
theorem dX9_takesName_53 : decode cX9_takesName 53 = .ok (.iload 4, 2) := by decide +kernel
theorem dX9_takesName_55 : decode cX9_takesName 55 = .ok (.iconst 5, 1) := by decide +kernel
theorem dX9_takesName_56 : decode cX9_takesName 56 = .ok (.if_icmp .lt 8, 3) := by decide +kernel
theorem dX9_takesName_59 : decode cX9_takesName 59 = .ok (.bipush 100, 2) := by decide +kernel
theorem dX9_takesName_61 : decode cX9_takesName 61 = .ok (.iload_n 3, 1) := by decide +kernel
theorem dX9_takesName_62 : decode cX9_takesName 62 = .ok (.iadd, 1) := by decide +kernel
theorem dX9_takesName_63 : decode cX9_takesName 63 = .ok (.ireturn, 1) := by decide +kernel
theorem dX9_takesName_64 : decode cX9_takesName 64 = .ok (.iinc 3 1, 3) := by decide +kernel
theorem dX9_takesName_67 : decode cX9_takesName 67 = .ok (.iload_n 2, 1) := by decide +kernel
theorem dX9_takesName_68 : decode cX9_takesName 68 = .ok (.bipush 99, 2) := by decide +kernel
theorem dX9_takesName_70 : decode cX9_takesName 70 = .ok (.if_icmp .ne 56, 3) := by decide +kernel
theorem dX9_takesName_73 : decode cX9_takesName 73 = .ok (.iload 4, 2) := by decide +kernel
theorem dX9_takesName_75 : decode cX9_takesName 75 = .ok (.iconst 1, 1) := by decide +kernel
theorem dX9_takesName_76 : decode cX9_takesName 76 = .ok (.if_icmp .ne 50, 3) := by decide +kernel
theorem dX9_takesName_79 : decode cX9_takesName 79 = .ok (.iload_n 3, 1) := by decide +kernel
theorem dX9_takesName_80 : decode cX9_takesName 80 = .ok (.aload_n 0, 1) := by decide +kernel
theorem dX9_takesName_81 : decode cX9_takesName 81 = .ok (.getfield 147, 3) := by decide +kernel
theorem dX9_takesName_84 : decode cX9_takesName 84 = .ok (.if_icmp .ge 42, 3) := by decide +kernel
theorem dX9_takesName_87 : decode cX9_takesName 87 = .ok (.aload_n 0, 1) := by decide +kernel
theorem dX9_takesName_88 : decode cX9_takesName 88 = .ok (.getfield 7, 3) := by decide +kernel
theorem dX9_takesName_91 : decode cX9_takesName 91 = .ok (.iload_n 3, 1) := by decide +kernel
theorem dX9_takesName_92 : decode cX9_takesName 92 = .ok (.iaload, 1) := by decide +kernel
theorem dX9_takesName_93 : decode cX9_takesName 93 = .ok (.bipush 48, 2) := by decide +kernel
theorem dX9_takesName_95 : decode cX9_takesName 95 = .ok (.if_icmp .eq 14, 3) := by decide +kernel
theorem dX9_takesName_98 : decode cX9_takesName 98 = .ok (.aload_n 0, 1) := by decide +kernel
theorem dX9_takesName_99 : decode cX9_takesName 99 = .ok (.getfield 7, 3) := by decide +kernel
theorem dX9_takesName_102 : decode cX9_takesName 102 = .ok (.iload_n 3, 1) := by decide +kernel
theorem dX9_takesName_103 : decode cX9_takesName 103 = .ok (.iaload, 1) := by decide +kernel
theorem dX9_takesName_104 : decode cX9_takesName 104 = .ok (.bipush 49, 2) := by decide +kernel
theorem dX9_takesName_106 : decode cX9_takesName 106 = .ok (.if_icmp .ne 20, 3) := by decide +kernel
theorem dX9_takesName_109 : decode cX9_takesName 109 = .ok (.bipush 10, 2) := by decide +kernel
theorem dX9_takesName_111 : decode cX9_takesName 111 = .ok (.aload_n 0, 1) := by decide +kernel
theorem dX9_takesName_112 : decode cX9_takesName 112 = .ok (.getfield 7, 3) := by decide +kernel
theorem dX9_takesName_115 : decode cX9_takesName 115 = .ok (.iload_n 3, 1) := by decide +kernel
theorem dX9_takesName_116 : decode cX9_takesName 116 = .ok (.iaload, 1) := by decide +kernel
theorem dX9_takesName_117 : decode cX9_takesName 117 = .ok (.iadd, 1) := by decide +kernel
theorem dX9_takesName_118 : decode cX9_takesName 118 = .ok (.bipush 48, 2) := by decide +kernel
theorem dX9_takesName_120 : decode cX9_takesName 120 = .ok (.isub, 1) := by decide +kernel
theorem dX9_takesName_121 : decode cX9_takesName 121 = .ok (.istore 4, 2) := by decide +kernel
theorem dX9_takesName_123 : decode cX9_takesName 123 = .ok (.iinc 3 1, 3) := by decide +kernel
theorem dX9_takesName_126 : decode cX9_takesName 126 = .ok (.aload_n 0, 1) := by decide +kernel
theorem dX9_takesName_127 : decode cX9_takesName 127 = .ok (.iload_n 2, 1) := by decide +kernel
theorem dX9_takesName_128 : decode cX9_takesName 128 = .ok (.bipush 99, 2) := by decide +kernel
theorem dX9_takesName_130 : decode cX9_takesName 130 = .ok (.if_icmp .ne 9, 3) := by decide +kernel
theorem dX9_takesName_133 : decode cX9_takesName 133 = .ok (.sipush 20000, 3) := by decide +kernel
theorem dX9_takesName_136 : decode cX9_takesName 136 = .ok (.goto 18, 3) := by decide +kernel
theorem dX9_takesName_139 : decode cX9_takesName 139 = .ok (.iload_n 2, 1) := by decide +kernel
theorem dX9_takesName_140 : decode cX9_takesName 140 = .ok (.bipush 114, 2) := by decide +kernel
theorem dX9_takesName_142 : decode cX9_takesName 142 = .ok (.if_icmp .ne 9, 3) := by decide +kernel
theorem dX9_takesName_145 : decode cX9_takesName 145 = .ok (.sipush 21000, 3) := by decide +kernel
theorem dX9_takesName_148 : decode cX9_takesName 148 = .ok (.goto 6, 3) := by decide +kernel
theorem dX9_takesName_151 : decode cX9_takesName 151 = .ok (.sipush 22000, 3) := by decide +kernel
theorem dX9_takesName_154 : decode cX9_takesName 154 = .ok (.iload 4, 2) := by decide +kernel
theorem dX9_takesName_156 : decode cX9_takesName 156 = .ok (.iadd, 1) := by decide +kernel
theorem dX9_takesName_157 : decode cX9_takesName 157 = .ok (.invokevirtual 163, 3) := by decide +kernel
theorem dX9_takesName_160 : decode cX9_takesName 160 = .ok (.iload_n 3, 1) := by decide +kernel
theorem dX9_takesName_161 : decode cX9_takesName 161 = .ok (.ireturn, 1) := by decide +kernel
theorem dX9_takesNumber_0 : decode cX9_takesNumber 0 = .ok (.iload_n 1, 1) := by decide +kernel
theorem dX9_takesNumber_1 : decode cX9_takesNumber 1 = .ok (.istore_n 2, 1) := by decide +kernel
theorem dX9_takesNumber_2 : decode cX9_takesNumber 2 = .ok (.iconst 0, 1) := by decide +kernel
theorem dX9_takesNumber_3 : decode cX9_takesNumber 3 = .ok (.istore_n 3, 1) := by decide +kernel
theorem dX9_takesNumber_4 : decode cX9_takesNumber 4 = .ok (.iload_n 2, 1) := by decide +kernel
theorem dX9_takesNumber_5 : decode cX9_takesNumber 5 = .ok (.aload_n 0, 1) := by decide +kernel
theorem dX9_takesNumber_6 : decode cX9_takesNumber 6 = .ok (.getfield 147, 3) := by decide +kernel
theorem dX9_takesNumber_9 : decode cX9_takesNumber 9 = .ok (.if_icmp .ge 43, 3) := by decide +kernel
theorem dX9_takesNumber_12 : decode cX9_takesNumber 12 = .ok (.iload_n 2, 1) := by decide +kernel
theorem dX9_takesNumber_13 : decode cX9_takesNumber 13 = .ok (.iload_n 1, 1) := by decide +kernel
theorem dX9_takesNumber_14 : decode cX9_takesNumber 14 = .ok (.iconst 4, 1) := by decide +kernel
theorem dX9_takesNumber_15 : decode cX9_takesNumber 15 = .ok (.iadd, 1) := by decide +kernel
theorem dX9_takesNumber_16 : decode cX9_takesNumber 16 = .ok (.if_icmp .ge 36, 3) := by decide +kernel
theorem dX9_takesNumber_19 : decode cX9_takesNumber 19 = .ok (.aload_n 0, 1) := by decide +kernel
theorem dX9_takesNumber_20 : decode cX9_takesNumber 20 = .ok (.getfield 7, 3) := by decide +kernel
theorem dX9_takesNumber_23 : decode cX9_takesNumber 23 = .ok (.iload_n 2, 1) := by decide +kernel
theorem dX9_takesNumber_24 : decode cX9_takesNumber 24 = .ok (.iaload, 1) := by decide +kernel
theorem dX9_takesNumber_25 : decode cX9_takesNumber 25 = .ok (.invokestatic 133, 3) := by decide +kernel
theorem dX9_takesNumber_28 : decode cX9_takesNumber 28 = .ok (.ifCond .eq 24, 3) := by decide +kernel
theorem dX9_takesNumber_31 : decode cX9_takesNumber 31 = .ok (.bipush 10, 2) := by decide +kernel
theorem dX9_takesNumber_33 : decode cX9_takesNumber 33 = .ok (.iload_n 3, 1) := by decide +kernel
theorem dX9_takesNumber_34 : decode cX9_takesNumber 34 = .ok (.imul, 1) := by decide +kernel
theorem dX9_takesNumber_35 : decode cX9_takesNumber 35 = .ok (.aload_n 0, 1) := by decide +kernel
theorem dX9_takesNumber_36 : decode cX9_takesNumber 36 = .ok (.getfield 7, 3) := by decide +kernel
theorem dX9_takesNumber_39 : decode cX9_takesNumber 39 = .ok (.iload_n 2, 1) := by decide +kernel
theorem dX9_takesNumber_40 : decode cX9_takesNumber 40 = .ok (.iaload, 1) := by decide +kernel
theorem dX9_takesNumber_41 : decode cX9_takesNumber 41 = .ok (.iadd, 1) := by decide +kernel
theorem dX9_takesNumber_42 : decode cX9_takesNumber 42 = .ok (.bipush 48, 2) := by decide +kernel
theorem dX9_takesNumber_44 : decode cX9_takesNumber 44 = .ok (.isub, 1) := by decide +kernel
theorem dX9_takesNumber_45 : decode cX9_takesNumber 45 = .ok (.istore_n 3, 1) := by decide +kernel
theorem dX9_takesNumber_46 : decode cX9_takesNumber 46 = .ok (.iinc 2 1, 3) := by decide +kernel
theorem dX9_takesNumber_49 : decode cX9_takesNumber 49 = .ok (.goto (-45), 3) := by decide +kernel
theorem dX9_takesNumber_52 : decode cX9_takesNumber 52 = .ok (.aload_n 0, 1) := by decide +kernel
theorem dX9_takesNumber_53 : decode cX9_takesNumber 53 = .ok (.iload_n 3, 1) := by decide +kernel
theorem dX9_takesNumber_54 : decode cX9_takesNumber 54 = .ok (.invokevirtual 163, 3) := by decide +kernel
theorem dX9_takesNumber_57 : decode cX9_takesNumber 57 = .ok (.iload_n 2, 1) := by decide +kernel
theorem dX9_takesNumber_58 : decode cX9_takesNumber 58 = .ok (.ireturn, 1) := by decide +kernel
theorem dX9_faultOf_0 : decode cX9_faultOf 0 = .ok (.aload_n 0, 1) := by decide +kernel
theorem dX9_faultOf_1 : decode cX9_faultOf 1 = .ok (.iconst 0, 1) := by decide +kernel
theorem dX9_faultOf_2 : decode cX9_faultOf 2 = .ok (.putfield 154, 3) := by decide +kernel
theorem dX9_faultOf_5 : decode cX9_faultOf 5 = .ok (.aload_n 0, 1) := by decide +kernel
theorem dX9_faultOf_6 : decode cX9_faultOf 6 = .ok (.iconst 0, 1) := by decide +kernel
theorem dX9_faultOf_7 : decode cX9_faultOf 7 = .ok (.putfield 157, 3) := by decide +kernel
theorem dX9_faultOf_10 : decode cX9_faultOf 10 = .ok (.iconst 0, 1) := by decide +kernel
theorem dX9_faultOf_11 : decode cX9_faultOf 11 = .ok (.istore_n 1, 1) := by decide +kernel
theorem dX9_faultOf_12 : decode cX9_faultOf 12 = .ok (.aload_n 0, 1) := by decide +kernel
theorem dX9_faultOf_13 : decode cX9_faultOf 13 = .ok (.getfield 19, 3) := by decide +kernel
theorem dX9_faultOf_16 : decode cX9_faultOf 16 = .ok (.iconst 0, 1) := by decide +kernel
theorem dX9_faultOf_17 : decode cX9_faultOf 17 = .ok (.iconst 0, 1) := by decide +kernel
theorem dX9_faultOf_18 : decode cX9_faultOf 18 = .ok (.bastore, 1) := by decide +kernel
theorem dX9_faultOf_19 : decode cX9_faultOf 19 = .ok (.iconst 1, 1) := by decide +kernel
theorem dX9_faultOf_20 : decode cX9_faultOf 20 = .ok (.istore_n 2, 1) := by decide +kernel
theorem dX9_faultOf_21 : decode cX9_faultOf 21 = .ok (.iconst 0, 1) := by decide +kernel
theorem dX9_faultOf_22 : decode cX9_faultOf 22 = .ok (.istore_n 3, 1) := by decide +kernel
theorem dX9_faultOf_23 : decode cX9_faultOf 23 = .ok (.iload_n 3, 1) := by decide +kernel
theorem dX9_faultOf_24 : decode cX9_faultOf 24 = .ok (.aload_n 0, 1) := by decide +kernel
theorem dX9_faultOf_25 : decode cX9_faultOf 25 = .ok (.getfield 147, 3) := by decide +kernel
theorem dX9_faultOf_28 : decode cX9_faultOf 28 = .ok (.if_icmp .ge 458, 3) := by decide +kernel
theorem dX9_faultOf_31 : decode cX9_faultOf 31 = .ok (.aload_n 0, 1) := by decide +kernel
theorem dX9_faultOf_32 : decode cX9_faultOf 32 = .ok (.getfield 7, 3) := by decide +kernel
theorem dX9_faultOf_35 : decode cX9_faultOf 35 = .ok (.iload_n 3, 1) := by decide +kernel
theorem dX9_faultOf_36 : decode cX9_faultOf 36 = .ok (.iaload, 1) := by decide +kernel
theorem dX9_faultOf_37 : decode cX9_faultOf 37 = .ok (.istore 4, 2) := by decide +kernel
theorem dX9_faultOf_39 : decode cX9_faultOf 39 = .ok (.iload_n 2, 1) := by decide +kernel
theorem dX9_faultOf_40 : decode cX9_faultOf 40 = .ok (.ifCond .eq 22, 3) := by decide +kernel
theorem dX9_faultOf_43 : decode cX9_faultOf 43 = .ok (.iload 4, 2) := by decide +kernel
theorem dX9_faultOf_45 : decode cX9_faultOf 45 = .ok (.invokestatic 133, 3) := by decide +kernel
theorem dX9_faultOf_48 : decode cX9_faultOf 48 = .ok (.ifCond .eq 14, 3) := by decide +kernel
theorem dX9_faultOf_51 : decode cX9_faultOf 51 = .ok (.aload_n 0, 1) := by decide +kernel
theorem dX9_faultOf_52 : decode cX9_faultOf 52 = .ok (.iload_n 3, 1) := by decide +kernel
theorem dX9_faultOf_53 : decode cX9_faultOf 53 = .ok (.invokevirtual 167, 3) := by decide +kernel
theorem dX9_faultOf_56 : decode cX9_faultOf 56 = .ok (.istore_n 3, 1) := by decide +kernel
theorem dX9_faultOf_57 : decode cX9_faultOf 57 = .ok (.iconst 0, 1) := by decide +kernel
theorem dX9_faultOf_58 : decode cX9_faultOf 58 = .ok (.istore_n 2, 1) := by decide +kernel
theorem dX9_faultOf_59 : decode cX9_faultOf 59 = .ok (.goto 424, 3) := by decide +kernel
theorem dX9_faultOf_62 : decode cX9_faultOf 62 = .ok (.iload_n 2, 1) := by decide +kernel
theorem dX9_faultOf_63 : decode cX9_faultOf 63 = .ok (.ifCond .eq 33, 3) := by decide +kernel
theorem dX9_faultOf_66 : decode cX9_faultOf 66 = .ok (.iload 4, 2) := by decide +kernel
theorem dX9_faultOf_68 : decode cX9_faultOf 68 = .ok (.invokestatic 140, 3) := by decide +kernel
theorem dX9_faultOf_71 : decode cX9_faultOf 71 = .ok (.ifCond .eq 25, 3) := by decide +kernel
theorem dX9_faultOf_74 : decode cX9_faultOf 74 = .ok (.aload_n 0, 1) := by decide +kernel
theorem dX9_faultOf_75 : decode cX9_faultOf 75 = .ok (.iload_n 3, 1) := by decide +kernel
theorem dX9_faultOf_76 : decode cX9_faultOf 76 = .ok (.invokevirtual 170, 3) := by decide +kernel
theorem dX9_faultOf_79 : decode cX9_faultOf 79 = .ok (.istore_n 3, 1) := by decide +kernel
theorem dX9_faultOf_80 : decode cX9_faultOf 80 = .ok (.iload_n 3, 1) := by decide +kernel
theorem dX9_faultOf_81 : decode cX9_faultOf 81 = .ok (.bipush 100, 2) := by decide +kernel
theorem dX9_faultOf_83 : decode cX9_faultOf 83 = .ok (.if_icmp .lt 8, 3) := by decide +kernel
theorem dX9_faultOf_86 : decode cX9_faultOf 86 = .ok (.iload_n 3, 1) := by decide +kernel
theorem dX9_faultOf_87 : decode cX9_faultOf 87 = .ok (.bipush 100, 2) := by decide +kernel
theorem dX9_faultOf_89 : decode cX9_faultOf 89 = .ok (.isub, 1) := by decide +kernel
theorem dX9_faultOf_90 : decode cX9_faultOf 90 = .ok (.ireturn, 1) := by decide +kernel
theorem dX9_faultOf_91 : decode cX9_faultOf 91 = .ok (.iconst 0, 1) := by decide +kernel
theorem dX9_faultOf_92 : decode cX9_faultOf 92 = .ok (.istore_n 2, 1) := by decide +kernel
theorem dX9_faultOf_93 : decode cX9_faultOf 93 = .ok (.goto 390, 3) := by decide +kernel
theorem dX9_faultOf_96 : decode cX9_faultOf 96 = .ok (.iload_n 2, 1) := by decide +kernel
theorem dX9_faultOf_97 : decode cX9_faultOf 97 = .ok (.ifCond .eq 21, 3) := by decide +kernel
theorem dX9_faultOf_100 : decode cX9_faultOf 100 = .ok (.iload 4, 2) := by decide +kernel
theorem dX9_faultOf_102 : decode cX9_faultOf 102 = .ok (.bipush 45, 2) := by decide +kernel
theorem dX9_faultOf_104 : decode cX9_faultOf 104 = .ok (.if_icmp .ne 14, 3) := by decide +kernel
theorem dX9_faultOf_107 : decode cX9_faultOf 107 = .ok (.aload_n 0, 1) := by decide +kernel
theorem dX9_faultOf_108 : decode cX9_faultOf 108 = .ok (.iconst 1, 1) := by decide +kernel
theorem dX9_faultOf_109 : decode cX9_faultOf 109 = .ok (.invokevirtual 173, 3) := by decide +kernel
theorem dX9_faultOf_112 : decode cX9_faultOf 112 = .ok (.iinc 3 1, 3) := by decide +kernel
theorem dX9_faultOf_115 : decode cX9_faultOf 115 = .ok (.goto 368, 3) := by decide +kernel
theorem dX9_faultOf_118 : decode cX9_faultOf 118 = .ok (.iload_n 2, 1) := by decide +kernel
theorem dX9_faultOf_119 : decode cX9_faultOf 119 = .ok (.ifCond .eq 113, 3) := by decide +kernel
theorem dX9_faultOf_122 : decode cX9_faultOf 122 = .ok (.iload 4, 2) := by decide +kernel
theorem dX9_faultOf_124 : decode cX9_faultOf 124 = .ok (.bipush 40, 2) := by decide +kernel
theorem dX9_faultOf_126 : decode cX9_faultOf 126 = .ok (.if_icmp .eq 11, 3) := by decide +kernel
theorem dX9_faultOf_129 : decode cX9_faultOf 129 = .ok (.iload 4, 2) := by decide +kernel
theorem dX9_faultOf_131 : decode cX9_faultOf 131 = .ok (.invokestatic 137, 3) := by decide +kernel
theorem dX9_faultOf_134 : decode cX9_faultOf 134 = .ok (.ifCond .eq 98, 3) := by decide +kernel
theorem dX9_faultOf_137 : decode cX9_faultOf 137 = .ok (.iload_n 3, 1) := by decide +kernel
theorem dX9_faultOf_138 : decode cX9_faultOf 138 = .ok (.iload 4, 2) := by decide +kernel
theorem dX9_faultOf_140 : decode cX9_faultOf 140 = .ok (.bipush 40, 2) := by decide +kernel
theorem dX9_faultOf_142 : decode cX9_faultOf 142 = .ok (.if_icmp .ne 7, 3) := by decide +kernel
theorem dX9_faultOf_145 : decode cX9_faultOf 145 = .ok (.iconst 0, 1) := by decide +kernel
theorem dX9_faultOf_146 : decode cX9_faultOf 146 = .ok (.goto 4, 3) := by decide +kernel
theorem dX9_faultOf_149 : decode cX9_faultOf 149 = .ok (.iconst 1, 1) := by decide +kernel
theorem dX9_faultOf_150 : decode cX9_faultOf 150 = .ok (.iadd, 1) := by decide +kernel
theorem dX9_faultOf_151 : decode cX9_faultOf 151 = .ok (.istore_n 3, 1) := by decide +kernel
theorem dX9_faultOf_152 : decode cX9_faultOf 152 = .ok (.iload_n 3, 1) := by decide +kernel
theorem dX9_faultOf_153 : decode cX9_faultOf 153 = .ok (.aload_n 0, 1) := by decide +kernel
theorem dX9_faultOf_154 : decode cX9_faultOf 154 = .ok (.getfield 147, 3) := by decide +kernel
theorem dX9_faultOf_157 : decode cX9_faultOf 157 = .ok (.if_icmp .eq 14, 3) := by decide +kernel
theorem dX9_faultOf_160 : decode cX9_faultOf 160 = .ok (.aload_n 0, 1) := by decide +kernel
theorem dX9_faultOf_161 : decode cX9_faultOf 161 = .ok (.getfield 7, 3) := by decide +kernel
theorem dX9_faultOf_164 : decode cX9_faultOf 164 = .ok (.iload_n 3, 1) := by decide +kernel
theorem dX9_faultOf_165 : decode cX9_faultOf 165 = .ok (.iaload, 1) := by decide +kernel
theorem dX9_faultOf_166 : decode cX9_faultOf 166 = .ok (.bipush 40, 2) := by decide +kernel
theorem dX9_faultOf_168 : decode cX9_faultOf 168 = .ok (.if_icmp .eq 5, 3) := by decide +kernel
theorem dX9_faultOf_171 : decode cX9_faultOf 171 = .ok (.iload_n 3, 1) := by decide +kernel
theorem dX9_faultOf_172 : decode cX9_faultOf 172 = .ok (.ireturn, 1) := by decide +kernel
theorem dX9_faultOf_173 : decode cX9_faultOf 173 = .ok (.iinc 3 1, 3) := by decide +kernel
theorem dX9_faultOf_176 : decode cX9_faultOf 176 = .ok (.iinc 1 1, 3) := by decide +kernel
theorem dX9_faultOf_179 : decode cX9_faultOf 179 = .ok (.aload_n 0, 1) := by decide +kernel
theorem dX9_faultOf_180 : decode cX9_faultOf 180 = .ok (.getfield 19, 3) := by decide +kernel
theorem dX9_faultOf_183 : decode cX9_faultOf 183 = .ok (.iload_n 1, 1) := by decide +kernel
theorem dX9_faultOf_184 : decode cX9_faultOf 184 = .ok (.iconst 0, 1) := by decide +kernel
theorem dX9_faultOf_185 : decode cX9_faultOf 185 = .ok (.bastore, 1) := by decide +kernel
theorem dX9_faultOf_186 : decode cX9_faultOf 186 = .ok (.aload_n 0, 1) := by decide +kernel
theorem dX9_faultOf_187 : decode cX9_faultOf 187 = .ok (.getfield 23, 3) := by decide +kernel
theorem dX9_faultOf_190 : decode cX9_faultOf 190 = .ok (.iload_n 1, 1) := by decide +kernel
theorem dX9_faultOf_191 : decode cX9_faultOf 191 = .ok (.iload 4, 2) := by decide +kernel
theorem dX9_faultOf_193 : decode cX9_faultOf 193 = .ok (.iastore, 1) := by decide +kernel
theorem dX9_faultOf_194 : decode cX9_faultOf 194 = .ok (.aload_n 0, 1) := by decide +kernel
theorem dX9_faultOf_195 : decode cX9_faultOf 195 = .ok (.getfield 26, 3) := by decide +kernel
theorem dX9_faultOf_198 : decode cX9_faultOf 198 = .ok (.iload_n 1, 1) := by decide +kernel
theorem dX9_faultOf_199 : decode cX9_faultOf 199 = .ok (.iload 4, 2) := by decide +kernel
theorem dX9_faultOf_201 : decode cX9_faultOf 201 = .ok (.bipush 40, 2) := by decide +kernel
theorem dX9_faultOf_203 : decode cX9_faultOf 203 = .ok (.if_icmp .ne 7, 3) := by decide +kernel
theorem dX9_faultOf_206 : decode cX9_faultOf 206 = .ok (.iconst 1, 1) := by decide +kernel
theorem dX9_faultOf_207 : decode cX9_faultOf 207 = .ok (.goto 15, 3) := by decide +kernel
theorem dX9_faultOf_210 : decode cX9_faultOf 210 = .ok (.iload 4, 2) := by decide +kernel
theorem dX9_faultOf_212 : decode cX9_faultOf 212 = .ok (.bipush 105, 2) := by decide +kernel
theorem dX9_faultOf_214 : decode cX9_faultOf 214 = .ok (.if_icmp .ne 7, 3) := by decide +kernel
theorem dX9_faultOf_217 : decode cX9_faultOf 217 = .ok (.iconst 3, 1) := by decide +kernel
theorem dX9_faultOf_218 : decode cX9_faultOf 218 = .ok (.goto 4, 3) := by decide +kernel
theorem dX9_faultOf_221 : decode cX9_faultOf 221 = .ok (.iconst 2, 1) := by decide +kernel
theorem dX9_faultOf_222 : decode cX9_faultOf 222 = .ok (.iastore, 1) := by decide +kernel
theorem dX9_faultOf_223 : decode cX9_faultOf 223 = .ok (.aload_n 0, 1) := by decide +kernel
theorem dX9_faultOf_224 : decode cX9_faultOf 224 = .ok (.bipush 11, 2) := by decide +kernel
theorem dX9_faultOf_226 : decode cX9_faultOf 226 = .ok (.invokevirtual 173, 3) := by decide +kernel
theorem dX9_faultOf_229 : decode cX9_faultOf 229 = .ok (.goto 254, 3) := by decide +kernel
theorem dX9_faultOf_232 : decode cX9_faultOf 232 = .ok (.iload_n 2, 1) := by decide +kernel
theorem dX9_faultOf_233 : decode cX9_faultOf 233 = .ok (.ifCond .eq 5, 3) := by decide +kernel
theorem dX9_faultOf_236 : decode cX9_faultOf 236 = .ok (.iload_n 3, 1) := by decide +kernel
theorem dX9_faultOf_237 : decode cX9_faultOf 237 = .ok (.ireturn, 1) := by decide +kernel
theorem dX9_faultOf_238 : decode cX9_faultOf 238 = .ok (.iload 4, 2) := by decide +kernel
theorem dX9_faultOf_240 : decode cX9_faultOf 240 = .ok (.invokestatic 143, 3) := by decide +kernel
theorem dX9_faultOf_243 : decode cX9_faultOf 243 = .ok (.ifCond .le 89, 3) := by decide +kernel
theorem dX9_faultOf_246 : decode cX9_faultOf 246 = .ok (.iload 4, 2) := by decide +kernel
theorem dX9_faultOf_248 : decode cX9_faultOf 248 = .ok (.invokestatic 143, 3) := by decide +kernel
theorem dX9_faultOf_251 : decode cX9_faultOf 251 = .ok (.iconst 5, 1) := by decide +kernel
theorem dX9_faultOf_252 : decode cX9_faultOf 252 = .ok (.if_icmp .lt 7, 3) := by decide +kernel
theorem dX9_faultOf_255 : decode cX9_faultOf 255 = .ok (.iconst 1, 1) := by decide +kernel
theorem dX9_faultOf_256 : decode cX9_faultOf 256 = .ok (.goto 4, 3) := by decide +kernel
theorem dX9_faultOf_259 : decode cX9_faultOf 259 = .ok (.iconst 0, 1) := by decide +kernel
theorem dX9_faultOf_260 : decode cX9_faultOf 260 = .ok (.istore 5, 2) := by decide +kernel
theorem dX9_faultOf_262 : decode cX9_faultOf 262 = .ok (.iload 5, 2) := by decide +kernel
theorem dX9_faultOf_264 : decode cX9_faultOf 264 = .ok (.ifCond .eq 14, 3) := by decide +kernel
theorem dX9_faultOf_267 : decode cX9_faultOf 267 = .ok (.aload_n 0, 1) := by decide +kernel
theorem dX9_faultOf_268 : decode cX9_faultOf 268 = .ok (.getfield 19, 3) := by decide +kernel
theorem dX9_faultOf_271 : decode cX9_faultOf 271 = .ok (.iload_n 1, 1) := by decide +kernel
theorem dX9_faultOf_272 : decode cX9_faultOf 272 = .ok (.baload, 1) := by decide +kernel
theorem dX9_faultOf_273 : decode cX9_faultOf 273 = .ok (.ifCond .eq 5, 3) := by decide +kernel
theorem dX9_faultOf_276 : decode cX9_faultOf 276 = .ok (.iload_n 3, 1) := by decide +kernel
theorem dX9_faultOf_277 : decode cX9_faultOf 277 = .ok (.ireturn, 1) := by decide +kernel
theorem dX9_faultOf_278 : decode cX9_faultOf 278 = .ok (.aload_n 0, 1) := by decide +kernel
theorem dX9_faultOf_279 : decode cX9_faultOf 279 = .ok (.getfield 19, 3) := by decide +kernel
theorem dX9_faultOf_282 : decode cX9_faultOf 282 = .ok (.iload_n 1, 1) := by decide +kernel
theorem dX9_faultOf_283 : decode cX9_faultOf 283 = .ok (.aload_n 0, 1) := by decide +kernel
theorem dX9_faultOf_284 : decode cX9_faultOf 284 = .ok (.getfield 19, 3) := by decide +kernel
theorem dX9_faultOf_287 : decode cX9_faultOf 287 = .ok (.iload_n 1, 1) := by decide +kernel
theorem dX9_faultOf_288 : decode cX9_faultOf 288 = .ok (.baload, 1) := by decide +kernel
theorem dX9_faultOf_289 : decode cX9_faultOf 289 = .ok (.ifCond .ne 8, 3) := by decide +kernel
theorem dX9_faultOf_292 : decode cX9_faultOf 292 = .ok (.iload 5, 2) := by decide +kernel
theorem dX9_faultOf_294 : decode cX9_faultOf 294 = .ok (.ifCond .eq 7, 3) := by decide +kernel
theorem dX9_faultOf_297 : decode cX9_faultOf 297 = .ok (.iconst 1, 1) := by decide +kernel
theorem dX9_faultOf_298 : decode cX9_faultOf 298 = .ok (.goto 4, 3) := by decide +kernel
theorem dX9_faultOf_301 : decode cX9_faultOf 301 = .ok (.iconst 0, 1) := by decide +kernel
theorem dX9_faultOf_302 : decode cX9_faultOf 302 = .ok (.bastore, 1) := by decide +kernel
theorem dX9_faultOf_303 : decode cX9_faultOf 303 = .ok (.aload_n 0, 1) := by decide +kernel
theorem dX9_faultOf_304 : decode cX9_faultOf 304 = .ok (.iload 4, 2) := by decide +kernel
theorem dX9_faultOf_306 : decode cX9_faultOf 306 = .ok (.invokestatic 143, 3) := by decide +kernel
theorem dX9_faultOf_309 : decode cX9_faultOf 309 = .ok (.invokestatic 160, 3) := by decide +kernel
theorem dX9_faultOf_312 : decode cX9_faultOf 312 = .ok (.invokevirtual 176, 3) := by decide +kernel
theorem dX9_faultOf_315 : decode cX9_faultOf 315 = .ok (.aload_n 0, 1) := by decide +kernel
theorem dX9_faultOf_316 : decode cX9_faultOf 316 = .ok (.iload 4, 2) := by decide +kernel
theorem dX9_faultOf_318 : decode cX9_faultOf 318 = .ok (.invokestatic 143, 3) := by decide +kernel
theorem dX9_faultOf_321 : decode cX9_faultOf 321 = .ok (.invokevirtual 173, 3) := by decide +kernel
theorem dX9_faultOf_324 : decode cX9_faultOf 324 = .ok (.iconst 1, 1) := by decide +kernel
theorem dX9_faultOf_325 : decode cX9_faultOf 325 = .ok (.istore_n 2, 1) := by decide +kernel
theorem dX9_faultOf_326 : decode cX9_faultOf 326 = .ok (.iinc 3 1, 3) := by decide +kernel
theorem dX9_faultOf_329 : decode cX9_faultOf 329 = .ok (.goto 154, 3) := by decide +kernel
theorem dX9_faultOf_332 : decode cX9_faultOf 332 = .ok (.iload 4, 2) := by decide +kernel
theorem dX9_faultOf_334 : decode cX9_faultOf 334 = .ok (.bipush 44, 2) := by decide +kernel
theorem dX9_faultOf_336 : decode cX9_faultOf 336 = .ok (.if_icmp .ne 47, 3) := by decide +kernel
theorem dX9_faultOf_339 : decode cX9_faultOf 339 = .ok (.iload_n 1, 1) := by decide +kernel
theorem dX9_faultOf_340 : decode cX9_faultOf 340 = .ok (.ifCond .le 43, 3) := by decide +kernel
theorem dX9_faultOf_343 : decode cX9_faultOf 343 = .ok (.aload_n 0, 1) := by decide +kernel
theorem dX9_faultOf_344 : decode cX9_faultOf 344 = .ok (.getfield 26, 3) := by decide +kernel
theorem dX9_faultOf_347 : decode cX9_faultOf 347 = .ok (.iload_n 1, 1) := by decide +kernel
theorem dX9_faultOf_348 : decode cX9_faultOf 348 = .ok (.iaload, 1) := by decide +kernel
theorem dX9_faultOf_349 : decode cX9_faultOf 349 = .ok (.iconst 1, 1) := by decide +kernel
theorem dX9_faultOf_350 : decode cX9_faultOf 350 = .ok (.if_icmp .le 33, 3) := by decide +kernel
theorem dX9_faultOf_353 : decode cX9_faultOf 353 = .ok (.aload_n 0, 1) := by decide +kernel
theorem dX9_faultOf_354 : decode cX9_faultOf 354 = .ok (.iconst 0, 1) := by decide +kernel
theorem dX9_faultOf_355 : decode cX9_faultOf 355 = .ok (.invokevirtual 176, 3) := by decide +kernel
theorem dX9_faultOf_358 : decode cX9_faultOf 358 = .ok (.aload_n 0, 1) := by decide +kernel
theorem dX9_faultOf_359 : decode cX9_faultOf 359 = .ok (.getfield 26, 3) := by decide +kernel
theorem dX9_faultOf_362 : decode cX9_faultOf 362 = .ok (.iload_n 1, 1) := by decide +kernel
theorem dX9_faultOf_363 : decode cX9_faultOf 363 = .ok (.dup2, 1) := by decide +kernel
theorem dX9_faultOf_364 : decode cX9_faultOf 364 = .ok (.iaload, 1) := by decide +kernel
theorem dX9_faultOf_365 : decode cX9_faultOf 365 = .ok (.iconst 1, 1) := by decide +kernel
theorem dX9_faultOf_366 : decode cX9_faultOf 366 = .ok (.isub, 1) := by decide +kernel
theorem dX9_faultOf_367 : decode cX9_faultOf 367 = .ok (.iastore, 1) := by decide +kernel
theorem dX9_faultOf_368 : decode cX9_faultOf 368 = .ok (.aload_n 0, 1) := by decide +kernel
theorem dX9_faultOf_369 : decode cX9_faultOf 369 = .ok (.getfield 19, 3) := by decide +kernel
theorem dX9_faultOf_372 : decode cX9_faultOf 372 = .ok (.iload_n 1, 1) := by decide +kernel
theorem dX9_faultOf_373 : decode cX9_faultOf 373 = .ok (.iconst 0, 1) := by decide +kernel
theorem dX9_faultOf_374 : decode cX9_faultOf 374 = .ok (.bastore, 1) := by decide +kernel
theorem dX9_faultOf_375 : decode cX9_faultOf 375 = .ok (.iconst 1, 1) := by decide +kernel
theorem dX9_faultOf_376 : decode cX9_faultOf 376 = .ok (.istore_n 2, 1) := by decide +kernel
theorem dX9_faultOf_377 : decode cX9_faultOf 377 = .ok (.iinc 3 1, 3) := by decide +kernel
theorem dX9_faultOf_380 : decode cX9_faultOf 380 = .ok (.goto 103, 3) := by decide +kernel
theorem dX9_faultOf_383 : decode cX9_faultOf 383 = .ok (.iload 4, 2) := by decide +kernel
theorem dX9_faultOf_385 : decode cX9_faultOf 385 = .ok (.bipush 41, 2) := by decide +kernel
theorem dX9_faultOf_387 : decode cX9_faultOf 387 = .ok (.if_icmp .ne 94, 3) := by decide +kernel
theorem dX9_faultOf_390 : decode cX9_faultOf 390 = .ok (.iload_n 1, 1) := by decide +kernel
theorem dX9_faultOf_391 : decode cX9_faultOf 391 = .ok (.ifCond .le 90, 3) := by decide +kernel
theorem dX9_faultOf_394 : decode cX9_faultOf 394 = .ok (.aload_n 0, 1) := by decide +kernel
theorem dX9_faultOf_395 : decode cX9_faultOf 395 = .ok (.getfield 26, 3) := by decide +kernel
theorem dX9_faultOf_398 : decode cX9_faultOf 398 = .ok (.iload_n 1, 1) := by decide +kernel
theorem dX9_faultOf_399 : decode cX9_faultOf 399 = .ok (.iaload, 1) := by decide +kernel
theorem dX9_faultOf_400 : decode cX9_faultOf 400 = .ok (.iconst 1, 1) := by decide +kernel
theorem dX9_faultOf_401 : decode cX9_faultOf 401 = .ok (.if_icmp .ne 80, 3) := by decide +kernel
theorem dX9_faultOf_404 : decode cX9_faultOf 404 = .ok (.aload_n 0, 1) := by decide +kernel
theorem dX9_faultOf_405 : decode cX9_faultOf 405 = .ok (.iconst 0, 1) := by decide +kernel
theorem dX9_faultOf_406 : decode cX9_faultOf 406 = .ok (.invokevirtual 176, 3) := by decide +kernel
theorem dX9_faultOf_409 : decode cX9_faultOf 409 = .ok (.aload_n 0, 1) := by decide +kernel
theorem dX9_faultOf_410 : decode cX9_faultOf 410 = .ok (.dup, 1) := by decide +kernel
theorem dX9_faultOf_411 : decode cX9_faultOf 411 = .ok (.getfield 157, 3) := by decide +kernel
theorem dX9_faultOf_414 : decode cX9_faultOf 414 = .ok (.iconst 1, 1) := by decide +kernel
theorem dX9_faultOf_415 : decode cX9_faultOf 415 = .ok (.isub, 1) := by decide +kernel
theorem dX9_faultOf_416 : decode cX9_faultOf 416 = .ok (.putfield 157, 3) := by decide +kernel
theorem dX9_faultOf_419 : decode cX9_faultOf 419 = .ok (.aload_n 0, 1) := by decide +kernel
theorem dX9_faultOf_420 : decode cX9_faultOf 420 = .ok (.getfield 23, 3) := by decide +kernel
theorem dX9_faultOf_423 : decode cX9_faultOf 423 = .ok (.iload_n 1, 1) := by decide +kernel
theorem dX9_faultOf_424 : decode cX9_faultOf 424 = .ok (.iaload, 1) := by decide +kernel
theorem dX9_faultOf_425 : decode cX9_faultOf 425 = .ok (.bipush 40, 2) := by decide +kernel
theorem dX9_faultOf_427 : decode cX9_faultOf 427 = .ok (.if_icmp .eq 45, 3) := by decide +kernel
theorem dX9_faultOf_430 : decode cX9_faultOf 430 = .ok (.aload_n 0, 1) := by decide +kernel
theorem dX9_faultOf_431 : decode cX9_faultOf 431 = .ok (.sipush 30000, 3) := by decide +kernel
theorem dX9_faultOf_434 : decode cX9_faultOf 434 = .ok (.aload_n 0, 1) := by decide +kernel
theorem dX9_faultOf_435 : decode cX9_faultOf 435 = .ok (.getfield 23, 3) := by decide +kernel
theorem dX9_faultOf_438 : decode cX9_faultOf 438 = .ok (.iload_n 1, 1) := by decide +kernel
theorem dX9_faultOf_439 : decode cX9_faultOf 439 = .ok (.iaload, 1) := by decide +kernel
theorem dX9_faultOf_440 : decode cX9_faultOf 440 = .ok (.bipush 109, 2) := by decide +kernel
theorem dX9_faultOf_442 : decode cX9_faultOf 442 = .ok (.if_icmp .ne 8, 3) := by decide +kernel
theorem dX9_faultOf_445 : decode cX9_faultOf 445 = .ok (.bipush 8, 2) := by decide +kernel
theorem dX9_faultOf_447 : decode cX9_faultOf 447 = .ok (.goto 21, 3) := by decide +kernel
theorem dX9_faultOf_450 : decode cX9_faultOf 450 = .ok (.aload_n 0, 1) := by decide +kernel
theorem dX9_faultOf_451 : decode cX9_faultOf 451 = .ok (.getfield 23, 3) := by decide +kernel
theorem dX9_faultOf_454 : decode cX9_faultOf 454 = .ok (.iload_n 1, 1) := by decide +kernel
theorem dX9_faultOf_455 : decode cX9_faultOf 455 = .ok (.iaload, 1) := by decide +kernel
theorem dX9_faultOf_456 : decode cX9_faultOf 456 = .ok (.bipush 110, 2) := by decide +kernel
theorem dX9_faultOf_458 : decode cX9_faultOf 458 = .ok (.if_icmp .ne 8, 3) := by decide +kernel
theorem dX9_faultOf_461 : decode cX9_faultOf 461 = .ok (.bipush 9, 2) := by decide +kernel
theorem dX9_faultOf_463 : decode cX9_faultOf 463 = .ok (.goto 5, 3) := by decide +kernel
theorem dX9_faultOf_466 : decode cX9_faultOf 466 = .ok (.bipush 10, 2) := by decide +kernel
theorem dX9_faultOf_468 : decode cX9_faultOf 468 = .ok (.iadd, 1) := by decide +kernel
theorem dX9_faultOf_469 : decode cX9_faultOf 469 = .ok (.invokevirtual 163, 3) := by decide +kernel
theorem dX9_faultOf_472 : decode cX9_faultOf 472 = .ok (.iinc 1 (-1), 3) := by decide +kernel
theorem dX9_faultOf_475 : decode cX9_faultOf 475 = .ok (.iinc 3 1, 3) := by decide +kernel
theorem dX9_faultOf_478 : decode cX9_faultOf 478 = .ok (.goto 5, 3) := by decide +kernel
theorem dX9_faultOf_481 : decode cX9_faultOf 481 = .ok (.iload_n 3, 1) := by decide +kernel
theorem dX9_faultOf_482 : decode cX9_faultOf 482 = .ok (.ireturn, 1) := by decide +kernel
theorem dX9_faultOf_483 : decode cX9_faultOf 483 = .ok (.goto (-460), 3) := by decide +kernel
theorem dX9_faultOf_486 : decode cX9_faultOf 486 = .ok (.iload_n 2, 1) := by decide +kernel
theorem dX9_faultOf_487 : decode cX9_faultOf 487 = .ok (.ifCond .ne 7, 3) := by decide +kernel
theorem dX9_faultOf_490 : decode cX9_faultOf 490 = .ok (.iload_n 1, 1) := by decide +kernel
theorem dX9_faultOf_491 : decode cX9_faultOf 491 = .ok (.ifCond .le 8, 3) := by decide +kernel
theorem dX9_faultOf_494 : decode cX9_faultOf 494 = .ok (.aload_n 0, 1) := by decide +kernel
theorem dX9_faultOf_495 : decode cX9_faultOf 495 = .ok (.getfield 147, 3) := by decide +kernel
theorem dX9_faultOf_498 : decode cX9_faultOf 498 = .ok (.ireturn, 1) := by decide +kernel
theorem dX9_faultOf_499 : decode cX9_faultOf 499 = .ok (.aload_n 0, 1) := by decide +kernel
theorem dX9_faultOf_500 : decode cX9_faultOf 500 = .ok (.iconst 0, 1) := by decide +kernel
theorem dX9_faultOf_501 : decode cX9_faultOf 501 = .ok (.invokevirtual 176, 3) := by decide +kernel
theorem dX9_faultOf_504 : decode cX9_faultOf 504 = .ok (.iconst (-1), 1) := by decide +kernel
theorem dX9_faultOf_505 : decode cX9_faultOf 505 = .ok (.ireturn, 1) := by decide +kernel
theorem dX9_fault_0 : decode cX9_fault 0 = .ok (.aload_n 0, 1) := by decide +kernel
theorem dX9_fault_1 : decode cX9_fault 1 = .ok (.iconst 0, 1) := by decide +kernel
theorem dX9_fault_2 : decode cX9_fault 2 = .ok (.putfield 129, 3) := by decide +kernel
theorem dX9_fault_5 : decode cX9_fault 5 = .ok (.aload_n 0, 1) := by decide +kernel
theorem dX9_fault_6 : decode cX9_fault 6 = .ok (.invokevirtual 179, 3) := by decide +kernel
theorem dX9_fault_9 : decode cX9_fault 9 = .ok (.ireturn, 1) := by decide +kernel
theorem dX9_kept_0 : decode cX9_kept 0 = .ok (.lload_n 0, 1) := by decide +kernel
theorem dX9_kept_1 : decode cX9_kept 1 = .ok (.ldc2_w 183, 3) := by decide +kernel
theorem dX9_kept_4 : decode cX9_kept 4 = .ok (.lcmp, 1) := by decide +kernel
theorem dX9_kept_5 : decode cX9_kept 5 = .ok (.ifCond .le 9, 3) := by decide +kernel
theorem dX9_kept_8 : decode cX9_kept 8 = .ok (.ldc2_w 183, 3) := by decide +kernel
theorem dX9_kept_11 : decode cX9_kept 11 = .ok (.goto 18, 3) := by decide +kernel
theorem dX9_kept_14 : decode cX9_kept 14 = .ok (.lload_n 0, 1) := by decide +kernel
theorem dX9_kept_15 : decode cX9_kept 15 = .ok (.ldc2_w 185, 3) := by decide +kernel
theorem dX9_kept_18 : decode cX9_kept 18 = .ok (.lcmp, 1) := by decide +kernel
theorem dX9_kept_19 : decode cX9_kept 19 = .ok (.ifCond .ge 9, 3) := by decide +kernel
theorem dX9_kept_22 : decode cX9_kept 22 = .ok (.ldc2_w 185, 3) := by decide +kernel
theorem dX9_kept_25 : decode cX9_kept 25 = .ok (.goto 4, 3) := by decide +kernel
theorem dX9_kept_28 : decode cX9_kept 28 = .ok (.lload_n 0, 1) := by decide +kernel
theorem dX9_kept_29 : decode cX9_kept 29 = .ok (.lreturn, 1) := by decide +kernel
theorem dX9_deeds_0 : decode cX9_deeds 0 = .ok (.iload_n 1, 1) := by decide +kernel
theorem dX9_deeds_1 : decode cX9_deeds 1 = .ok (.iconst 1, 1) := by decide +kernel
theorem dX9_deeds_2 : decode cX9_deeds 2 = .ok (.if_icmp .ne 27, 3) := by decide +kernel
theorem dX9_deeds_5 : decode cX9_deeds 5 = .ok (.aload_n 0, 1) := by decide +kernel
theorem dX9_deeds_6 : decode cX9_deeds 6 = .ok (.getfield 122, 3) := by decide +kernel
theorem dX9_deeds_9 : decode cX9_deeds 9 = .ok (.aload_n 0, 1) := by decide +kernel
theorem dX9_deeds_10 : decode cX9_deeds 10 = .ok (.getfield 187, 3) := by decide +kernel
theorem dX9_deeds_13 : decode cX9_deeds 13 = .ok (.iconst 1, 1) := by decide +kernel
theorem dX9_deeds_14 : decode cX9_deeds 14 = .ok (.isub, 1) := by decide +kernel
theorem dX9_deeds_15 : decode cX9_deeds 15 = .ok (.aload_n 0, 1) := by decide +kernel
theorem dX9_deeds_16 : decode cX9_deeds 16 = .ok (.getfield 122, 3) := by decide +kernel
theorem dX9_deeds_19 : decode cX9_deeds 19 = .ok (.aload_n 0, 1) := by decide +kernel
theorem dX9_deeds_20 : decode cX9_deeds 20 = .ok (.getfield 187, 3) := by decide +kernel
theorem dX9_deeds_23 : decode cX9_deeds 23 = .ok (.iconst 1, 1) := by decide +kernel
theorem dX9_deeds_24 : decode cX9_deeds 24 = .ok (.isub, 1) := by decide +kernel
theorem dX9_deeds_25 : decode cX9_deeds 25 = .ok (.laload, 1) := by decide +kernel
theorem dX9_deeds_26 : decode cX9_deeds 26 = .ok (.lneg, 1) := by decide +kernel
theorem dX9_deeds_27 : decode cX9_deeds 27 = .ok (.lastore, 1) := by decide +kernel
theorem dX9_deeds_28 : decode cX9_deeds 28 = .ok (.return_, 1) := by decide +kernel
theorem dX9_deeds_29 : decode cX9_deeds 29 = .ok (.iload_n 1, 1) := by decide +kernel
theorem dX9_deeds_30 : decode cX9_deeds 30 = .ok (.bipush 10, 2) := by decide +kernel
theorem dX9_deeds_32 : decode cX9_deeds 32 = .ok (.if_icmp .ne 64, 3) := by decide +kernel
theorem dX9_deeds_35 : decode cX9_deeds 35 = .ok (.aload_n 0, 1) := by decide +kernel
theorem dX9_deeds_36 : decode cX9_deeds 36 = .ok (.dup, 1) := by decide +kernel
theorem dX9_deeds_37 : decode cX9_deeds 37 = .ok (.getfield 187, 3) := by decide +kernel
theorem dX9_deeds_40 : decode cX9_deeds 40 = .ok (.iconst 2, 1) := by decide +kernel
theorem dX9_deeds_41 : decode cX9_deeds 41 = .ok (.isub, 1) := by decide +kernel
theorem dX9_deeds_42 : decode cX9_deeds 42 = .ok (.putfield 187, 3) := by decide +kernel
theorem dX9_deeds_45 : decode cX9_deeds 45 = .ok (.aload_n 0, 1) := by decide +kernel
theorem dX9_deeds_46 : decode cX9_deeds 46 = .ok (.getfield 122, 3) := by decide +kernel
theorem dX9_deeds_49 : decode cX9_deeds 49 = .ok (.aload_n 0, 1) := by decide +kernel
theorem dX9_deeds_50 : decode cX9_deeds 50 = .ok (.getfield 187, 3) := by decide +kernel
theorem dX9_deeds_53 : decode cX9_deeds 53 = .ok (.iconst 1, 1) := by decide +kernel
theorem dX9_deeds_54 : decode cX9_deeds 54 = .ok (.isub, 1) := by decide +kernel
theorem dX9_deeds_55 : decode cX9_deeds 55 = .ok (.aload_n 0, 1) := by decide +kernel
theorem dX9_deeds_56 : decode cX9_deeds 56 = .ok (.getfield 122, 3) := by decide +kernel
theorem dX9_deeds_59 : decode cX9_deeds 59 = .ok (.aload_n 0, 1) := by decide +kernel
theorem dX9_deeds_60 : decode cX9_deeds 60 = .ok (.getfield 187, 3) := by decide +kernel
theorem dX9_deeds_63 : decode cX9_deeds 63 = .ok (.iconst 1, 1) := by decide +kernel
theorem dX9_deeds_64 : decode cX9_deeds 64 = .ok (.isub, 1) := by decide +kernel
theorem dX9_deeds_65 : decode cX9_deeds 65 = .ok (.laload, 1) := by decide +kernel
theorem dX9_deeds_66 : decode cX9_deeds 66 = .ok (.lconst 0, 1) := by decide +kernel
theorem dX9_deeds_67 : decode cX9_deeds 67 = .ok (.lcmp, 1) := by decide +kernel
theorem dX9_deeds_68 : decode cX9_deeds 68 = .ok (.ifCond .le 15, 3) := by decide +kernel
theorem dX9_deeds_71 : decode cX9_deeds 71 = .ok (.aload_n 0, 1) := by decide +kernel
theorem dX9_deeds_72 : decode cX9_deeds 72 = .ok (.getfield 122, 3) := by decide +kernel
theorem dX9_deeds_75 : decode cX9_deeds 75 = .ok (.aload_n 0, 1) := by decide +kernel
theorem dX9_deeds_76 : decode cX9_deeds 76 = .ok (.getfield 187, 3) := by decide +kernel
theorem dX9_deeds_79 : decode cX9_deeds 79 = .ok (.laload, 1) := by decide +kernel
theorem dX9_deeds_80 : decode cX9_deeds 80 = .ok (.goto 14, 3) := by decide +kernel
theorem dX9_deeds_83 : decode cX9_deeds 83 = .ok (.aload_n 0, 1) := by decide +kernel
theorem dX9_deeds_84 : decode cX9_deeds 84 = .ok (.getfield 122, 3) := by decide +kernel
theorem dX9_deeds_87 : decode cX9_deeds 87 = .ok (.aload_n 0, 1) := by decide +kernel
theorem dX9_deeds_88 : decode cX9_deeds 88 = .ok (.getfield 187, 3) := by decide +kernel
theorem dX9_deeds_91 : decode cX9_deeds 91 = .ok (.iconst 1, 1) := by decide +kernel
theorem dX9_deeds_92 : decode cX9_deeds 92 = .ok (.iadd, 1) := by decide +kernel
theorem dX9_deeds_93 : decode cX9_deeds 93 = .ok (.laload, 1) := by decide +kernel
theorem dX9_deeds_94 : decode cX9_deeds 94 = .ok (.lastore, 1) := by decide +kernel
theorem dX9_deeds_95 : decode cX9_deeds 95 = .ok (.return_, 1) := by decide +kernel
theorem dX9_deeds_96 : decode cX9_deeds 96 = .ok (.aload_n 0, 1) := by decide +kernel
theorem dX9_deeds_97 : decode cX9_deeds 97 = .ok (.dup, 1) := by decide +kernel
theorem dX9_deeds_98 : decode cX9_deeds 98 = .ok (.getfield 187, 3) := by decide +kernel
theorem dX9_deeds_101 : decode cX9_deeds 101 = .ok (.iconst 1, 1) := by decide +kernel
theorem dX9_deeds_102 : decode cX9_deeds 102 = .ok (.isub, 1) := by decide +kernel
theorem dX9_deeds_103 : decode cX9_deeds 103 = .ok (.putfield 187, 3) := by decide +kernel
theorem dX9_deeds_106 : decode cX9_deeds 106 = .ok (.aload_n 0, 1) := by decide +kernel
theorem dX9_deeds_107 : decode cX9_deeds 107 = .ok (.getfield 122, 3) := by decide +kernel
theorem dX9_deeds_110 : decode cX9_deeds 110 = .ok (.aload_n 0, 1) := by decide +kernel
theorem dX9_deeds_111 : decode cX9_deeds 111 = .ok (.getfield 187, 3) := by decide +kernel
theorem dX9_deeds_114 : decode cX9_deeds 114 = .ok (.iconst 1, 1) := by decide +kernel
theorem dX9_deeds_115 : decode cX9_deeds 115 = .ok (.isub, 1) := by decide +kernel
theorem dX9_deeds_116 : decode cX9_deeds 116 = .ok (.laload, 1) := by decide +kernel
theorem dX9_deeds_117 : decode cX9_deeds 117 = .ok (.lstore_n 2, 1) := by decide +kernel
theorem dX9_deeds_118 : decode cX9_deeds 118 = .ok (.aload_n 0, 1) := by decide +kernel
theorem dX9_deeds_119 : decode cX9_deeds 119 = .ok (.getfield 122, 3) := by decide +kernel
theorem dX9_deeds_122 : decode cX9_deeds 122 = .ok (.aload_n 0, 1) := by decide +kernel
theorem dX9_deeds_123 : decode cX9_deeds 123 = .ok (.getfield 187, 3) := by decide +kernel
theorem dX9_deeds_126 : decode cX9_deeds 126 = .ok (.laload, 1) := by decide +kernel
theorem dX9_deeds_127 : decode cX9_deeds 127 = .ok (.lstore 4, 2) := by decide +kernel
theorem dX9_deeds_129 : decode cX9_deeds 129 = .ok (.iload_n 1, 1) := by decide +kernel
theorem dX9_deeds_130 : decode cX9_deeds 130 = .ok (.iconst 2, 1) := by decide +kernel
theorem dX9_deeds_131 : decode cX9_deeds 131 = .ok (.if_icmp .ne 10, 3) := by decide +kernel
theorem dX9_deeds_134 : decode cX9_deeds 134 = .ok (.lload_n 2, 1) := by decide +kernel
theorem dX9_deeds_135 : decode cX9_deeds 135 = .ok (.lload 4, 2) := by decide +kernel
theorem dX9_deeds_137 : decode cX9_deeds 137 = .ok (.ladd, 1) := by decide +kernel
theorem dX9_deeds_138 : decode cX9_deeds 138 = .ok (.goto 19, 3) := by decide +kernel
theorem dX9_deeds_141 : decode cX9_deeds 141 = .ok (.iload_n 1, 1) := by decide +kernel
theorem dX9_deeds_142 : decode cX9_deeds 142 = .ok (.iconst 3, 1) := by decide +kernel
theorem dX9_deeds_143 : decode cX9_deeds 143 = .ok (.if_icmp .ne 10, 3) := by decide +kernel
theorem dX9_deeds_146 : decode cX9_deeds 146 = .ok (.lload_n 2, 1) := by decide +kernel
theorem dX9_deeds_147 : decode cX9_deeds 147 = .ok (.lload 4, 2) := by decide +kernel
theorem dX9_deeds_149 : decode cX9_deeds 149 = .ok (.lsub, 1) := by decide +kernel
theorem dX9_deeds_150 : decode cX9_deeds 150 = .ok (.goto 7, 3) := by decide +kernel
theorem dX9_deeds_153 : decode cX9_deeds 153 = .ok (.lload_n 2, 1) := by decide +kernel
theorem dX9_deeds_154 : decode cX9_deeds 154 = .ok (.lload 4, 2) := by decide +kernel
theorem dX9_deeds_156 : decode cX9_deeds 156 = .ok (.lmul, 1) := by decide +kernel
theorem dX9_deeds_157 : decode cX9_deeds 157 = .ok (.lstore 6, 2) := by decide +kernel
theorem dX9_deeds_159 : decode cX9_deeds 159 = .ok (.iload_n 1, 1) := by decide +kernel
theorem dX9_deeds_160 : decode cX9_deeds 160 = .ok (.iconst 5, 1) := by decide +kernel
theorem dX9_deeds_161 : decode cX9_deeds 161 = .ok (.if_icmp .eq 15, 3) := by decide +kernel
theorem dX9_deeds_164 : decode cX9_deeds 164 = .ok (.iload_n 1, 1) := by decide +kernel
theorem dX9_deeds_165 : decode cX9_deeds 165 = .ok (.bipush 6, 2) := by decide +kernel
theorem dX9_deeds_167 : decode cX9_deeds 167 = .ok (.if_icmp .eq 9, 3) := by decide +kernel
theorem dX9_deeds_170 : decode cX9_deeds 170 = .ok (.iload_n 1, 1) := by decide +kernel
theorem dX9_deeds_171 : decode cX9_deeds 171 = .ok (.bipush 7, 2) := by decide +kernel
theorem dX9_deeds_173 : decode cX9_deeds 173 = .ok (.if_icmp .ne 48, 3) := by decide +kernel
theorem dX9_deeds_176 : decode cX9_deeds 176 = .ok (.iload_n 1, 1) := by decide +kernel
theorem dX9_deeds_177 : decode cX9_deeds 177 = .ok (.iconst 5, 1) := by decide +kernel
theorem dX9_deeds_178 : decode cX9_deeds 178 = .ok (.if_icmp .ne 13, 3) := by decide +kernel
theorem dX9_deeds_181 : decode cX9_deeds 181 = .ok (.lload_n 2, 1) := by decide +kernel
theorem dX9_deeds_182 : decode cX9_deeds 182 = .ok (.lload 4, 2) := by decide +kernel
theorem dX9_deeds_184 : decode cX9_deeds 184 = .ok (.lcmp, 1) := by decide +kernel
theorem dX9_deeds_185 : decode cX9_deeds 185 = .ok (.ifCond .ge 33, 3) := by decide +kernel
theorem dX9_deeds_188 : decode cX9_deeds 188 = .ok (.goto 26, 3) := by decide +kernel
theorem dX9_deeds_191 : decode cX9_deeds 191 = .ok (.iload_n 1, 1) := by decide +kernel
theorem dX9_deeds_192 : decode cX9_deeds 192 = .ok (.bipush 6, 2) := by decide +kernel
theorem dX9_deeds_194 : decode cX9_deeds 194 = .ok (.if_icmp .ne 13, 3) := by decide +kernel
theorem dX9_deeds_197 : decode cX9_deeds 197 = .ok (.lload_n 2, 1) := by decide +kernel
theorem dX9_deeds_198 : decode cX9_deeds 198 = .ok (.lload 4, 2) := by decide +kernel
theorem dX9_deeds_200 : decode cX9_deeds 200 = .ok (.lcmp, 1) := by decide +kernel
theorem dX9_deeds_201 : decode cX9_deeds 201 = .ok (.ifCond .le 17, 3) := by decide +kernel
theorem dX9_deeds_204 : decode cX9_deeds 204 = .ok (.goto 10, 3) := by decide +kernel
theorem dX9_deeds_207 : decode cX9_deeds 207 = .ok (.lload_n 2, 1) := by decide +kernel
theorem dX9_deeds_208 : decode cX9_deeds 208 = .ok (.lload 4, 2) := by decide +kernel
theorem dX9_deeds_210 : decode cX9_deeds 210 = .ok (.lcmp, 1) := by decide +kernel
theorem dX9_deeds_211 : decode cX9_deeds 211 = .ok (.ifCond .ne 7, 3) := by decide +kernel
theorem dX9_deeds_214 : decode cX9_deeds 214 = .ok (.lconst 1, 1) := by decide +kernel
theorem dX9_deeds_215 : decode cX9_deeds 215 = .ok (.goto 4, 3) := by decide +kernel
theorem dX9_deeds_218 : decode cX9_deeds 218 = .ok (.lconst 0, 1) := by decide +kernel
theorem dX9_deeds_219 : decode cX9_deeds 219 = .ok (.lstore 6, 2) := by decide +kernel
theorem dX9_deeds_221 : decode cX9_deeds 221 = .ok (.iload_n 1, 1) := by decide +kernel
theorem dX9_deeds_222 : decode cX9_deeds 222 = .ok (.bipush 8, 2) := by decide +kernel
theorem dX9_deeds_224 : decode cX9_deeds 224 = .ok (.if_icmp .eq 9, 3) := by decide +kernel
theorem dX9_deeds_227 : decode cX9_deeds 227 = .ok (.iload_n 1, 1) := by decide +kernel
theorem dX9_deeds_228 : decode cX9_deeds 228 = .ok (.bipush 9, 2) := by decide +kernel
theorem dX9_deeds_230 : decode cX9_deeds 230 = .ok (.if_icmp .ne 37, 3) := by decide +kernel
theorem dX9_deeds_233 : decode cX9_deeds 233 = .ok (.lload_n 2, 1) := by decide +kernel
theorem dX9_deeds_234 : decode cX9_deeds 234 = .ok (.lload 4, 2) := by decide +kernel
theorem dX9_deeds_236 : decode cX9_deeds 236 = .ok (.lcmp, 1) := by decide +kernel
theorem dX9_deeds_237 : decode cX9_deeds 237 = .ok (.ifCond .le 7, 3) := by decide +kernel
theorem dX9_deeds_240 : decode cX9_deeds 240 = .ok (.iconst 1, 1) := by decide +kernel
theorem dX9_deeds_241 : decode cX9_deeds 241 = .ok (.goto 4, 3) := by decide +kernel
theorem dX9_deeds_244 : decode cX9_deeds 244 = .ok (.iconst 0, 1) := by decide +kernel
theorem dX9_deeds_245 : decode cX9_deeds 245 = .ok (.iload_n 1, 1) := by decide +kernel
theorem dX9_deeds_246 : decode cX9_deeds 246 = .ok (.bipush 8, 2) := by decide +kernel
theorem dX9_deeds_248 : decode cX9_deeds 248 = .ok (.if_icmp .ne 7, 3) := by decide +kernel
theorem dX9_deeds_251 : decode cX9_deeds 251 = .ok (.iconst 1, 1) := by decide +kernel
theorem dX9_deeds_252 : decode cX9_deeds 252 = .ok (.goto 4, 3) := by decide +kernel
theorem dX9_deeds_255 : decode cX9_deeds 255 = .ok (.iconst 0, 1) := by decide +kernel
theorem dX9_deeds_256 : decode cX9_deeds 256 = .ok (.if_icmp .ne 7, 3) := by decide +kernel
theorem dX9_deeds_259 : decode cX9_deeds 259 = .ok (.lload_n 2, 1) := by decide +kernel
theorem dX9_deeds_260 : decode cX9_deeds 260 = .ok (.goto 5, 3) := by decide +kernel
theorem dX9_deeds_263 : decode cX9_deeds 263 = .ok (.lload 4, 2) := by decide +kernel
theorem dX9_deeds_265 : decode cX9_deeds 265 = .ok (.lstore 6, 2) := by decide +kernel
theorem dX9_deeds_267 : decode cX9_deeds 267 = .ok (.aload_n 0, 1) := by decide +kernel
theorem dX9_deeds_268 : decode cX9_deeds 268 = .ok (.getfield 122, 3) := by decide +kernel
theorem dX9_deeds_271 : decode cX9_deeds 271 = .ok (.aload_n 0, 1) := by decide +kernel
theorem dX9_deeds_272 : decode cX9_deeds 272 = .ok (.getfield 187, 3) := by decide +kernel
theorem dX9_deeds_275 : decode cX9_deeds 275 = .ok (.iconst 1, 1) := by decide +kernel
theorem dX9_deeds_276 : decode cX9_deeds 276 = .ok (.isub, 1) := by decide +kernel
theorem dX9_deeds_277 : decode cX9_deeds 277 = .ok (.lload 6, 2) := by decide +kernel
theorem dX9_deeds_279 : decode cX9_deeds 279 = .ok (.invokestatic 190, 3) := by decide +kernel
theorem dX9_deeds_282 : decode cX9_deeds 282 = .ok (.lastore, 1) := by decide +kernel
theorem dX9_deeds_283 : decode cX9_deeds 283 = .ok (.return_, 1) := by decide +kernel
theorem dX9_worthOf_0 : decode cX9_worthOf 0 = .ok (.aload_n 0, 1) := by decide +kernel
theorem dX9_worthOf_1 : decode cX9_worthOf 1 = .ok (.iconst 0, 1) := by decide +kernel
theorem dX9_worthOf_2 : decode cX9_worthOf 2 = .ok (.putfield 187, 3) := by decide +kernel
theorem dX9_worthOf_5 : decode cX9_worthOf 5 = .ok (.iconst 0, 1) := by decide +kernel
theorem dX9_worthOf_6 : decode cX9_worthOf 6 = .ok (.istore_n 2, 1) := by decide +kernel
theorem dX9_worthOf_7 : decode cX9_worthOf 7 = .ok (.iload_n 2, 1) := by decide +kernel
theorem dX9_worthOf_8 : decode cX9_worthOf 8 = .ok (.aload_n 0, 1) := by decide +kernel
theorem dX9_worthOf_9 : decode cX9_worthOf 9 = .ok (.getfield 32, 3) := by decide +kernel
theorem dX9_worthOf_12 : decode cX9_worthOf 12 = .ok (.iload_n 1, 1) := by decide +kernel
theorem dX9_worthOf_13 : decode cX9_worthOf 13 = .ok (.iaload, 1) := by decide +kernel
theorem dX9_worthOf_14 : decode cX9_worthOf 14 = .ok (.if_icmp .ge 124, 3) := by decide +kernel
theorem dX9_worthOf_17 : decode cX9_worthOf 17 = .ok (.aload_n 0, 1) := by decide +kernel
theorem dX9_worthOf_18 : decode cX9_worthOf 18 = .ok (.getfield 29, 3) := by decide +kernel
theorem dX9_worthOf_21 : decode cX9_worthOf 21 = .ok (.bipush 30, 2) := by decide +kernel
theorem dX9_worthOf_23 : decode cX9_worthOf 23 = .ok (.iload_n 1, 1) := by decide +kernel
theorem dX9_worthOf_24 : decode cX9_worthOf 24 = .ok (.imul, 1) := by decide +kernel
theorem dX9_worthOf_25 : decode cX9_worthOf 25 = .ok (.iload_n 2, 1) := by decide +kernel
theorem dX9_worthOf_26 : decode cX9_worthOf 26 = .ok (.iadd, 1) := by decide +kernel
theorem dX9_worthOf_27 : decode cX9_worthOf 27 = .ok (.iaload, 1) := by decide +kernel
theorem dX9_worthOf_28 : decode cX9_worthOf 28 = .ok (.istore_n 3, 1) := by decide +kernel
theorem dX9_worthOf_29 : decode cX9_worthOf 29 = .ok (.iload_n 3, 1) := by decide +kernel
theorem dX9_worthOf_30 : decode cX9_worthOf 30 = .ok (.sipush 30000, 3) := by decide +kernel
theorem dX9_worthOf_33 : decode cX9_worthOf 33 = .ok (.if_icmp .lt 15, 3) := by decide +kernel
theorem dX9_worthOf_36 : decode cX9_worthOf 36 = .ok (.aload_n 0, 1) := by decide +kernel
theorem dX9_worthOf_37 : decode cX9_worthOf 37 = .ok (.iload_n 3, 1) := by decide +kernel
theorem dX9_worthOf_38 : decode cX9_worthOf 38 = .ok (.sipush 30000, 3) := by decide +kernel
theorem dX9_worthOf_41 : decode cX9_worthOf 41 = .ok (.isub, 1) := by decide +kernel
theorem dX9_worthOf_42 : decode cX9_worthOf 42 = .ok (.invokevirtual 194, 3) := by decide +kernel
theorem dX9_worthOf_45 : decode cX9_worthOf 45 = .ok (.goto 87, 3) := by decide +kernel
theorem dX9_worthOf_48 : decode cX9_worthOf 48 = .ok (.aload_n 0, 1) := by decide +kernel
theorem dX9_worthOf_49 : decode cX9_worthOf 49 = .ok (.getfield 122, 3) := by decide +kernel
theorem dX9_worthOf_52 : decode cX9_worthOf 52 = .ok (.aload_n 0, 1) := by decide +kernel
theorem dX9_worthOf_53 : decode cX9_worthOf 53 = .ok (.getfield 187, 3) := by decide +kernel
theorem dX9_worthOf_56 : decode cX9_worthOf 56 = .ok (.iload_n 3, 1) := by decide +kernel
theorem dX9_worthOf_57 : decode cX9_worthOf 57 = .ok (.sipush 20000, 3) := by decide +kernel
theorem dX9_worthOf_60 : decode cX9_worthOf 60 = .ok (.if_icmp .ge 8, 3) := by decide +kernel
theorem dX9_worthOf_63 : decode cX9_worthOf 63 = .ok (.iload_n 3, 1) := by decide +kernel
theorem dX9_worthOf_64 : decode cX9_worthOf 64 = .ok (.i2l, 1) := by decide +kernel
theorem dX9_worthOf_65 : decode cX9_worthOf 65 = .ok (.goto 56, 3) := by decide +kernel
theorem dX9_worthOf_68 : decode cX9_worthOf 68 = .ok (.iload_n 3, 1) := by decide +kernel
theorem dX9_worthOf_69 : decode cX9_worthOf 69 = .ok (.sipush 21000, 3) := by decide +kernel
theorem dX9_worthOf_72 : decode cX9_worthOf 72 = .ok (.if_icmp .ge 17, 3) := by decide +kernel
theorem dX9_worthOf_75 : decode cX9_worthOf 75 = .ok (.aload_n 0, 1) := by decide +kernel
theorem dX9_worthOf_76 : decode cX9_worthOf 76 = .ok (.getfield 71, 3) := by decide +kernel
theorem dX9_worthOf_79 : decode cX9_worthOf 79 = .ok (.iload_n 3, 1) := by decide +kernel
theorem dX9_worthOf_80 : decode cX9_worthOf 80 = .ok (.sipush 20000, 3) := by decide +kernel
theorem dX9_worthOf_83 : decode cX9_worthOf 83 = .ok (.isub, 1) := by decide +kernel
theorem dX9_worthOf_84 : decode cX9_worthOf 84 = .ok (.iaload, 1) := by decide +kernel
theorem dX9_worthOf_85 : decode cX9_worthOf 85 = .ok (.i2l, 1) := by decide +kernel
theorem dX9_worthOf_86 : decode cX9_worthOf 86 = .ok (.goto 35, 3) := by decide +kernel
theorem dX9_worthOf_89 : decode cX9_worthOf 89 = .ok (.iload_n 3, 1) := by decide +kernel
theorem dX9_worthOf_90 : decode cX9_worthOf 90 = .ok (.sipush 22000, 3) := by decide +kernel
theorem dX9_worthOf_93 : decode cX9_worthOf 93 = .ok (.if_icmp .ge 17, 3) := by decide +kernel
theorem dX9_worthOf_96 : decode cX9_worthOf 96 = .ok (.aload_n 0, 1) := by decide +kernel
theorem dX9_worthOf_97 : decode cX9_worthOf 97 = .ok (.getfield 77, 3) := by decide +kernel
theorem dX9_worthOf_100 : decode cX9_worthOf 100 = .ok (.iload_n 3, 1) := by decide +kernel
theorem dX9_worthOf_101 : decode cX9_worthOf 101 = .ok (.sipush 21000, 3) := by decide +kernel
theorem dX9_worthOf_104 : decode cX9_worthOf 104 = .ok (.isub, 1) := by decide +kernel
theorem dX9_worthOf_105 : decode cX9_worthOf 105 = .ok (.iaload, 1) := by decide +kernel
theorem dX9_worthOf_106 : decode cX9_worthOf 106 = .ok (.i2l, 1) := by decide +kernel
theorem dX9_worthOf_107 : decode cX9_worthOf 107 = .ok (.goto 14, 3) := by decide +kernel
theorem dX9_worthOf_110 : decode cX9_worthOf 110 = .ok (.aload_n 0, 1) := by decide +kernel
theorem dX9_worthOf_111 : decode cX9_worthOf 111 = .ok (.getfield 95, 3) := by decide +kernel
theorem dX9_worthOf_114 : decode cX9_worthOf 114 = .ok (.iload_n 3, 1) := by decide +kernel
theorem dX9_worthOf_115 : decode cX9_worthOf 115 = .ok (.sipush 22000, 3) := by decide +kernel
theorem dX9_worthOf_118 : decode cX9_worthOf 118 = .ok (.isub, 1) := by decide +kernel
theorem dX9_worthOf_119 : decode cX9_worthOf 119 = .ok (.iaload, 1) := by decide +kernel
theorem dX9_worthOf_120 : decode cX9_worthOf 120 = .ok (.i2l, 1) := by decide +kernel
theorem dX9_worthOf_121 : decode cX9_worthOf 121 = .ok (.lastore, 1) := by decide +kernel
theorem dX9_worthOf_122 : decode cX9_worthOf 122 = .ok (.aload_n 0, 1) := by decide +kernel
theorem dX9_worthOf_123 : decode cX9_worthOf 123 = .ok (.dup, 1) := by decide +kernel
theorem dX9_worthOf_124 : decode cX9_worthOf 124 = .ok (.getfield 187, 3) := by decide +kernel
theorem dX9_worthOf_127 : decode cX9_worthOf 127 = .ok (.iconst 1, 1) := by decide +kernel
theorem dX9_worthOf_128 : decode cX9_worthOf 128 = .ok (.iadd, 1) := by decide +kernel
theorem dX9_worthOf_129 : decode cX9_worthOf 129 = .ok (.putfield 187, 3) := by decide +kernel
theorem dX9_worthOf_132 : decode cX9_worthOf 132 = .ok (.iinc 2 1, 3) := by decide +kernel
theorem dX9_worthOf_135 : decode cX9_worthOf 135 = .ok (.goto (-128), 3) := by decide +kernel
theorem dX9_worthOf_138 : decode cX9_worthOf 138 = .ok (.aload_n 0, 1) := by decide +kernel
theorem dX9_worthOf_139 : decode cX9_worthOf 139 = .ok (.getfield 122, 3) := by decide +kernel
theorem dX9_worthOf_142 : decode cX9_worthOf 142 = .ok (.iconst 0, 1) := by decide +kernel
theorem dX9_worthOf_143 : decode cX9_worthOf 143 = .ok (.laload, 1) := by decide +kernel
theorem dX9_worthOf_144 : decode cX9_worthOf 144 = .ok (.l2i, 1) := by decide +kernel
theorem dX9_worthOf_145 : decode cX9_worthOf 145 = .ok (.ireturn, 1) := by decide +kernel
theorem dX9_soils_0 : decode cX9_soils 0 = .ok (.iconst 0, 1) := by decide +kernel
theorem dX9_soils_1 : decode cX9_soils 1 = .ok (.istore_n 3, 1) := by decide +kernel
theorem dX9_soils_2 : decode cX9_soils 2 = .ok (.iload_n 3, 1) := by decide +kernel
theorem dX9_soils_3 : decode cX9_soils 3 = .ok (.bipush 12, 2) := by decide +kernel
theorem dX9_soils_5 : decode cX9_soils 5 = .ok (.if_icmp .ge 48, 3) := by decide +kernel
theorem dX9_soils_8 : decode cX9_soils 8 = .ok (.aload_n 0, 1) := by decide +kernel
theorem dX9_soils_9 : decode cX9_soils 9 = .ok (.getfield 74, 3) := by decide +kernel
theorem dX9_soils_12 : decode cX9_soils 12 = .ok (.iload_n 3, 1) := by decide +kernel
theorem dX9_soils_13 : decode cX9_soils 13 = .ok (.aload_n 0, 1) := by decide +kernel
theorem dX9_soils_14 : decode cX9_soils 14 = .ok (.getfield 74, 3) := by decide +kernel
theorem dX9_soils_17 : decode cX9_soils 17 = .ok (.iload_n 3, 1) := by decide +kernel
theorem dX9_soils_18 : decode cX9_soils 18 = .ok (.baload, 1) := by decide +kernel
theorem dX9_soils_19 : decode cX9_soils 19 = .ok (.ifCond .ne 22, 3) := by decide +kernel
theorem dX9_soils_22 : decode cX9_soils 22 = .ok (.aload_n 0, 1) := by decide +kernel
theorem dX9_soils_23 : decode cX9_soils 23 = .ok (.getfield 47, 3) := by decide +kernel
theorem dX9_soils_26 : decode cX9_soils 26 = .ok (.iload_n 3, 1) := by decide +kernel
theorem dX9_soils_27 : decode cX9_soils 27 = .ok (.baload, 1) := by decide +kernel
theorem dX9_soils_28 : decode cX9_soils 28 = .ok (.ifCond .ne 17, 3) := by decide +kernel
theorem dX9_soils_31 : decode cX9_soils 31 = .ok (.aload_n 1, 1) := by decide +kernel
theorem dX9_soils_32 : decode cX9_soils 32 = .ok (.iload_n 3, 1) := by decide +kernel
theorem dX9_soils_33 : decode cX9_soils 33 = .ok (.iaload, 1) := by decide +kernel
theorem dX9_soils_34 : decode cX9_soils 34 = .ok (.iload_n 2, 1) := by decide +kernel
theorem dX9_soils_35 : decode cX9_soils 35 = .ok (.invokestatic 197, 3) := by decide +kernel
theorem dX9_soils_38 : decode cX9_soils 38 = .ok (.ifCond .eq 7, 3) := by decide +kernel
theorem dX9_soils_41 : decode cX9_soils 41 = .ok (.iconst 1, 1) := by decide +kernel
theorem dX9_soils_42 : decode cX9_soils 42 = .ok (.goto 4, 3) := by decide +kernel
theorem dX9_soils_45 : decode cX9_soils 45 = .ok (.iconst 0, 1) := by decide +kernel
theorem dX9_soils_46 : decode cX9_soils 46 = .ok (.bastore, 1) := by decide +kernel
theorem dX9_soils_47 : decode cX9_soils 47 = .ok (.iinc 3 1, 3) := by decide +kernel
theorem dX9_soils_50 : decode cX9_soils 50 = .ok (.goto (-48), 3) := by decide +kernel
theorem dX9_soils_53 : decode cX9_soils 53 = .ok (.return_, 1) := by decide +kernel
theorem dX9_becomes_0 : decode cX9_becomes 0 = .ok (.aload_n 0, 1) := by decide +kernel
theorem dX9_becomes_1 : decode cX9_becomes 1 = .ok (.getfield 71, 3) := by decide +kernel
theorem dX9_becomes_4 : decode cX9_becomes 4 = .ok (.iload_n 1, 1) := by decide +kernel
theorem dX9_becomes_5 : decode cX9_becomes 5 = .ok (.iaload, 1) := by decide +kernel
theorem dX9_becomes_6 : decode cX9_becomes 6 = .ok (.iload_n 2, 1) := by decide +kernel
theorem dX9_becomes_7 : decode cX9_becomes 7 = .ok (.if_icmp .eq 19, 3) := by decide +kernel
theorem dX9_becomes_10 : decode cX9_becomes 10 = .ok (.aload_n 0, 1) := by decide +kernel
theorem dX9_becomes_11 : decode cX9_becomes 11 = .ok (.getfield 71, 3) := by decide +kernel
theorem dX9_becomes_14 : decode cX9_becomes 14 = .ok (.iload_n 1, 1) := by decide +kernel
theorem dX9_becomes_15 : decode cX9_becomes 15 = .ok (.iload_n 2, 1) := by decide +kernel
theorem dX9_becomes_16 : decode cX9_becomes 16 = .ok (.iastore, 1) := by decide +kernel
theorem dX9_becomes_17 : decode cX9_becomes 17 = .ok (.aload_n 0, 1) := by decide +kernel
theorem dX9_becomes_18 : decode cX9_becomes 18 = .ok (.aload_n 0, 1) := by decide +kernel
theorem dX9_becomes_19 : decode cX9_becomes 19 = .ok (.getfield 35, 3) := by decide +kernel
theorem dX9_becomes_22 : decode cX9_becomes 22 = .ok (.iload_n 1, 1) := by decide +kernel
theorem dX9_becomes_23 : decode cX9_becomes 23 = .ok (.invokevirtual 201, 3) := by decide +kernel
theorem dX9_becomes_26 : decode cX9_becomes 26 = .ok (.return_, 1) := by decide +kernel
theorem dX9_tells_0 : decode cX9_tells 0 = .ok (.aload_n 0, 1) := by decide +kernel
theorem dX9_tells_1 : decode cX9_tells 1 = .ok (.getfield 95, 3) := by decide +kernel
theorem dX9_tells_4 : decode cX9_tells 4 = .ok (.iload_n 1, 1) := by decide +kernel
theorem dX9_tells_5 : decode cX9_tells 5 = .ok (.iaload, 1) := by decide +kernel
theorem dX9_tells_6 : decode cX9_tells 6 = .ok (.iload_n 2, 1) := by decide +kernel
theorem dX9_tells_7 : decode cX9_tells 7 = .ok (.if_icmp .eq 19, 3) := by decide +kernel
theorem dX9_tells_10 : decode cX9_tells 10 = .ok (.aload_n 0, 1) := by decide +kernel
theorem dX9_tells_11 : decode cX9_tells 11 = .ok (.getfield 95, 3) := by decide +kernel
theorem dX9_tells_14 : decode cX9_tells 14 = .ok (.iload_n 1, 1) := by decide +kernel
theorem dX9_tells_15 : decode cX9_tells 15 = .ok (.iload_n 2, 1) := by decide +kernel
theorem dX9_tells_16 : decode cX9_tells 16 = .ok (.iastore, 1) := by decide +kernel
theorem dX9_tells_17 : decode cX9_tells 17 = .ok (.aload_n 0, 1) := by decide +kernel
theorem dX9_tells_18 : decode cX9_tells 18 = .ok (.aload_n 0, 1) := by decide +kernel
theorem dX9_tells_19 : decode cX9_tells 19 = .ok (.getfield 41, 3) := by decide +kernel
theorem dX9_tells_22 : decode cX9_tells 22 = .ok (.iload_n 1, 1) := by decide +kernel
theorem dX9_tells_23 : decode cX9_tells 23 = .ok (.invokevirtual 201, 3) := by decide +kernel
theorem dX9_tells_26 : decode cX9_tells 26 = .ok (.return_, 1) := by decide +kernel
theorem dX9_nextDirty_0 : decode cX9_nextDirty 0 = .ok (.iconst (-1), 1) := by decide +kernel
theorem dX9_nextDirty_1 : decode cX9_nextDirty 1 = .ok (.istore_n 1, 1) := by decide +kernel
theorem dX9_nextDirty_2 : decode cX9_nextDirty 2 = .ok (.iconst 0, 1) := by decide +kernel
theorem dX9_nextDirty_3 : decode cX9_nextDirty 3 = .ok (.istore_n 2, 1) := by decide +kernel
theorem dX9_nextDirty_4 : decode cX9_nextDirty 4 = .ok (.iload_n 2, 1) := by decide +kernel
theorem dX9_nextDirty_5 : decode cX9_nextDirty 5 = .ok (.bipush 12, 2) := by decide +kernel
theorem dX9_nextDirty_7 : decode cX9_nextDirty 7 = .ok (.if_icmp .ge 43, 3) := by decide +kernel
theorem dX9_nextDirty_10 : decode cX9_nextDirty 10 = .ok (.aload_n 0, 1) := by decide +kernel
theorem dX9_nextDirty_11 : decode cX9_nextDirty 11 = .ok (.getfield 74, 3) := by decide +kernel
theorem dX9_nextDirty_14 : decode cX9_nextDirty 14 = .ok (.iload_n 2, 1) := by decide +kernel
theorem dX9_nextDirty_15 : decode cX9_nextDirty 15 = .ok (.baload, 1) := by decide +kernel
theorem dX9_nextDirty_16 : decode cX9_nextDirty 16 = .ok (.ifCond .eq 26, 3) := by decide +kernel
theorem dX9_nextDirty_19 : decode cX9_nextDirty 19 = .ok (.iload_n 1, 1) := by decide +kernel
theorem dX9_nextDirty_20 : decode cX9_nextDirty 20 = .ok (.ifCond .lt 18, 3) := by decide +kernel
theorem dX9_nextDirty_23 : decode cX9_nextDirty 23 = .ok (.aload_n 0, 1) := by decide +kernel
theorem dX9_nextDirty_24 : decode cX9_nextDirty 24 = .ok (.getfield 44, 3) := by decide +kernel
theorem dX9_nextDirty_27 : decode cX9_nextDirty 27 = .ok (.iload_n 2, 1) := by decide +kernel
theorem dX9_nextDirty_28 : decode cX9_nextDirty 28 = .ok (.iaload, 1) := by decide +kernel
theorem dX9_nextDirty_29 : decode cX9_nextDirty 29 = .ok (.aload_n 0, 1) := by decide +kernel
theorem dX9_nextDirty_30 : decode cX9_nextDirty 30 = .ok (.getfield 44, 3) := by decide +kernel
theorem dX9_nextDirty_33 : decode cX9_nextDirty 33 = .ok (.iload_n 1, 1) := by decide +kernel
theorem dX9_nextDirty_34 : decode cX9_nextDirty 34 = .ok (.iaload, 1) := by decide +kernel
theorem dX9_nextDirty_35 : decode cX9_nextDirty 35 = .ok (.if_icmp .ge 7, 3) := by decide +kernel
theorem dX9_nextDirty_38 : decode cX9_nextDirty 38 = .ok (.iload_n 2, 1) := by decide +kernel
theorem dX9_nextDirty_39 : decode cX9_nextDirty 39 = .ok (.goto 4, 3) := by decide +kernel
theorem dX9_nextDirty_42 : decode cX9_nextDirty 42 = .ok (.iload_n 1, 1) := by decide +kernel
theorem dX9_nextDirty_43 : decode cX9_nextDirty 43 = .ok (.istore_n 1, 1) := by decide +kernel
theorem dX9_nextDirty_44 : decode cX9_nextDirty 44 = .ok (.iinc 2 1, 3) := by decide +kernel
theorem dX9_nextDirty_47 : decode cX9_nextDirty 47 = .ok (.goto (-43), 3) := by decide +kernel
theorem dX9_nextDirty_50 : decode cX9_nextDirty 50 = .ok (.iload_n 1, 1) := by decide +kernel
theorem dX9_nextDirty_51 : decode cX9_nextDirty 51 = .ok (.ireturn, 1) := by decide +kernel
theorem dX9_worksOut_0 : decode cX9_worksOut 0 = .ok (.aload_n 0, 1) := by decide +kernel
theorem dX9_worksOut_1 : decode cX9_worksOut 1 = .ok (.invokevirtual 205, 3) := by decide +kernel
theorem dX9_worksOut_4 : decode cX9_worksOut 4 = .ok (.istore_n 1, 1) := by decide +kernel
theorem dX9_worksOut_5 : decode cX9_worksOut 5 = .ok (.iload_n 1, 1) := by decide +kernel
theorem dX9_worksOut_6 : decode cX9_worksOut 6 = .ok (.ifCond .lt 38, 3) := by decide +kernel
theorem dX9_worksOut_9 : decode cX9_worksOut 9 = .ok (.aload_n 0, 1) := by decide +kernel
theorem dX9_worksOut_10 : decode cX9_worksOut 10 = .ok (.getfield 74, 3) := by decide +kernel
theorem dX9_worksOut_13 : decode cX9_worksOut 13 = .ok (.iload_n 1, 1) := by decide +kernel
theorem dX9_worksOut_14 : decode cX9_worksOut 14 = .ok (.iconst 0, 1) := by decide +kernel
theorem dX9_worksOut_15 : decode cX9_worksOut 15 = .ok (.bastore, 1) := by decide +kernel
theorem dX9_worksOut_16 : decode cX9_worksOut 16 = .ok (.aload_n 0, 1) := by decide +kernel
theorem dX9_worksOut_17 : decode cX9_worksOut 17 = .ok (.dup, 1) := by decide +kernel
theorem dX9_worksOut_18 : decode cX9_worksOut 18 = .ok (.getfield 208, 3) := by decide +kernel
theorem dX9_worksOut_21 : decode cX9_worksOut 21 = .ok (.iconst 1, 1) := by decide +kernel
theorem dX9_worksOut_22 : decode cX9_worksOut 22 = .ok (.iadd, 1) := by decide +kernel
theorem dX9_worksOut_23 : decode cX9_worksOut 23 = .ok (.putfield 208, 3) := by decide +kernel
theorem dX9_worksOut_26 : decode cX9_worksOut 26 = .ok (.aload_n 0, 1) := by decide +kernel
theorem dX9_worksOut_27 : decode cX9_worksOut 27 = .ok (.iload_n 1, 1) := by decide +kernel
theorem dX9_worksOut_28 : decode cX9_worksOut 28 = .ok (.aload_n 0, 1) := by decide +kernel
theorem dX9_worksOut_29 : decode cX9_worksOut 29 = .ok (.iload_n 1, 1) := by decide +kernel
theorem dX9_worksOut_30 : decode cX9_worksOut 30 = .ok (.invokevirtual 211, 3) := by decide +kernel
theorem dX9_worksOut_33 : decode cX9_worksOut 33 = .ok (.invokevirtual 214, 3) := by decide +kernel
theorem dX9_worksOut_36 : decode cX9_worksOut 36 = .ok (.aload_n 0, 1) := by decide +kernel
theorem dX9_worksOut_37 : decode cX9_worksOut 37 = .ok (.invokevirtual 205, 3) := by decide +kernel
theorem dX9_worksOut_40 : decode cX9_worksOut 40 = .ok (.istore_n 1, 1) := by decide +kernel
theorem dX9_worksOut_41 : decode cX9_worksOut 41 = .ok (.goto (-36), 3) := by decide +kernel
theorem dX9_worksOut_44 : decode cX9_worksOut 44 = .ok (.return_, 1) := by decide +kernel
theorem dX9_isOld_0 : decode cX9_isOld 0 = .ok (.aload_n 0, 1) := by decide +kernel
theorem dX9_isOld_1 : decode cX9_isOld 1 = .ok (.getfield 80, 3) := by decide +kernel
theorem dX9_isOld_4 : decode cX9_isOld 4 = .ok (.iload_n 1, 1) := by decide +kernel
theorem dX9_isOld_5 : decode cX9_isOld 5 = .ok (.iaload, 1) := by decide +kernel
theorem dX9_isOld_6 : decode cX9_isOld 6 = .ok (.ifCond .lt 19, 3) := by decide +kernel
theorem dX9_isOld_9 : decode cX9_isOld 9 = .ok (.aload_n 0, 1) := by decide +kernel
theorem dX9_isOld_10 : decode cX9_isOld 10 = .ok (.getfield 218, 3) := by decide +kernel
theorem dX9_isOld_13 : decode cX9_isOld 13 = .ok (.aload_n 0, 1) := by decide +kernel
theorem dX9_isOld_14 : decode cX9_isOld 14 = .ok (.getfield 80, 3) := by decide +kernel
theorem dX9_isOld_17 : decode cX9_isOld 17 = .ok (.iload_n 1, 1) := by decide +kernel
theorem dX9_isOld_18 : decode cX9_isOld 18 = .ok (.iaload, 1) := by decide +kernel
theorem dX9_isOld_19 : decode cX9_isOld 19 = .ok (.isub, 1) := by decide +kernel
theorem dX9_isOld_20 : decode cX9_isOld 20 = .ok (.bipush 10, 2) := by decide +kernel
theorem dX9_isOld_22 : decode cX9_isOld 22 = .ok (.if_icmp .le 7, 3) := by decide +kernel
theorem dX9_isOld_25 : decode cX9_isOld 25 = .ok (.iconst 1, 1) := by decide +kernel
theorem dX9_isOld_26 : decode cX9_isOld 26 = .ok (.goto 4, 3) := by decide +kernel
theorem dX9_isOld_29 : decode cX9_isOld 29 = .ok (.iconst 0, 1) := by decide +kernel
theorem dX9_isOld_30 : decode cX9_isOld 30 = .ok (.ireturn, 1) := by decide +kernel
theorem dX9_below_0 : decode cX9_below 0 = .ok (.iload_n 1, 1) := by decide +kernel
theorem dX9_below_1 : decode cX9_below 1 = .ok (.istore_n 3, 1) := by decide +kernel
theorem dX9_below_2 : decode cX9_below 2 = .ok (.iconst 0, 1) := by decide +kernel
theorem dX9_below_3 : decode cX9_below 3 = .ok (.istore 4, 2) := by decide +kernel
theorem dX9_below_5 : decode cX9_below 5 = .ok (.iload 4, 2) := by decide +kernel
theorem dX9_below_7 : decode cX9_below 7 = .ok (.bipush 12, 2) := by decide +kernel
theorem dX9_below_9 : decode cX9_below 9 = .ok (.if_icmp .ge 62, 3) := by decide +kernel
theorem dX9_below_12 : decode cX9_below 12 = .ok (.iconst 0, 1) := by decide +kernel
theorem dX9_below_13 : decode cX9_below 13 = .ok (.istore 5, 2) := by decide +kernel
theorem dX9_below_15 : decode cX9_below 15 = .ok (.iload 5, 2) := by decide +kernel
theorem dX9_below_17 : decode cX9_below 17 = .ok (.bipush 12, 2) := by decide +kernel
theorem dX9_below_19 : decode cX9_below 19 = .ok (.if_icmp .ge 46, 3) := by decide +kernel
theorem dX9_below_22 : decode cX9_below 22 = .ok (.iload_n 3, 1) := by decide +kernel
theorem dX9_below_23 : decode cX9_below 23 = .ok (.iload_n 3, 1) := by decide +kernel
theorem dX9_below_24 : decode cX9_below 24 = .ok (.iload 5, 2) := by decide +kernel
theorem dX9_below_26 : decode cX9_below 26 = .ok (.invokestatic 197, 3) := by decide +kernel
theorem dX9_below_29 : decode cX9_below 29 = .ok (.ifCond .eq 27, 3) := by decide +kernel
theorem dX9_below_32 : decode cX9_below 32 = .ok (.iload_n 2, 1) := by decide +kernel
theorem dX9_below_33 : decode cX9_below 33 = .ok (.ifCond .eq 13, 3) := by decide +kernel
theorem dX9_below_36 : decode cX9_below 36 = .ok (.aload_n 0, 1) := by decide +kernel
theorem dX9_below_37 : decode cX9_below 37 = .ok (.getfield 47, 3) := by decide +kernel
theorem dX9_below_40 : decode cX9_below 40 = .ok (.iload 5, 2) := by decide +kernel
theorem dX9_below_42 : decode cX9_below 42 = .ok (.baload, 1) := by decide +kernel
theorem dX9_below_43 : decode cX9_below 43 = .ok (.ifCond .ne 13, 3) := by decide +kernel
theorem dX9_below_46 : decode cX9_below 46 = .ok (.aload_n 0, 1) := by decide +kernel
theorem dX9_below_47 : decode cX9_below 47 = .ok (.getfield 35, 3) := by decide +kernel
theorem dX9_below_50 : decode cX9_below 50 = .ok (.iload 5, 2) := by decide +kernel
theorem dX9_below_52 : decode cX9_below 52 = .ok (.iaload, 1) := by decide +kernel
theorem dX9_below_53 : decode cX9_below 53 = .ok (.goto 4, 3) := by decide +kernel
theorem dX9_below_56 : decode cX9_below 56 = .ok (.iconst 0, 1) := by decide +kernel
theorem dX9_below_57 : decode cX9_below 57 = .ok (.ior, 1) := by decide +kernel
theorem dX9_below_58 : decode cX9_below 58 = .ok (.istore_n 3, 1) := by decide +kernel
theorem dX9_below_59 : decode cX9_below 59 = .ok (.iinc 5 1, 3) := by decide +kernel
theorem dX9_below_62 : decode cX9_below 62 = .ok (.goto (-47), 3) := by decide +kernel
theorem dX9_below_65 : decode cX9_below 65 = .ok (.iinc 4 1, 3) := by decide +kernel
theorem dX9_below_68 : decode cX9_below 68 = .ok (.goto (-63), 3) := by decide +kernel
theorem dX9_below_71 : decode cX9_below 71 = .ok (.iload_n 3, 1) := by decide +kernel
theorem dX9_below_72 : decode cX9_below 72 = .ok (.ireturn, 1) := by decide +kernel
theorem dX9_stale_0 : decode cX9_stale 0 = .ok (.aload_n 0, 1) := by decide +kernel
theorem dX9_stale_1 : decode cX9_stale 1 = .ok (.iconst 1, 1) := by decide +kernel
theorem dX9_stale_2 : decode cX9_stale 2 = .ok (.iload_n 1, 1) := by decide +kernel
theorem dX9_stale_3 : decode cX9_stale 3 = .ok (.ishl, 1) := by decide +kernel
theorem dX9_stale_4 : decode cX9_stale 4 = .ok (.iconst 1, 1) := by decide +kernel
theorem dX9_stale_5 : decode cX9_stale 5 = .ok (.invokevirtual 221, 3) := by decide +kernel
theorem dX9_stale_8 : decode cX9_stale 8 = .ok (.istore_n 2, 1) := by decide +kernel
theorem dX9_stale_9 : decode cX9_stale 9 = .ok (.iconst 0, 1) := by decide +kernel
theorem dX9_stale_10 : decode cX9_stale 10 = .ok (.istore_n 3, 1) := by decide +kernel
theorem dX9_stale_11 : decode cX9_stale 11 = .ok (.iconst 0, 1) := by decide +kernel
theorem dX9_stale_12 : decode cX9_stale 12 = .ok (.istore 4, 2) := by decide +kernel
theorem dX9_stale_14 : decode cX9_stale 14 = .ok (.iload 4, 2) := by decide +kernel
theorem dX9_stale_16 : decode cX9_stale 16 = .ok (.bipush 12, 2) := by decide +kernel
theorem dX9_stale_18 : decode cX9_stale 18 = .ok (.if_icmp .ge 77, 3) := by decide +kernel
theorem dX9_stale_21 : decode cX9_stale 21 = .ok (.iconst 0, 1) := by decide +kernel
theorem dX9_stale_22 : decode cX9_stale 22 = .ok (.istore 5, 2) := by decide +kernel
theorem dX9_stale_24 : decode cX9_stale 24 = .ok (.iload 5, 2) := by decide +kernel
theorem dX9_stale_26 : decode cX9_stale 26 = .ok (.iconst 5, 1) := by decide +kernel
theorem dX9_stale_27 : decode cX9_stale 27 = .ok (.if_icmp .ge 62, 3) := by decide +kernel
theorem dX9_stale_30 : decode cX9_stale 30 = .ok (.iload_n 3, 1) := by decide +kernel
theorem dX9_stale_31 : decode cX9_stale 31 = .ok (.ifCond .ne 46, 3) := by decide +kernel
theorem dX9_stale_34 : decode cX9_stale 34 = .ok (.iload_n 2, 1) := by decide +kernel
theorem dX9_stale_35 : decode cX9_stale 35 = .ok (.iload 4, 2) := by decide +kernel
theorem dX9_stale_37 : decode cX9_stale 37 = .ok (.invokestatic 197, 3) := by decide +kernel
theorem dX9_stale_40 : decode cX9_stale 40 = .ok (.ifCond .eq 41, 3) := by decide +kernel
theorem dX9_stale_43 : decode cX9_stale 43 = .ok (.aload_n 0, 1) := by decide +kernel
theorem dX9_stale_44 : decode cX9_stale 44 = .ok (.getfield 47, 3) := by decide +kernel
theorem dX9_stale_47 : decode cX9_stale 47 = .ok (.iload 4, 2) := by decide +kernel
theorem dX9_stale_49 : decode cX9_stale 49 = .ok (.baload, 1) := by decide +kernel
theorem dX9_stale_50 : decode cX9_stale 50 = .ok (.ifCond .ne 31, 3) := by decide +kernel
theorem dX9_stale_53 : decode cX9_stale 53 = .ok (.aload_n 0, 1) := by decide +kernel
theorem dX9_stale_54 : decode cX9_stale 54 = .ok (.getfield 38, 3) := by decide +kernel
theorem dX9_stale_57 : decode cX9_stale 57 = .ok (.iload 4, 2) := by decide +kernel
theorem dX9_stale_59 : decode cX9_stale 59 = .ok (.iaload, 1) := by decide +kernel
theorem dX9_stale_60 : decode cX9_stale 60 = .ok (.iload 5, 2) := by decide +kernel
theorem dX9_stale_62 : decode cX9_stale 62 = .ok (.invokestatic 197, 3) := by decide +kernel
theorem dX9_stale_65 : decode cX9_stale 65 = .ok (.ifCond .eq 16, 3) := by decide +kernel
theorem dX9_stale_68 : decode cX9_stale 68 = .ok (.aload_n 0, 1) := by decide +kernel
theorem dX9_stale_69 : decode cX9_stale 69 = .ok (.iload 5, 2) := by decide +kernel
theorem dX9_stale_71 : decode cX9_stale 71 = .ok (.invokevirtual 225, 3) := by decide +kernel
theorem dX9_stale_74 : decode cX9_stale 74 = .ok (.ifCond .eq 7, 3) := by decide +kernel
theorem dX9_stale_77 : decode cX9_stale 77 = .ok (.iconst 1, 1) := by decide +kernel
theorem dX9_stale_78 : decode cX9_stale 78 = .ok (.goto 4, 3) := by decide +kernel
theorem dX9_stale_81 : decode cX9_stale 81 = .ok (.iconst 0, 1) := by decide +kernel
theorem dX9_stale_82 : decode cX9_stale 82 = .ok (.istore_n 3, 1) := by decide +kernel
theorem dX9_stale_83 : decode cX9_stale 83 = .ok (.iinc 5 1, 3) := by decide +kernel
theorem dX9_stale_86 : decode cX9_stale 86 = .ok (.goto (-62), 3) := by decide +kernel
theorem dX9_stale_89 : decode cX9_stale 89 = .ok (.iinc 4 1, 3) := by decide +kernel
theorem dX9_stale_92 : decode cX9_stale 92 = .ok (.goto (-78), 3) := by decide +kernel
theorem dX9_stale_95 : decode cX9_stale 95 = .ok (.iload_n 3, 1) := by decide +kernel
theorem dX9_stale_96 : decode cX9_stale 96 = .ok (.ireturn, 1) := by decide +kernel
theorem dX9_isWanted_0 : decode cX9_isWanted 0 = .ok (.aload_n 0, 1) := by decide +kernel
theorem dX9_isWanted_1 : decode cX9_isWanted 1 = .ok (.getfield 53, 3) := by decide +kernel
theorem dX9_isWanted_4 : decode cX9_isWanted 4 = .ok (.iload_n 1, 1) := by decide +kernel
theorem dX9_isWanted_5 : decode cX9_isWanted 5 = .ok (.iaload, 1) := by decide +kernel
theorem dX9_isWanted_6 : decode cX9_isWanted 6 = .ok (.ifCond .lt 21, 3) := by decide +kernel
theorem dX9_isWanted_9 : decode cX9_isWanted 9 = .ok (.aload_n 0, 1) := by decide +kernel
theorem dX9_isWanted_10 : decode cX9_isWanted 10 = .ok (.getfield 71, 3) := by decide +kernel
theorem dX9_isWanted_13 : decode cX9_isWanted 13 = .ok (.aload_n 0, 1) := by decide +kernel
theorem dX9_isWanted_14 : decode cX9_isWanted 14 = .ok (.getfield 53, 3) := by decide +kernel
theorem dX9_isWanted_17 : decode cX9_isWanted 17 = .ok (.iload_n 1, 1) := by decide +kernel
theorem dX9_isWanted_18 : decode cX9_isWanted 18 = .ok (.iaload, 1) := by decide +kernel
theorem dX9_isWanted_19 : decode cX9_isWanted 19 = .ok (.iaload, 1) := by decide +kernel
theorem dX9_isWanted_20 : decode cX9_isWanted 20 = .ok (.ifCond .le 7, 3) := by decide +kernel
theorem dX9_isWanted_23 : decode cX9_isWanted 23 = .ok (.iconst 1, 1) := by decide +kernel
theorem dX9_isWanted_24 : decode cX9_isWanted 24 = .ok (.goto 4, 3) := by decide +kernel
theorem dX9_isWanted_27 : decode cX9_isWanted 27 = .ok (.iconst 0, 1) := by decide +kernel
theorem dX9_isWanted_28 : decode cX9_isWanted 28 = .ok (.istore_n 2, 1) := by decide +kernel
theorem dX9_isWanted_29 : decode cX9_isWanted 29 = .ok (.iconst 0, 1) := by decide +kernel
theorem dX9_isWanted_30 : decode cX9_isWanted 30 = .ok (.istore_n 3, 1) := by decide +kernel
theorem dX9_isWanted_31 : decode cX9_isWanted 31 = .ok (.iload_n 3, 1) := by decide +kernel
theorem dX9_isWanted_32 : decode cX9_isWanted 32 = .ok (.iconst 5, 1) := by decide +kernel
theorem dX9_isWanted_33 : decode cX9_isWanted 33 = .ok (.if_icmp .ge 42, 3) := by decide +kernel
theorem dX9_isWanted_36 : decode cX9_isWanted 36 = .ok (.iload_n 2, 1) := by decide +kernel
theorem dX9_isWanted_37 : decode cX9_isWanted 37 = .ok (.ifCond .eq 38, 3) := by decide +kernel
theorem dX9_isWanted_40 : decode cX9_isWanted 40 = .ok (.aload_n 0, 1) := by decide +kernel
theorem dX9_isWanted_41 : decode cX9_isWanted 41 = .ok (.getfield 59, 3) := by decide +kernel
theorem dX9_isWanted_44 : decode cX9_isWanted 44 = .ok (.iload_n 1, 1) := by decide +kernel
theorem dX9_isWanted_45 : decode cX9_isWanted 45 = .ok (.iaload, 1) := by decide +kernel
theorem dX9_isWanted_46 : decode cX9_isWanted 46 = .ok (.iload_n 3, 1) := by decide +kernel
theorem dX9_isWanted_47 : decode cX9_isWanted 47 = .ok (.invokestatic 197, 3) := by decide +kernel
theorem dX9_isWanted_50 : decode cX9_isWanted 50 = .ok (.ifCond .eq 13, 3) := by decide +kernel
theorem dX9_isWanted_53 : decode cX9_isWanted 53 = .ok (.aload_n 0, 1) := by decide +kernel
theorem dX9_isWanted_54 : decode cX9_isWanted 54 = .ok (.getfield 83, 3) := by decide +kernel
theorem dX9_isWanted_57 : decode cX9_isWanted 57 = .ok (.iload_n 3, 1) := by decide +kernel
theorem dX9_isWanted_58 : decode cX9_isWanted 58 = .ok (.iaload, 1) := by decide +kernel
theorem dX9_isWanted_59 : decode cX9_isWanted 59 = .ok (.iconst 2, 1) := by decide +kernel
theorem dX9_isWanted_60 : decode cX9_isWanted 60 = .ok (.if_icmp .ne 7, 3) := by decide +kernel
theorem dX9_isWanted_63 : decode cX9_isWanted 63 = .ok (.iconst 1, 1) := by decide +kernel
theorem dX9_isWanted_64 : decode cX9_isWanted 64 = .ok (.goto 4, 3) := by decide +kernel
theorem dX9_isWanted_67 : decode cX9_isWanted 67 = .ok (.iconst 0, 1) := by decide +kernel
theorem dX9_isWanted_68 : decode cX9_isWanted 68 = .ok (.istore_n 2, 1) := by decide +kernel
theorem dX9_isWanted_69 : decode cX9_isWanted 69 = .ok (.iinc 3 1, 3) := by decide +kernel
theorem dX9_isWanted_72 : decode cX9_isWanted 72 = .ok (.goto (-41), 3) := by decide +kernel
theorem dX9_isWanted_75 : decode cX9_isWanted 75 = .ok (.iload_n 2, 1) := by decide +kernel
theorem dX9_isWanted_76 : decode cX9_isWanted 76 = .ok (.ireturn, 1) := by decide +kernel
theorem dX9_runs_0 : decode cX9_runs 0 = .ok (.aload_n 0, 1) := by decide +kernel
theorem dX9_runs_1 : decode cX9_runs 1 = .ok (.getfield 83, 3) := by decide +kernel
theorem dX9_runs_4 : decode cX9_runs 4 = .ok (.iload_n 1, 1) := by decide +kernel
theorem dX9_runs_5 : decode cX9_runs 5 = .ok (.iconst 2, 1) := by decide +kernel
theorem dX9_runs_6 : decode cX9_runs 6 = .ok (.iastore, 1) := by decide +kernel
theorem dX9_runs_7 : decode cX9_runs 7 = .ok (.aload_n 0, 1) := by decide +kernel
theorem dX9_runs_8 : decode cX9_runs 8 = .ok (.getfield 98, 3) := by decide +kernel
theorem dX9_runs_11 : decode cX9_runs 11 = .ok (.iload_n 1, 1) := by decide +kernel
theorem dX9_runs_12 : decode cX9_runs 12 = .ok (.dup2, 1) := by decide +kernel
theorem dX9_runs_13 : decode cX9_runs 13 = .ok (.iaload, 1) := by decide +kernel
theorem dX9_runs_14 : decode cX9_runs 14 = .ok (.iconst 1, 1) := by decide +kernel
theorem dX9_runs_15 : decode cX9_runs 15 = .ok (.iadd, 1) := by decide +kernel
theorem dX9_runs_16 : decode cX9_runs 16 = .ok (.iastore, 1) := by decide +kernel
theorem dX9_runs_17 : decode cX9_runs 17 = .ok (.return_, 1) := by decide +kernel
theorem dX9_changes_0 : decode cX9_changes 0 = .ok (.aload_n 0, 1) := by decide +kernel
theorem dX9_changes_1 : decode cX9_changes 1 = .ok (.iload_n 1, 1) := by decide +kernel
theorem dX9_changes_2 : decode cX9_changes 2 = .ok (.invokevirtual 228, 3) := by decide +kernel
theorem dX9_changes_5 : decode cX9_changes 5 = .ok (.ifCond .ne 13, 3) := by decide +kernel
theorem dX9_changes_8 : decode cX9_changes 8 = .ok (.aload_n 0, 1) := by decide +kernel
theorem dX9_changes_9 : decode cX9_changes 9 = .ok (.getfield 83, 3) := by decide +kernel
theorem dX9_changes_12 : decode cX9_changes 12 = .ok (.iload_n 1, 1) := by decide +kernel
theorem dX9_changes_13 : decode cX9_changes 13 = .ok (.iconst 0, 1) := by decide +kernel
theorem dX9_changes_14 : decode cX9_changes 14 = .ok (.iastore, 1) := by decide +kernel
theorem dX9_changes_15 : decode cX9_changes 15 = .ok (.goto 106, 3) := by decide +kernel
theorem dX9_changes_18 : decode cX9_changes 18 = .ok (.aload_n 0, 1) := by decide +kernel
theorem dX9_changes_19 : decode cX9_changes 19 = .ok (.getfield 83, 3) := by decide +kernel
theorem dX9_changes_22 : decode cX9_changes 22 = .ok (.iload_n 1, 1) := by decide +kernel
theorem dX9_changes_23 : decode cX9_changes 23 = .ok (.iaload, 1) := by decide +kernel
theorem dX9_changes_24 : decode cX9_changes 24 = .ok (.ifCond .ne 62, 3) := by decide +kernel
theorem dX9_changes_27 : decode cX9_changes 27 = .ok (.aload_n 0, 1) := by decide +kernel
theorem dX9_changes_28 : decode cX9_changes 28 = .ok (.aload_n 0, 1) := by decide +kernel
theorem dX9_changes_29 : decode cX9_changes 29 = .ok (.getfield 53, 3) := by decide +kernel
theorem dX9_changes_32 : decode cX9_changes 32 = .ok (.iload_n 1, 1) := by decide +kernel
theorem dX9_changes_33 : decode cX9_changes 33 = .ok (.iaload, 1) := by decide +kernel
theorem dX9_changes_34 : decode cX9_changes 34 = .ok (.invokevirtual 231, 3) := by decide +kernel
theorem dX9_changes_37 : decode cX9_changes 37 = .ok (.ifCond .ne 49, 3) := by decide +kernel
theorem dX9_changes_40 : decode cX9_changes 40 = .ok (.aload_n 0, 1) := by decide +kernel
theorem dX9_changes_41 : decode cX9_changes 41 = .ok (.getfield 86, 3) := by decide +kernel
theorem dX9_changes_44 : decode cX9_changes 44 = .ok (.iload_n 1, 1) := by decide +kernel
theorem dX9_changes_45 : decode cX9_changes 45 = .ok (.aload_n 0, 1) := by decide +kernel
theorem dX9_changes_46 : decode cX9_changes 46 = .ok (.getfield 218, 3) := by decide +kernel
theorem dX9_changes_49 : decode cX9_changes 49 = .ok (.iastore, 1) := by decide +kernel
theorem dX9_changes_50 : decode cX9_changes 50 = .ok (.aload_n 0, 1) := by decide +kernel
theorem dX9_changes_51 : decode cX9_changes 51 = .ok (.getfield 89, 3) := by decide +kernel
theorem dX9_changes_54 : decode cX9_changes 54 = .ok (.iload_n 1, 1) := by decide +kernel
theorem dX9_changes_55 : decode cX9_changes 55 = .ok (.aload_n 0, 1) := by decide +kernel
theorem dX9_changes_56 : decode cX9_changes 56 = .ok (.getfield 65, 3) := by decide +kernel
theorem dX9_changes_59 : decode cX9_changes 59 = .ok (.iload_n 1, 1) := by decide +kernel
theorem dX9_changes_60 : decode cX9_changes 60 = .ok (.iaload, 1) := by decide +kernel
theorem dX9_changes_61 : decode cX9_changes 61 = .ok (.iastore, 1) := by decide +kernel
theorem dX9_changes_62 : decode cX9_changes 62 = .ok (.aload_n 0, 1) := by decide +kernel
theorem dX9_changes_63 : decode cX9_changes 63 = .ok (.getfield 83, 3) := by decide +kernel
theorem dX9_changes_66 : decode cX9_changes 66 = .ok (.iload_n 1, 1) := by decide +kernel
theorem dX9_changes_67 : decode cX9_changes 67 = .ok (.iconst 1, 1) := by decide +kernel
theorem dX9_changes_68 : decode cX9_changes 68 = .ok (.iastore, 1) := by decide +kernel
theorem dX9_changes_69 : decode cX9_changes 69 = .ok (.aload_n 0, 1) := by decide +kernel
theorem dX9_changes_70 : decode cX9_changes 70 = .ok (.getfield 65, 3) := by decide +kernel
theorem dX9_changes_73 : decode cX9_changes 73 = .ok (.iload_n 1, 1) := by decide +kernel
theorem dX9_changes_74 : decode cX9_changes 74 = .ok (.iaload, 1) := by decide +kernel
theorem dX9_changes_75 : decode cX9_changes 75 = .ok (.ifCond .ne 46, 3) := by decide +kernel
theorem dX9_changes_78 : decode cX9_changes 78 = .ok (.aload_n 0, 1) := by decide +kernel
theorem dX9_changes_79 : decode cX9_changes 79 = .ok (.iload_n 1, 1) := by decide +kernel
theorem dX9_changes_80 : decode cX9_changes 80 = .ok (.invokevirtual 234, 3) := by decide +kernel
theorem dX9_changes_83 : decode cX9_changes 83 = .ok (.goto 38, 3) := by decide +kernel
theorem dX9_changes_86 : decode cX9_changes 86 = .ok (.aload_n 0, 1) := by decide +kernel
theorem dX9_changes_87 : decode cX9_changes 87 = .ok (.getfield 83, 3) := by decide +kernel
theorem dX9_changes_90 : decode cX9_changes 90 = .ok (.iload_n 1, 1) := by decide +kernel
theorem dX9_changes_91 : decode cX9_changes 91 = .ok (.iaload, 1) := by decide +kernel
theorem dX9_changes_92 : decode cX9_changes 92 = .ok (.iconst 1, 1) := by decide +kernel
theorem dX9_changes_93 : decode cX9_changes 93 = .ok (.if_icmp .ne 28, 3) := by decide +kernel
theorem dX9_changes_96 : decode cX9_changes 96 = .ok (.aload_n 0, 1) := by decide +kernel
theorem dX9_changes_97 : decode cX9_changes 97 = .ok (.getfield 218, 3) := by decide +kernel
theorem dX9_changes_100 : decode cX9_changes 100 = .ok (.aload_n 0, 1) := by decide +kernel
theorem dX9_changes_101 : decode cX9_changes 101 = .ok (.getfield 86, 3) := by decide +kernel
theorem dX9_changes_104 : decode cX9_changes 104 = .ok (.iload_n 1, 1) := by decide +kernel
theorem dX9_changes_105 : decode cX9_changes 105 = .ok (.iaload, 1) := by decide +kernel
theorem dX9_changes_106 : decode cX9_changes 106 = .ok (.isub, 1) := by decide +kernel
theorem dX9_changes_107 : decode cX9_changes 107 = .ok (.aload_n 0, 1) := by decide +kernel
theorem dX9_changes_108 : decode cX9_changes 108 = .ok (.getfield 89, 3) := by decide +kernel
theorem dX9_changes_111 : decode cX9_changes 111 = .ok (.iload_n 1, 1) := by decide +kernel
theorem dX9_changes_112 : decode cX9_changes 112 = .ok (.iaload, 1) := by decide +kernel
theorem dX9_changes_113 : decode cX9_changes 113 = .ok (.if_icmp .lt 8, 3) := by decide +kernel
theorem dX9_changes_116 : decode cX9_changes 116 = .ok (.aload_n 0, 1) := by decide +kernel
theorem dX9_changes_117 : decode cX9_changes 117 = .ok (.iload_n 1, 1) := by decide +kernel
theorem dX9_changes_118 : decode cX9_changes 118 = .ok (.invokevirtual 234, 3) := by decide +kernel
theorem dX9_changes_121 : decode cX9_changes 121 = .ok (.return_, 1) := by decide +kernel
theorem dX9_loadOf_0 : decode cX9_loadOf 0 = .ok (.aload_n 0, 1) := by decide +kernel
theorem dX9_loadOf_1 : decode cX9_loadOf 1 = .ok (.getfield 56, 3) := by decide +kernel
theorem dX9_loadOf_4 : decode cX9_loadOf 4 = .ok (.iload_n 1, 1) := by decide +kernel
theorem dX9_loadOf_5 : decode cX9_loadOf 5 = .ok (.iaload, 1) := by decide +kernel
theorem dX9_loadOf_6 : decode cX9_loadOf 6 = .ok (.ifCond .ge 12, 3) := by decide +kernel
theorem dX9_loadOf_9 : decode cX9_loadOf 9 = .ok (.aload_n 0, 1) := by decide +kernel
theorem dX9_loadOf_10 : decode cX9_loadOf 10 = .ok (.getfield 62, 3) := by decide +kernel
theorem dX9_loadOf_13 : decode cX9_loadOf 13 = .ok (.iload_n 1, 1) := by decide +kernel
theorem dX9_loadOf_14 : decode cX9_loadOf 14 = .ok (.iaload, 1) := by decide +kernel
theorem dX9_loadOf_15 : decode cX9_loadOf 15 = .ok (.goto 14, 3) := by decide +kernel
theorem dX9_loadOf_18 : decode cX9_loadOf 18 = .ok (.aload_n 0, 1) := by decide +kernel
theorem dX9_loadOf_19 : decode cX9_loadOf 19 = .ok (.getfield 71, 3) := by decide +kernel
theorem dX9_loadOf_22 : decode cX9_loadOf 22 = .ok (.aload_n 0, 1) := by decide +kernel
theorem dX9_loadOf_23 : decode cX9_loadOf 23 = .ok (.getfield 56, 3) := by decide +kernel
theorem dX9_loadOf_26 : decode cX9_loadOf 26 = .ok (.iload_n 1, 1) := by decide +kernel
theorem dX9_loadOf_27 : decode cX9_loadOf 27 = .ok (.iaload, 1) := by decide +kernel
theorem dX9_loadOf_28 : decode cX9_loadOf 28 = .ok (.iaload, 1) := by decide +kernel
theorem dX9_loadOf_29 : decode cX9_loadOf 29 = .ok (.istore_n 2, 1) := by decide +kernel
theorem dX9_loadOf_30 : decode cX9_loadOf 30 = .ok (.iload_n 2, 1) := by decide +kernel
theorem dX9_loadOf_31 : decode cX9_loadOf 31 = .ok (.aload_n 0, 1) := by decide +kernel
theorem dX9_loadOf_32 : decode cX9_loadOf 32 = .ok (.getfield 62, 3) := by decide +kernel
theorem dX9_loadOf_35 : decode cX9_loadOf 35 = .ok (.iload_n 1, 1) := by decide +kernel
theorem dX9_loadOf_36 : decode cX9_loadOf 36 = .ok (.iaload, 1) := by decide +kernel
theorem dX9_loadOf_37 : decode cX9_loadOf 37 = .ok (.if_icmp .ge 7, 3) := by decide +kernel
theorem dX9_loadOf_40 : decode cX9_loadOf 40 = .ok (.iload_n 2, 1) := by decide +kernel
theorem dX9_loadOf_41 : decode cX9_loadOf 41 = .ok (.goto 9, 3) := by decide +kernel
theorem dX9_loadOf_44 : decode cX9_loadOf 44 = .ok (.aload_n 0, 1) := by decide +kernel
theorem dX9_loadOf_45 : decode cX9_loadOf 45 = .ok (.getfield 62, 3) := by decide +kernel
theorem dX9_loadOf_48 : decode cX9_loadOf 48 = .ok (.iload_n 1, 1) := by decide +kernel
theorem dX9_loadOf_49 : decode cX9_loadOf 49 = .ok (.iaload, 1) := by decide +kernel
theorem dX9_loadOf_50 : decode cX9_loadOf 50 = .ok (.istore_n 2, 1) := by decide +kernel
theorem dX9_loadOf_51 : decode cX9_loadOf 51 = .ok (.aload_n 0, 1) := by decide +kernel
theorem dX9_loadOf_52 : decode cX9_loadOf 52 = .ok (.getfield 83, 3) := by decide +kernel
theorem dX9_loadOf_55 : decode cX9_loadOf 55 = .ok (.iload_n 1, 1) := by decide +kernel
theorem dX9_loadOf_56 : decode cX9_loadOf 56 = .ok (.iaload, 1) := by decide +kernel
theorem dX9_loadOf_57 : decode cX9_loadOf 57 = .ok (.iconst 2, 1) := by decide +kernel
theorem dX9_loadOf_58 : decode cX9_loadOf 58 = .ok (.if_icmp .ne 7, 3) := by decide +kernel
theorem dX9_loadOf_61 : decode cX9_loadOf 61 = .ok (.iload_n 2, 1) := by decide +kernel
theorem dX9_loadOf_62 : decode cX9_loadOf 62 = .ok (.ifCond .ge 7, 3) := by decide +kernel
theorem dX9_loadOf_65 : decode cX9_loadOf 65 = .ok (.iconst 0, 1) := by decide +kernel
theorem dX9_loadOf_66 : decode cX9_loadOf 66 = .ok (.goto 4, 3) := by decide +kernel
theorem dX9_loadOf_69 : decode cX9_loadOf 69 = .ok (.iload_n 2, 1) := by decide +kernel
theorem dX9_loadOf_70 : decode cX9_loadOf 70 = .ok (.ireturn, 1) := by decide +kernel
theorem dX9_round_0 : decode cX9_round 0 = .ok (.aload_n 0, 1) := by decide +kernel
theorem dX9_round_1 : decode cX9_round 1 = .ok (.invokevirtual 237, 3) := by decide +kernel
theorem dX9_round_4 : decode cX9_round 4 = .ok (.iconst 0, 1) := by decide +kernel
theorem dX9_round_5 : decode cX9_round 5 = .ok (.istore_n 1, 1) := by decide +kernel
theorem dX9_round_6 : decode cX9_round 6 = .ok (.iconst 0, 1) := by decide +kernel
theorem dX9_round_7 : decode cX9_round 7 = .ok (.istore_n 2, 1) := by decide +kernel
theorem dX9_round_8 : decode cX9_round 8 = .ok (.iload_n 2, 1) := by decide +kernel
theorem dX9_round_9 : decode cX9_round 9 = .ok (.iconst 5, 1) := by decide +kernel
theorem dX9_round_10 : decode cX9_round 10 = .ok (.if_icmp .ge 139, 3) := by decide +kernel
theorem dX9_round_13 : decode cX9_round 13 = .ok (.aload_n 0, 1) := by decide +kernel
theorem dX9_round_14 : decode cX9_round 14 = .ok (.getfield 83, 3) := by decide +kernel
theorem dX9_round_17 : decode cX9_round 17 = .ok (.iload_n 2, 1) := by decide +kernel
theorem dX9_round_18 : decode cX9_round 18 = .ok (.iaload, 1) := by decide +kernel
theorem dX9_round_19 : decode cX9_round 19 = .ok (.istore_n 3, 1) := by decide +kernel
theorem dX9_round_20 : decode cX9_round 20 = .ok (.aload_n 0, 1) := by decide +kernel
theorem dX9_round_21 : decode cX9_round 21 = .ok (.getfield 92, 3) := by decide +kernel
theorem dX9_round_24 : decode cX9_round 24 = .ok (.iload_n 2, 1) := by decide +kernel
theorem dX9_round_25 : decode cX9_round 25 = .ok (.iaload, 1) := by decide +kernel
theorem dX9_round_26 : decode cX9_round 26 = .ok (.istore 4, 2) := by decide +kernel
theorem dX9_round_28 : decode cX9_round 28 = .ok (.aload_n 0, 1) := by decide +kernel
theorem dX9_round_29 : decode cX9_round 29 = .ok (.getfield 95, 3) := by decide +kernel
theorem dX9_round_32 : decode cX9_round 32 = .ok (.iload_n 2, 1) := by decide +kernel
theorem dX9_round_33 : decode cX9_round 33 = .ok (.iaload, 1) := by decide +kernel
theorem dX9_round_34 : decode cX9_round 34 = .ok (.istore 5, 2) := by decide +kernel
theorem dX9_round_36 : decode cX9_round 36 = .ok (.aload_n 0, 1) := by decide +kernel
theorem dX9_round_37 : decode cX9_round 37 = .ok (.getfield 83, 3) := by decide +kernel
theorem dX9_round_40 : decode cX9_round 40 = .ok (.iload_n 2, 1) := by decide +kernel
theorem dX9_round_41 : decode cX9_round 41 = .ok (.iaload, 1) := by decide +kernel
theorem dX9_round_42 : decode cX9_round 42 = .ok (.iconst 3, 1) := by decide +kernel
theorem dX9_round_43 : decode cX9_round 43 = .ok (.if_icmp .eq 8, 3) := by decide +kernel
theorem dX9_round_46 : decode cX9_round 46 = .ok (.aload_n 0, 1) := by decide +kernel
theorem dX9_round_47 : decode cX9_round 47 = .ok (.iload_n 2, 1) := by decide +kernel
theorem dX9_round_48 : decode cX9_round 48 = .ok (.invokevirtual 240, 3) := by decide +kernel
theorem dX9_round_51 : decode cX9_round 51 = .ok (.aload_n 0, 1) := by decide +kernel
theorem dX9_round_52 : decode cX9_round 52 = .ok (.getfield 92, 3) := by decide +kernel
theorem dX9_round_55 : decode cX9_round 55 = .ok (.iload_n 2, 1) := by decide +kernel
theorem dX9_round_56 : decode cX9_round 56 = .ok (.aload_n 0, 1) := by decide +kernel
theorem dX9_round_57 : decode cX9_round 57 = .ok (.iload_n 2, 1) := by decide +kernel
theorem dX9_round_58 : decode cX9_round 58 = .ok (.invokevirtual 243, 3) := by decide +kernel
theorem dX9_round_61 : decode cX9_round 61 = .ok (.iastore, 1) := by decide +kernel
theorem dX9_round_62 : decode cX9_round 62 = .ok (.aload_n 0, 1) := by decide +kernel
theorem dX9_round_63 : decode cX9_round 63 = .ok (.iload_n 2, 1) := by decide +kernel
theorem dX9_round_64 : decode cX9_round 64 = .ok (.aload_n 0, 1) := by decide +kernel
theorem dX9_round_65 : decode cX9_round 65 = .ok (.getfield 68, 3) := by decide +kernel
theorem dX9_round_68 : decode cX9_round 68 = .ok (.iload_n 2, 1) := by decide +kernel
theorem dX9_round_69 : decode cX9_round 69 = .ok (.iaload, 1) := by decide +kernel
theorem dX9_round_70 : decode cX9_round 70 = .ok (.ifCond .lt 22, 3) := by decide +kernel
theorem dX9_round_73 : decode cX9_round 73 = .ok (.aload_n 0, 1) := by decide +kernel
theorem dX9_round_74 : decode cX9_round 74 = .ok (.getfield 83, 3) := by decide +kernel
theorem dX9_round_77 : decode cX9_round 77 = .ok (.iload_n 2, 1) := by decide +kernel
theorem dX9_round_78 : decode cX9_round 78 = .ok (.iaload, 1) := by decide +kernel
theorem dX9_round_79 : decode cX9_round 79 = .ok (.iconst 2, 1) := by decide +kernel
theorem dX9_round_80 : decode cX9_round 80 = .ok (.if_icmp .ne 12, 3) := by decide +kernel
theorem dX9_round_83 : decode cX9_round 83 = .ok (.aload_n 0, 1) := by decide +kernel
theorem dX9_round_84 : decode cX9_round 84 = .ok (.getfield 68, 3) := by decide +kernel
theorem dX9_round_87 : decode cX9_round 87 = .ok (.iload_n 2, 1) := by decide +kernel
theorem dX9_round_88 : decode cX9_round 88 = .ok (.iaload, 1) := by decide +kernel
theorem dX9_round_89 : decode cX9_round 89 = .ok (.goto 9, 3) := by decide +kernel
theorem dX9_round_92 : decode cX9_round 92 = .ok (.aload_n 0, 1) := by decide +kernel
theorem dX9_round_93 : decode cX9_round 93 = .ok (.getfield 92, 3) := by decide +kernel
theorem dX9_round_96 : decode cX9_round 96 = .ok (.iload_n 2, 1) := by decide +kernel
theorem dX9_round_97 : decode cX9_round 97 = .ok (.iaload, 1) := by decide +kernel
theorem dX9_round_98 : decode cX9_round 98 = .ok (.invokevirtual 246, 3) := by decide +kernel
theorem dX9_round_101 : decode cX9_round 101 = .ok (.iload_n 1, 1) := by decide +kernel
theorem dX9_round_102 : decode cX9_round 102 = .ok (.aload_n 0, 1) := by decide +kernel
theorem dX9_round_103 : decode cX9_round 103 = .ok (.getfield 83, 3) := by decide +kernel
theorem dX9_round_106 : decode cX9_round 106 = .ok (.iload_n 2, 1) := by decide +kernel
theorem dX9_round_107 : decode cX9_round 107 = .ok (.iaload, 1) := by decide +kernel
theorem dX9_round_108 : decode cX9_round 108 = .ok (.iload_n 3, 1) := by decide +kernel
theorem dX9_round_109 : decode cX9_round 109 = .ok (.if_icmp .ne 25, 3) := by decide +kernel
theorem dX9_round_112 : decode cX9_round 112 = .ok (.aload_n 0, 1) := by decide +kernel
theorem dX9_round_113 : decode cX9_round 113 = .ok (.getfield 92, 3) := by decide +kernel
theorem dX9_round_116 : decode cX9_round 116 = .ok (.iload_n 2, 1) := by decide +kernel
theorem dX9_round_117 : decode cX9_round 117 = .ok (.iaload, 1) := by decide +kernel
theorem dX9_round_118 : decode cX9_round 118 = .ok (.iload 4, 2) := by decide +kernel
theorem dX9_round_120 : decode cX9_round 120 = .ok (.if_icmp .ne 14, 3) := by decide +kernel
theorem dX9_round_123 : decode cX9_round 123 = .ok (.aload_n 0, 1) := by decide +kernel
theorem dX9_round_124 : decode cX9_round 124 = .ok (.getfield 95, 3) := by decide +kernel
theorem dX9_round_127 : decode cX9_round 127 = .ok (.iload_n 2, 1) := by decide +kernel
theorem dX9_round_128 : decode cX9_round 128 = .ok (.iaload, 1) := by decide +kernel
theorem dX9_round_129 : decode cX9_round 129 = .ok (.iload 5, 2) := by decide +kernel
theorem dX9_round_131 : decode cX9_round 131 = .ok (.if_icmp .eq 9, 3) := by decide +kernel
theorem dX9_round_134 : decode cX9_round 134 = .ok (.iconst 1, 1) := by decide +kernel
theorem dX9_round_135 : decode cX9_round 135 = .ok (.iload_n 2, 1) := by decide +kernel
theorem dX9_round_136 : decode cX9_round 136 = .ok (.ishl, 1) := by decide +kernel
theorem dX9_round_137 : decode cX9_round 137 = .ok (.goto 4, 3) := by decide +kernel
theorem dX9_round_140 : decode cX9_round 140 = .ok (.iconst 0, 1) := by decide +kernel
theorem dX9_round_141 : decode cX9_round 141 = .ok (.ior, 1) := by decide +kernel
theorem dX9_round_142 : decode cX9_round 142 = .ok (.istore_n 1, 1) := by decide +kernel
theorem dX9_round_143 : decode cX9_round 143 = .ok (.iinc 2 1, 3) := by decide +kernel
theorem dX9_round_146 : decode cX9_round 146 = .ok (.goto (-138), 3) := by decide +kernel
theorem dX9_round_149 : decode cX9_round 149 = .ok (.iload_n 1, 1) := by decide +kernel
theorem dX9_round_150 : decode cX9_round 150 = .ok (.ireturn, 1) := by decide +kernel
theorem dX9_settles_0 : decode cX9_settles 0 = .ok (.iconst 0, 1) := by decide +kernel
theorem dX9_settles_1 : decode cX9_settles 1 = .ok (.istore_n 1, 1) := by decide +kernel
theorem dX9_settles_2 : decode cX9_settles 2 = .ok (.iconst 1, 1) := by decide +kernel
theorem dX9_settles_3 : decode cX9_settles 3 = .ok (.istore_n 2, 1) := by decide +kernel
theorem dX9_settles_4 : decode cX9_settles 4 = .ok (.iload_n 2, 1) := by decide +kernel
theorem dX9_settles_5 : decode cX9_settles 5 = .ok (.ifCond .eq 109, 3) := by decide +kernel
theorem dX9_settles_8 : decode cX9_settles 8 = .ok (.iconst 0, 1) := by decide +kernel
theorem dX9_settles_9 : decode cX9_settles 9 = .ok (.istore_n 3, 1) := by decide +kernel
theorem dX9_settles_10 : decode cX9_settles 10 = .ok (.iconst 0, 1) := by decide +kernel
theorem dX9_settles_11 : decode cX9_settles 11 = .ok (.istore 4, 2) := by decide +kernel
theorem dX9_settles_13 : decode cX9_settles 13 = .ok (.iload 4, 2) := by decide +kernel
theorem dX9_settles_15 : decode cX9_settles 15 = .ok (.bipush 40, 2) := by decide +kernel
theorem dX9_settles_17 : decode cX9_settles 17 = .ok (.if_icmp .ge 49, 3) := by decide +kernel
theorem dX9_settles_20 : decode cX9_settles 20 = .ok (.iload_n 2, 1) := by decide +kernel
theorem dX9_settles_21 : decode cX9_settles 21 = .ok (.ifCond .eq 45, 3) := by decide +kernel
theorem dX9_settles_24 : decode cX9_settles 24 = .ok (.aload_n 0, 1) := by decide +kernel
theorem dX9_settles_25 : decode cX9_settles 25 = .ok (.invokevirtual 249, 3) := by decide +kernel
theorem dX9_settles_28 : decode cX9_settles 28 = .ok (.istore 5, 2) := by decide +kernel
theorem dX9_settles_30 : decode cX9_settles 30 = .ok (.iinc 1 1, 3) := by decide +kernel
theorem dX9_settles_33 : decode cX9_settles 33 = .ok (.iload 5, 2) := by decide +kernel
theorem dX9_settles_35 : decode cX9_settles 35 = .ok (.ifCond .eq 7, 3) := by decide +kernel
theorem dX9_settles_38 : decode cX9_settles 38 = .ok (.iconst 1, 1) := by decide +kernel
theorem dX9_settles_39 : decode cX9_settles 39 = .ok (.goto 4, 3) := by decide +kernel
theorem dX9_settles_42 : decode cX9_settles 42 = .ok (.iconst 0, 1) := by decide +kernel
theorem dX9_settles_43 : decode cX9_settles 43 = .ok (.istore_n 2, 1) := by decide +kernel
theorem dX9_settles_44 : decode cX9_settles 44 = .ok (.iload_n 3, 1) := by decide +kernel
theorem dX9_settles_45 : decode cX9_settles 45 = .ok (.iload 4, 2) := by decide +kernel
theorem dX9_settles_47 : decode cX9_settles 47 = .ok (.bipush 28, 2) := by decide +kernel
theorem dX9_settles_49 : decode cX9_settles 49 = .ok (.if_icmp .lt 8, 3) := by decide +kernel
theorem dX9_settles_52 : decode cX9_settles 52 = .ok (.iload 5, 2) := by decide +kernel
theorem dX9_settles_54 : decode cX9_settles 54 = .ok (.goto 4, 3) := by decide +kernel
theorem dX9_settles_57 : decode cX9_settles 57 = .ok (.iconst 0, 1) := by decide +kernel
theorem dX9_settles_58 : decode cX9_settles 58 = .ok (.ior, 1) := by decide +kernel
theorem dX9_settles_59 : decode cX9_settles 59 = .ok (.istore_n 3, 1) := by decide +kernel
theorem dX9_settles_60 : decode cX9_settles 60 = .ok (.iinc 4 1, 3) := by decide +kernel
theorem dX9_settles_63 : decode cX9_settles 63 = .ok (.goto (-50), 3) := by decide +kernel
theorem dX9_settles_66 : decode cX9_settles 66 = .ok (.iload_n 2, 1) := by decide +kernel
theorem dX9_settles_67 : decode cX9_settles 67 = .ok (.ifCond .eq 44, 3) := by decide +kernel
theorem dX9_settles_70 : decode cX9_settles 70 = .ok (.iconst 0, 1) := by decide +kernel
theorem dX9_settles_71 : decode cX9_settles 71 = .ok (.istore 4, 2) := by decide +kernel
theorem dX9_settles_73 : decode cX9_settles 73 = .ok (.iload_n 3, 1) := by decide +kernel
theorem dX9_settles_74 : decode cX9_settles 74 = .ok (.iload 4, 2) := by decide +kernel
theorem dX9_settles_76 : decode cX9_settles 76 = .ok (.invokestatic 197, 3) := by decide +kernel
theorem dX9_settles_79 : decode cX9_settles 79 = .ok (.ifCond .ne 9, 3) := by decide +kernel
theorem dX9_settles_82 : decode cX9_settles 82 = .ok (.iinc 4 1, 3) := by decide +kernel
theorem dX9_settles_85 : decode cX9_settles 85 = .ok (.goto (-12), 3) := by decide +kernel
theorem dX9_settles_88 : decode cX9_settles 88 = .ok (.aload_n 0, 1) := by decide +kernel
theorem dX9_settles_89 : decode cX9_settles 89 = .ok (.getfield 83, 3) := by decide +kernel
theorem dX9_settles_92 : decode cX9_settles 92 = .ok (.iload 4, 2) := by decide +kernel
theorem dX9_settles_94 : decode cX9_settles 94 = .ok (.iconst 3, 1) := by decide +kernel
theorem dX9_settles_95 : decode cX9_settles 95 = .ok (.iastore, 1) := by decide +kernel
theorem dX9_settles_96 : decode cX9_settles 96 = .ok (.aload_n 0, 1) := by decide +kernel
theorem dX9_settles_97 : decode cX9_settles 97 = .ok (.getfield 92, 3) := by decide +kernel
theorem dX9_settles_100 : decode cX9_settles 100 = .ok (.iload 4, 2) := by decide +kernel
theorem dX9_settles_102 : decode cX9_settles 102 = .ok (.iconst 0, 1) := by decide +kernel
theorem dX9_settles_103 : decode cX9_settles 103 = .ok (.iastore, 1) := by decide +kernel
theorem dX9_settles_104 : decode cX9_settles 104 = .ok (.aload_n 0, 1) := by decide +kernel
theorem dX9_settles_105 : decode cX9_settles 105 = .ok (.iload 4, 2) := by decide +kernel
theorem dX9_settles_107 : decode cX9_settles 107 = .ok (.iconst 0, 1) := by decide +kernel
theorem dX9_settles_108 : decode cX9_settles 108 = .ok (.invokevirtual 246, 3) := by decide +kernel
theorem dX9_settles_111 : decode cX9_settles 111 = .ok (.goto (-107), 3) := by decide +kernel
theorem dX9_settles_114 : decode cX9_settles 114 = .ok (.iload_n 1, 1) := by decide +kernel
theorem dX9_settles_115 : decode cX9_settles 115 = .ok (.ireturn, 1) := by decide +kernel
theorem dX9_clears_0 : decode cX9_clears 0 = .ok (.iconst 0, 1) := by decide +kernel
theorem dX9_clears_1 : decode cX9_clears 1 = .ok (.istore_n 1, 1) := by decide +kernel
theorem dX9_clears_2 : decode cX9_clears 2 = .ok (.iload_n 1, 1) := by decide +kernel
theorem dX9_clears_3 : decode cX9_clears 3 = .ok (.bipush 12, 2) := by decide +kernel
theorem dX9_clears_5 : decode cX9_clears 5 = .ok (.if_icmp .ge 54, 3) := by decide +kernel
theorem dX9_clears_8 : decode cX9_clears 8 = .ok (.aload_n 0, 1) := by decide +kernel
theorem dX9_clears_9 : decode cX9_clears 9 = .ok (.getfield 71, 3) := by decide +kernel
theorem dX9_clears_12 : decode cX9_clears 12 = .ok (.iload_n 1, 1) := by decide +kernel
theorem dX9_clears_13 : decode cX9_clears 13 = .ok (.aload_n 0, 1) := by decide +kernel
theorem dX9_clears_14 : decode cX9_clears 14 = .ok (.getfield 47, 3) := by decide +kernel
theorem dX9_clears_17 : decode cX9_clears 17 = .ok (.iload_n 1, 1) := by decide +kernel
theorem dX9_clears_18 : decode cX9_clears 18 = .ok (.baload, 1) := by decide +kernel
theorem dX9_clears_19 : decode cX9_clears 19 = .ok (.ifCond .eq 12, 3) := by decide +kernel
theorem dX9_clears_22 : decode cX9_clears 22 = .ok (.aload_n 0, 1) := by decide +kernel
theorem dX9_clears_23 : decode cX9_clears 23 = .ok (.getfield 50, 3) := by decide +kernel
theorem dX9_clears_26 : decode cX9_clears 26 = .ok (.iload_n 1, 1) := by decide +kernel
theorem dX9_clears_27 : decode cX9_clears 27 = .ok (.iaload, 1) := by decide +kernel
theorem dX9_clears_28 : decode cX9_clears 28 = .ok (.goto 4, 3) := by decide +kernel
theorem dX9_clears_31 : decode cX9_clears 31 = .ok (.iconst 0, 1) := by decide +kernel
theorem dX9_clears_32 : decode cX9_clears 32 = .ok (.iastore, 1) := by decide +kernel
theorem dX9_clears_33 : decode cX9_clears 33 = .ok (.aload_n 0, 1) := by decide +kernel
theorem dX9_clears_34 : decode cX9_clears 34 = .ok (.getfield 74, 3) := by decide +kernel
theorem dX9_clears_37 : decode cX9_clears 37 = .ok (.iload_n 1, 1) := by decide +kernel
theorem dX9_clears_38 : decode cX9_clears 38 = .ok (.aload_n 0, 1) := by decide +kernel
theorem dX9_clears_39 : decode cX9_clears 39 = .ok (.getfield 47, 3) := by decide +kernel
theorem dX9_clears_42 : decode cX9_clears 42 = .ok (.iload_n 1, 1) := by decide +kernel
theorem dX9_clears_43 : decode cX9_clears 43 = .ok (.baload, 1) := by decide +kernel
theorem dX9_clears_44 : decode cX9_clears 44 = .ok (.ifCond .ne 7, 3) := by decide +kernel
theorem dX9_clears_47 : decode cX9_clears 47 = .ok (.iconst 1, 1) := by decide +kernel
theorem dX9_clears_48 : decode cX9_clears 48 = .ok (.goto 4, 3) := by decide +kernel
theorem dX9_clears_51 : decode cX9_clears 51 = .ok (.iconst 0, 1) := by decide +kernel
theorem dX9_clears_52 : decode cX9_clears 52 = .ok (.bastore, 1) := by decide +kernel
theorem dX9_clears_53 : decode cX9_clears 53 = .ok (.iinc 1 1, 3) := by decide +kernel
theorem dX9_clears_56 : decode cX9_clears 56 = .ok (.goto (-54), 3) := by decide +kernel
theorem dX9_clears_59 : decode cX9_clears 59 = .ok (.iconst 0, 1) := by decide +kernel
theorem dX9_clears_60 : decode cX9_clears 60 = .ok (.istore_n 1, 1) := by decide +kernel
theorem dX9_clears_61 : decode cX9_clears 61 = .ok (.iload_n 1, 1) := by decide +kernel
theorem dX9_clears_62 : decode cX9_clears 62 = .ok (.iconst 5, 1) := by decide +kernel
theorem dX9_clears_63 : decode cX9_clears 63 = .ok (.if_icmp .ge 51, 3) := by decide +kernel
theorem dX9_clears_66 : decode cX9_clears 66 = .ok (.aload_n 0, 1) := by decide +kernel
theorem dX9_clears_67 : decode cX9_clears 67 = .ok (.getfield 77, 3) := by decide +kernel
theorem dX9_clears_70 : decode cX9_clears 70 = .ok (.iload_n 1, 1) := by decide +kernel
theorem dX9_clears_71 : decode cX9_clears 71 = .ok (.iconst 0, 1) := by decide +kernel
theorem dX9_clears_72 : decode cX9_clears 72 = .ok (.iastore, 1) := by decide +kernel
theorem dX9_clears_73 : decode cX9_clears 73 = .ok (.aload_n 0, 1) := by decide +kernel
theorem dX9_clears_74 : decode cX9_clears 74 = .ok (.getfield 80, 3) := by decide +kernel
theorem dX9_clears_77 : decode cX9_clears 77 = .ok (.iload_n 1, 1) := by decide +kernel
theorem dX9_clears_78 : decode cX9_clears 78 = .ok (.iconst (-1), 1) := by decide +kernel
theorem dX9_clears_79 : decode cX9_clears 79 = .ok (.iastore, 1) := by decide +kernel
theorem dX9_clears_80 : decode cX9_clears 80 = .ok (.aload_n 0, 1) := by decide +kernel
theorem dX9_clears_81 : decode cX9_clears 81 = .ok (.getfield 83, 3) := by decide +kernel
theorem dX9_clears_84 : decode cX9_clears 84 = .ok (.iload_n 1, 1) := by decide +kernel
theorem dX9_clears_85 : decode cX9_clears 85 = .ok (.iconst 0, 1) := by decide +kernel
theorem dX9_clears_86 : decode cX9_clears 86 = .ok (.iastore, 1) := by decide +kernel
theorem dX9_clears_87 : decode cX9_clears 87 = .ok (.aload_n 0, 1) := by decide +kernel
theorem dX9_clears_88 : decode cX9_clears 88 = .ok (.getfield 92, 3) := by decide +kernel
theorem dX9_clears_91 : decode cX9_clears 91 = .ok (.iload_n 1, 1) := by decide +kernel
theorem dX9_clears_92 : decode cX9_clears 92 = .ok (.iconst 0, 1) := by decide +kernel
theorem dX9_clears_93 : decode cX9_clears 93 = .ok (.iastore, 1) := by decide +kernel
theorem dX9_clears_94 : decode cX9_clears 94 = .ok (.aload_n 0, 1) := by decide +kernel
theorem dX9_clears_95 : decode cX9_clears 95 = .ok (.getfield 95, 3) := by decide +kernel
theorem dX9_clears_98 : decode cX9_clears 98 = .ok (.iload_n 1, 1) := by decide +kernel
theorem dX9_clears_99 : decode cX9_clears 99 = .ok (.iconst 0, 1) := by decide +kernel
theorem dX9_clears_100 : decode cX9_clears 100 = .ok (.iastore, 1) := by decide +kernel
theorem dX9_clears_101 : decode cX9_clears 101 = .ok (.aload_n 0, 1) := by decide +kernel
theorem dX9_clears_102 : decode cX9_clears 102 = .ok (.getfield 98, 3) := by decide +kernel
theorem dX9_clears_105 : decode cX9_clears 105 = .ok (.iload_n 1, 1) := by decide +kernel
theorem dX9_clears_106 : decode cX9_clears 106 = .ok (.iconst 0, 1) := by decide +kernel
theorem dX9_clears_107 : decode cX9_clears 107 = .ok (.iastore, 1) := by decide +kernel
theorem dX9_clears_108 : decode cX9_clears 108 = .ok (.iinc 1 1, 3) := by decide +kernel
theorem dX9_clears_111 : decode cX9_clears 111 = .ok (.goto (-50), 3) := by decide +kernel
theorem dX9_clears_114 : decode cX9_clears 114 = .ok (.aload_n 0, 1) := by decide +kernel
theorem dX9_clears_115 : decode cX9_clears 115 = .ok (.iconst 0, 1) := by decide +kernel
theorem dX9_clears_116 : decode cX9_clears 116 = .ok (.putfield 208, 3) := by decide +kernel
theorem dX9_clears_119 : decode cX9_clears 119 = .ok (.return_, 1) := by decide +kernel
theorem dX9_begins_0 : decode cX9_begins 0 = .ok (.iconst 0, 1) := by decide +kernel
theorem dX9_begins_1 : decode cX9_begins 1 = .ok (.istore_n 1, 1) := by decide +kernel
theorem dX9_begins_2 : decode cX9_begins 2 = .ok (.iload_n 1, 1) := by decide +kernel
theorem dX9_begins_3 : decode cX9_begins 3 = .ok (.bipush 12, 2) := by decide +kernel
theorem dX9_begins_5 : decode cX9_begins 5 = .ok (.if_icmp .ge 61, 3) := by decide +kernel
theorem dX9_begins_8 : decode cX9_begins 8 = .ok (.aload_n 0, 1) := by decide +kernel
theorem dX9_begins_9 : decode cX9_begins 9 = .ok (.getfield 29, 3) := by decide +kernel
theorem dX9_begins_12 : decode cX9_begins 12 = .ok (.bipush 30, 2) := by decide +kernel
theorem dX9_begins_14 : decode cX9_begins 14 = .ok (.iload_n 1, 1) := by decide +kernel
theorem dX9_begins_15 : decode cX9_begins 15 = .ok (.imul, 1) := by decide +kernel
theorem dX9_begins_16 : decode cX9_begins 16 = .ok (.iconst 0, 1) := by decide +kernel
theorem dX9_begins_17 : decode cX9_begins 17 = .ok (.iastore, 1) := by decide +kernel
theorem dX9_begins_18 : decode cX9_begins 18 = .ok (.aload_n 0, 1) := by decide +kernel
theorem dX9_begins_19 : decode cX9_begins 19 = .ok (.getfield 32, 3) := by decide +kernel
theorem dX9_begins_22 : decode cX9_begins 22 = .ok (.iload_n 1, 1) := by decide +kernel
theorem dX9_begins_23 : decode cX9_begins 23 = .ok (.iconst 1, 1) := by decide +kernel
theorem dX9_begins_24 : decode cX9_begins 24 = .ok (.iastore, 1) := by decide +kernel
theorem dX9_begins_25 : decode cX9_begins 25 = .ok (.aload_n 0, 1) := by decide +kernel
theorem dX9_begins_26 : decode cX9_begins 26 = .ok (.getfield 35, 3) := by decide +kernel
theorem dX9_begins_29 : decode cX9_begins 29 = .ok (.iload_n 1, 1) := by decide +kernel
theorem dX9_begins_30 : decode cX9_begins 30 = .ok (.iconst 0, 1) := by decide +kernel
theorem dX9_begins_31 : decode cX9_begins 31 = .ok (.iastore, 1) := by decide +kernel
theorem dX9_begins_32 : decode cX9_begins 32 = .ok (.aload_n 0, 1) := by decide +kernel
theorem dX9_begins_33 : decode cX9_begins 33 = .ok (.getfield 38, 3) := by decide +kernel
theorem dX9_begins_36 : decode cX9_begins 36 = .ok (.iload_n 1, 1) := by decide +kernel
theorem dX9_begins_37 : decode cX9_begins 37 = .ok (.iconst 0, 1) := by decide +kernel
theorem dX9_begins_38 : decode cX9_begins 38 = .ok (.iastore, 1) := by decide +kernel
theorem dX9_begins_39 : decode cX9_begins 39 = .ok (.aload_n 0, 1) := by decide +kernel
theorem dX9_begins_40 : decode cX9_begins 40 = .ok (.getfield 41, 3) := by decide +kernel
theorem dX9_begins_43 : decode cX9_begins 43 = .ok (.iload_n 1, 1) := by decide +kernel
theorem dX9_begins_44 : decode cX9_begins 44 = .ok (.iconst 0, 1) := by decide +kernel
theorem dX9_begins_45 : decode cX9_begins 45 = .ok (.iastore, 1) := by decide +kernel
theorem dX9_begins_46 : decode cX9_begins 46 = .ok (.aload_n 0, 1) := by decide +kernel
theorem dX9_begins_47 : decode cX9_begins 47 = .ok (.getfield 44, 3) := by decide +kernel
theorem dX9_begins_50 : decode cX9_begins 50 = .ok (.iload_n 1, 1) := by decide +kernel
theorem dX9_begins_51 : decode cX9_begins 51 = .ok (.iconst 0, 1) := by decide +kernel
theorem dX9_begins_52 : decode cX9_begins 52 = .ok (.iastore, 1) := by decide +kernel
theorem dX9_begins_53 : decode cX9_begins 53 = .ok (.aload_n 0, 1) := by decide +kernel
theorem dX9_begins_54 : decode cX9_begins 54 = .ok (.getfield 47, 3) := by decide +kernel
theorem dX9_begins_57 : decode cX9_begins 57 = .ok (.iload_n 1, 1) := by decide +kernel
theorem dX9_begins_58 : decode cX9_begins 58 = .ok (.iconst 0, 1) := by decide +kernel
theorem dX9_begins_59 : decode cX9_begins 59 = .ok (.bastore, 1) := by decide +kernel
theorem dX9_begins_60 : decode cX9_begins 60 = .ok (.iinc 1 1, 3) := by decide +kernel
theorem dX9_begins_63 : decode cX9_begins 63 = .ok (.goto (-61), 3) := by decide +kernel
theorem dX9_begins_66 : decode cX9_begins 66 = .ok (.iconst 0, 1) := by decide +kernel
theorem dX9_begins_67 : decode cX9_begins 67 = .ok (.istore_n 1, 1) := by decide +kernel
theorem dX9_begins_68 : decode cX9_begins 68 = .ok (.iload_n 1, 1) := by decide +kernel
theorem dX9_begins_69 : decode cX9_begins 69 = .ok (.iconst 5, 1) := by decide +kernel
theorem dX9_begins_70 : decode cX9_begins 70 = .ok (.if_icmp .ge 51, 3) := by decide +kernel
theorem dX9_begins_73 : decode cX9_begins 73 = .ok (.aload_n 0, 1) := by decide +kernel
theorem dX9_begins_74 : decode cX9_begins 74 = .ok (.getfield 53, 3) := by decide +kernel
theorem dX9_begins_77 : decode cX9_begins 77 = .ok (.iload_n 1, 1) := by decide +kernel
theorem dX9_begins_78 : decode cX9_begins 78 = .ok (.iconst (-1), 1) := by decide +kernel
theorem dX9_begins_79 : decode cX9_begins 79 = .ok (.iastore, 1) := by decide +kernel
theorem dX9_begins_80 : decode cX9_begins 80 = .ok (.aload_n 0, 1) := by decide +kernel
theorem dX9_begins_81 : decode cX9_begins 81 = .ok (.getfield 56, 3) := by decide +kernel
theorem dX9_begins_84 : decode cX9_begins 84 = .ok (.iload_n 1, 1) := by decide +kernel
theorem dX9_begins_85 : decode cX9_begins 85 = .ok (.iconst (-1), 1) := by decide +kernel
theorem dX9_begins_86 : decode cX9_begins 86 = .ok (.iastore, 1) := by decide +kernel
theorem dX9_begins_87 : decode cX9_begins 87 = .ok (.aload_n 0, 1) := by decide +kernel
theorem dX9_begins_88 : decode cX9_begins 88 = .ok (.getfield 59, 3) := by decide +kernel
theorem dX9_begins_91 : decode cX9_begins 91 = .ok (.iload_n 1, 1) := by decide +kernel
theorem dX9_begins_92 : decode cX9_begins 92 = .ok (.iconst 0, 1) := by decide +kernel
theorem dX9_begins_93 : decode cX9_begins 93 = .ok (.iastore, 1) := by decide +kernel
theorem dX9_begins_94 : decode cX9_begins 94 = .ok (.aload_n 0, 1) := by decide +kernel
theorem dX9_begins_95 : decode cX9_begins 95 = .ok (.getfield 62, 3) := by decide +kernel
theorem dX9_begins_98 : decode cX9_begins 98 = .ok (.iload_n 1, 1) := by decide +kernel
theorem dX9_begins_99 : decode cX9_begins 99 = .ok (.iconst 0, 1) := by decide +kernel
theorem dX9_begins_100 : decode cX9_begins 100 = .ok (.iastore, 1) := by decide +kernel
theorem dX9_begins_101 : decode cX9_begins 101 = .ok (.aload_n 0, 1) := by decide +kernel
theorem dX9_begins_102 : decode cX9_begins 102 = .ok (.getfield 65, 3) := by decide +kernel
theorem dX9_begins_105 : decode cX9_begins 105 = .ok (.iload_n 1, 1) := by decide +kernel
theorem dX9_begins_106 : decode cX9_begins 106 = .ok (.iconst 0, 1) := by decide +kernel
theorem dX9_begins_107 : decode cX9_begins 107 = .ok (.iastore, 1) := by decide +kernel
theorem dX9_begins_108 : decode cX9_begins 108 = .ok (.aload_n 0, 1) := by decide +kernel
theorem dX9_begins_109 : decode cX9_begins 109 = .ok (.getfield 68, 3) := by decide +kernel
theorem dX9_begins_112 : decode cX9_begins 112 = .ok (.iload_n 1, 1) := by decide +kernel
theorem dX9_begins_113 : decode cX9_begins 113 = .ok (.iconst (-1), 1) := by decide +kernel
theorem dX9_begins_114 : decode cX9_begins 114 = .ok (.iastore, 1) := by decide +kernel
theorem dX9_begins_115 : decode cX9_begins 115 = .ok (.iinc 1 1, 3) := by decide +kernel
theorem dX9_begins_118 : decode cX9_begins 118 = .ok (.goto (-50), 3) := by decide +kernel
theorem dX9_begins_121 : decode cX9_begins 121 = .ok (.aload_n 0, 1) := by decide +kernel
theorem dX9_begins_122 : decode cX9_begins 122 = .ok (.invokevirtual 252, 3) := by decide +kernel
theorem dX9_begins_125 : decode cX9_begins 125 = .ok (.iconst 0, 1) := by decide +kernel
theorem dX9_begins_126 : decode cX9_begins 126 = .ok (.istore_n 1, 1) := by decide +kernel
theorem dX9_begins_127 : decode cX9_begins 127 = .ok (.iload_n 1, 1) := by decide +kernel
theorem dX9_begins_128 : decode cX9_begins 128 = .ok (.bipush 12, 2) := by decide +kernel
theorem dX9_begins_130 : decode cX9_begins 130 = .ok (.if_icmp .ge 16, 3) := by decide +kernel
theorem dX9_begins_133 : decode cX9_begins 133 = .ok (.aload_n 0, 1) := by decide +kernel
theorem dX9_begins_134 : decode cX9_begins 134 = .ok (.getfield 74, 3) := by decide +kernel
theorem dX9_begins_137 : decode cX9_begins 137 = .ok (.iload_n 1, 1) := by decide +kernel
theorem dX9_begins_138 : decode cX9_begins 138 = .ok (.iconst 0, 1) := by decide +kernel
theorem dX9_begins_139 : decode cX9_begins 139 = .ok (.bastore, 1) := by decide +kernel
theorem dX9_begins_140 : decode cX9_begins 140 = .ok (.iinc 1 1, 3) := by decide +kernel
theorem dX9_begins_143 : decode cX9_begins 143 = .ok (.goto (-16), 3) := by decide +kernel
theorem dX9_begins_146 : decode cX9_begins 146 = .ok (.aload_n 0, 1) := by decide +kernel
theorem dX9_begins_147 : decode cX9_begins 147 = .ok (.iconst 0, 1) := by decide +kernel
theorem dX9_begins_148 : decode cX9_begins 148 = .ok (.putfield 218, 3) := by decide +kernel
theorem dX9_begins_151 : decode cX9_begins 151 = .ok (.return_, 1) := by decide +kernel
theorem dX9_deepens_0 : decode cX9_deepens 0 = .ok (.iconst 0, 1) := by decide +kernel
theorem dX9_deepens_1 : decode cX9_deepens 1 = .ok (.istore_n 1, 1) := by decide +kernel
theorem dX9_deepens_2 : decode cX9_deepens 2 = .ok (.iload_n 1, 1) := by decide +kernel
theorem dX9_deepens_3 : decode cX9_deepens 3 = .ok (.bipush 12, 2) := by decide +kernel
theorem dX9_deepens_5 : decode cX9_deepens 5 = .ok (.if_icmp .ge 89, 3) := by decide +kernel
theorem dX9_deepens_8 : decode cX9_deepens 8 = .ok (.iconst 0, 1) := by decide +kernel
theorem dX9_deepens_9 : decode cX9_deepens 9 = .ok (.istore_n 2, 1) := by decide +kernel
theorem dX9_deepens_10 : decode cX9_deepens 10 = .ok (.iload_n 2, 1) := by decide +kernel
theorem dX9_deepens_11 : decode cX9_deepens 11 = .ok (.bipush 12, 2) := by decide +kernel
theorem dX9_deepens_13 : decode cX9_deepens 13 = .ok (.if_icmp .ge 75, 3) := by decide +kernel
theorem dX9_deepens_16 : decode cX9_deepens 16 = .ok (.iconst 0, 1) := by decide +kernel
theorem dX9_deepens_17 : decode cX9_deepens 17 = .ok (.istore_n 3, 1) := by decide +kernel
theorem dX9_deepens_18 : decode cX9_deepens 18 = .ok (.iconst 0, 1) := by decide +kernel
theorem dX9_deepens_19 : decode cX9_deepens 19 = .ok (.istore 4, 2) := by decide +kernel
theorem dX9_deepens_21 : decode cX9_deepens 21 = .ok (.iload 4, 2) := by decide +kernel
theorem dX9_deepens_23 : decode cX9_deepens 23 = .ok (.bipush 12, 2) := by decide +kernel
theorem dX9_deepens_25 : decode cX9_deepens 25 = .ok (.if_icmp .ge 50, 3) := by decide +kernel
theorem dX9_deepens_28 : decode cX9_deepens 28 = .ok (.aload_n 0, 1) := by decide +kernel
theorem dX9_deepens_29 : decode cX9_deepens 29 = .ok (.getfield 35, 3) := by decide +kernel
theorem dX9_deepens_32 : decode cX9_deepens 32 = .ok (.iload_n 2, 1) := by decide +kernel
theorem dX9_deepens_33 : decode cX9_deepens 33 = .ok (.iaload, 1) := by decide +kernel
theorem dX9_deepens_34 : decode cX9_deepens 34 = .ok (.iload 4, 2) := by decide +kernel
theorem dX9_deepens_36 : decode cX9_deepens 36 = .ok (.invokestatic 197, 3) := by decide +kernel
theorem dX9_deepens_39 : decode cX9_deepens 39 = .ok (.ifCond .eq 28, 3) := by decide +kernel
theorem dX9_deepens_42 : decode cX9_deepens 42 = .ok (.aload_n 0, 1) := by decide +kernel
theorem dX9_deepens_43 : decode cX9_deepens 43 = .ok (.getfield 44, 3) := by decide +kernel
theorem dX9_deepens_46 : decode cX9_deepens 46 = .ok (.iload 4, 2) := by decide +kernel
theorem dX9_deepens_48 : decode cX9_deepens 48 = .ok (.iaload, 1) := by decide +kernel
theorem dX9_deepens_49 : decode cX9_deepens 49 = .ok (.iconst 1, 1) := by decide +kernel
theorem dX9_deepens_50 : decode cX9_deepens 50 = .ok (.iadd, 1) := by decide +kernel
theorem dX9_deepens_51 : decode cX9_deepens 51 = .ok (.iload_n 3, 1) := by decide +kernel
theorem dX9_deepens_52 : decode cX9_deepens 52 = .ok (.if_icmp .le 15, 3) := by decide +kernel
theorem dX9_deepens_55 : decode cX9_deepens 55 = .ok (.aload_n 0, 1) := by decide +kernel
theorem dX9_deepens_56 : decode cX9_deepens 56 = .ok (.getfield 44, 3) := by decide +kernel
theorem dX9_deepens_59 : decode cX9_deepens 59 = .ok (.iload 4, 2) := by decide +kernel
theorem dX9_deepens_61 : decode cX9_deepens 61 = .ok (.iaload, 1) := by decide +kernel
theorem dX9_deepens_62 : decode cX9_deepens 62 = .ok (.iconst 1, 1) := by decide +kernel
theorem dX9_deepens_63 : decode cX9_deepens 63 = .ok (.iadd, 1) := by decide +kernel
theorem dX9_deepens_64 : decode cX9_deepens 64 = .ok (.goto 4, 3) := by decide +kernel
theorem dX9_deepens_67 : decode cX9_deepens 67 = .ok (.iload_n 3, 1) := by decide +kernel
theorem dX9_deepens_68 : decode cX9_deepens 68 = .ok (.istore_n 3, 1) := by decide +kernel
theorem dX9_deepens_69 : decode cX9_deepens 69 = .ok (.iinc 4 1, 3) := by decide +kernel
theorem dX9_deepens_72 : decode cX9_deepens 72 = .ok (.goto (-51), 3) := by decide +kernel
theorem dX9_deepens_75 : decode cX9_deepens 75 = .ok (.aload_n 0, 1) := by decide +kernel
theorem dX9_deepens_76 : decode cX9_deepens 76 = .ok (.getfield 44, 3) := by decide +kernel
theorem dX9_deepens_79 : decode cX9_deepens 79 = .ok (.iload_n 2, 1) := by decide +kernel
theorem dX9_deepens_80 : decode cX9_deepens 80 = .ok (.iload_n 3, 1) := by decide +kernel
theorem dX9_deepens_81 : decode cX9_deepens 81 = .ok (.iastore, 1) := by decide +kernel
theorem dX9_deepens_82 : decode cX9_deepens 82 = .ok (.iinc 2 1, 3) := by decide +kernel
theorem dX9_deepens_85 : decode cX9_deepens 85 = .ok (.goto (-75), 3) := by decide +kernel
theorem dX9_deepens_88 : decode cX9_deepens 88 = .ok (.iinc 1 1, 3) := by decide +kernel
theorem dX9_deepens_91 : decode cX9_deepens 91 = .ok (.goto (-89), 3) := by decide +kernel
theorem dX9_deepens_94 : decode cX9_deepens 94 = .ok (.return_, 1) := by decide +kernel
theorem dX9_gives_0 : decode cX9_gives 0 = .ok (.aload_n 0, 1) := by decide +kernel
theorem dX9_gives_1 : decode cX9_gives 1 = .ok (.getfield 35, 3) := by decide +kernel
theorem dX9_gives_4 : decode cX9_gives 4 = .ok (.iload_n 1, 1) := by decide +kernel
theorem dX9_gives_5 : decode cX9_gives 5 = .ok (.iconst 0, 1) := by decide +kernel
theorem dX9_gives_6 : decode cX9_gives 6 = .ok (.iastore, 1) := by decide +kernel
theorem dX9_gives_7 : decode cX9_gives 7 = .ok (.aload_n 0, 1) := by decide +kernel
theorem dX9_gives_8 : decode cX9_gives 8 = .ok (.getfield 38, 3) := by decide +kernel
theorem dX9_gives_11 : decode cX9_gives 11 = .ok (.iload_n 1, 1) := by decide +kernel
theorem dX9_gives_12 : decode cX9_gives 12 = .ok (.iconst 0, 1) := by decide +kernel
theorem dX9_gives_13 : decode cX9_gives 13 = .ok (.iastore, 1) := by decide +kernel
theorem dX9_gives_14 : decode cX9_gives 14 = .ok (.aload_n 0, 1) := by decide +kernel
theorem dX9_gives_15 : decode cX9_gives 15 = .ok (.getfield 41, 3) := by decide +kernel
theorem dX9_gives_18 : decode cX9_gives 18 = .ok (.iload_n 1, 1) := by decide +kernel
theorem dX9_gives_19 : decode cX9_gives 19 = .ok (.iconst 0, 1) := by decide +kernel
theorem dX9_gives_20 : decode cX9_gives 20 = .ok (.iastore, 1) := by decide +kernel
theorem dX9_gives_21 : decode cX9_gives 21 = .ok (.aload_n 0, 1) := by decide +kernel
theorem dX9_gives_22 : decode cX9_gives 22 = .ok (.getfield 32, 3) := by decide +kernel
theorem dX9_gives_25 : decode cX9_gives 25 = .ok (.iload_n 1, 1) := by decide +kernel
theorem dX9_gives_26 : decode cX9_gives 26 = .ok (.aload_n 0, 1) := by decide +kernel
theorem dX9_gives_27 : decode cX9_gives 27 = .ok (.getfield 119, 3) := by decide +kernel
theorem dX9_gives_30 : decode cX9_gives 30 = .ok (.iload_n 2, 1) := by decide +kernel
theorem dX9_gives_31 : decode cX9_gives 31 = .ok (.iaload, 1) := by decide +kernel
theorem dX9_gives_32 : decode cX9_gives 32 = .ok (.iastore, 1) := by decide +kernel
theorem dX9_gives_33 : decode cX9_gives 33 = .ok (.iconst 0, 1) := by decide +kernel
theorem dX9_gives_34 : decode cX9_gives 34 = .ok (.istore_n 3, 1) := by decide +kernel
theorem dX9_gives_35 : decode cX9_gives 35 = .ok (.iload_n 3, 1) := by decide +kernel
theorem dX9_gives_36 : decode cX9_gives 36 = .ok (.aload_n 0, 1) := by decide +kernel
theorem dX9_gives_37 : decode cX9_gives 37 = .ok (.getfield 119, 3) := by decide +kernel
theorem dX9_gives_40 : decode cX9_gives 40 = .ok (.iload_n 2, 1) := by decide +kernel
theorem dX9_gives_41 : decode cX9_gives 41 = .ok (.iaload, 1) := by decide +kernel
theorem dX9_gives_42 : decode cX9_gives 42 = .ok (.if_icmp .ge 140, 3) := by decide +kernel
theorem dX9_gives_45 : decode cX9_gives 45 = .ok (.aload_n 0, 1) := by decide +kernel
theorem dX9_gives_46 : decode cX9_gives 46 = .ok (.getfield 116, 3) := by decide +kernel
theorem dX9_gives_49 : decode cX9_gives 49 = .ok (.bipush 30, 2) := by decide +kernel
theorem dX9_gives_51 : decode cX9_gives 51 = .ok (.iload_n 2, 1) := by decide +kernel
theorem dX9_gives_52 : decode cX9_gives 52 = .ok (.imul, 1) := by decide +kernel
theorem dX9_gives_53 : decode cX9_gives 53 = .ok (.iload_n 3, 1) := by decide +kernel
theorem dX9_gives_54 : decode cX9_gives 54 = .ok (.iadd, 1) := by decide +kernel
theorem dX9_gives_55 : decode cX9_gives 55 = .ok (.iaload, 1) := by decide +kernel
theorem dX9_gives_56 : decode cX9_gives 56 = .ok (.istore 4, 2) := by decide +kernel
theorem dX9_gives_58 : decode cX9_gives 58 = .ok (.aload_n 0, 1) := by decide +kernel
theorem dX9_gives_59 : decode cX9_gives 59 = .ok (.getfield 29, 3) := by decide +kernel
theorem dX9_gives_62 : decode cX9_gives 62 = .ok (.bipush 30, 2) := by decide +kernel
theorem dX9_gives_64 : decode cX9_gives 64 = .ok (.iload_n 1, 1) := by decide +kernel
theorem dX9_gives_65 : decode cX9_gives 65 = .ok (.imul, 1) := by decide +kernel
theorem dX9_gives_66 : decode cX9_gives 66 = .ok (.iload_n 3, 1) := by decide +kernel
theorem dX9_gives_67 : decode cX9_gives 67 = .ok (.iadd, 1) := by decide +kernel
theorem dX9_gives_68 : decode cX9_gives 68 = .ok (.iload 4, 2) := by decide +kernel
theorem dX9_gives_70 : decode cX9_gives 70 = .ok (.iastore, 1) := by decide +kernel
theorem dX9_gives_71 : decode cX9_gives 71 = .ok (.aload_n 0, 1) := by decide +kernel
theorem dX9_gives_72 : decode cX9_gives 72 = .ok (.getfield 35, 3) := by decide +kernel
theorem dX9_gives_75 : decode cX9_gives 75 = .ok (.iload_n 1, 1) := by decide +kernel
theorem dX9_gives_76 : decode cX9_gives 76 = .ok (.dup2, 1) := by decide +kernel
theorem dX9_gives_77 : decode cX9_gives 77 = .ok (.iaload, 1) := by decide +kernel
theorem dX9_gives_78 : decode cX9_gives 78 = .ok (.iload 4, 2) := by decide +kernel
theorem dX9_gives_80 : decode cX9_gives 80 = .ok (.sipush 20000, 3) := by decide +kernel
theorem dX9_gives_83 : decode cX9_gives 83 = .ok (.sipush 20999, 3) := by decide +kernel
theorem dX9_gives_86 : decode cX9_gives 86 = .ok (.invokestatic 255, 3) := by decide +kernel
theorem dX9_gives_89 : decode cX9_gives 89 = .ok (.ifCond .eq 14, 3) := by decide +kernel
theorem dX9_gives_92 : decode cX9_gives 92 = .ok (.iconst 1, 1) := by decide +kernel
theorem dX9_gives_93 : decode cX9_gives 93 = .ok (.iload 4, 2) := by decide +kernel
theorem dX9_gives_95 : decode cX9_gives 95 = .ok (.sipush 20000, 3) := by decide +kernel
theorem dX9_gives_98 : decode cX9_gives 98 = .ok (.isub, 1) := by decide +kernel
theorem dX9_gives_99 : decode cX9_gives 99 = .ok (.ishl, 1) := by decide +kernel
theorem dX9_gives_100 : decode cX9_gives 100 = .ok (.goto 4, 3) := by decide +kernel
theorem dX9_gives_103 : decode cX9_gives 103 = .ok (.iconst 0, 1) := by decide +kernel
theorem dX9_gives_104 : decode cX9_gives 104 = .ok (.ior, 1) := by decide +kernel
theorem dX9_gives_105 : decode cX9_gives 105 = .ok (.iastore, 1) := by decide +kernel
theorem dX9_gives_106 : decode cX9_gives 106 = .ok (.aload_n 0, 1) := by decide +kernel
theorem dX9_gives_107 : decode cX9_gives 107 = .ok (.getfield 38, 3) := by decide +kernel
theorem dX9_gives_110 : decode cX9_gives 110 = .ok (.iload_n 1, 1) := by decide +kernel
theorem dX9_gives_111 : decode cX9_gives 111 = .ok (.dup2, 1) := by decide +kernel
theorem dX9_gives_112 : decode cX9_gives 112 = .ok (.iaload, 1) := by decide +kernel
theorem dX9_gives_113 : decode cX9_gives 113 = .ok (.iload 4, 2) := by decide +kernel
theorem dX9_gives_115 : decode cX9_gives 115 = .ok (.sipush 21000, 3) := by decide +kernel
theorem dX9_gives_118 : decode cX9_gives 118 = .ok (.sipush 21999, 3) := by decide +kernel
theorem dX9_gives_121 : decode cX9_gives 121 = .ok (.invokestatic 255, 3) := by decide +kernel
theorem dX9_gives_124 : decode cX9_gives 124 = .ok (.ifCond .eq 14, 3) := by decide +kernel
theorem dX9_gives_127 : decode cX9_gives 127 = .ok (.iconst 1, 1) := by decide +kernel
theorem dX9_gives_128 : decode cX9_gives 128 = .ok (.iload 4, 2) := by decide +kernel
theorem dX9_gives_130 : decode cX9_gives 130 = .ok (.sipush 21000, 3) := by decide +kernel
theorem dX9_gives_133 : decode cX9_gives 133 = .ok (.isub, 1) := by decide +kernel
theorem dX9_gives_134 : decode cX9_gives 134 = .ok (.ishl, 1) := by decide +kernel
theorem dX9_gives_135 : decode cX9_gives 135 = .ok (.goto 4, 3) := by decide +kernel
theorem dX9_gives_138 : decode cX9_gives 138 = .ok (.iconst 0, 1) := by decide +kernel
theorem dX9_gives_139 : decode cX9_gives 139 = .ok (.ior, 1) := by decide +kernel
theorem dX9_gives_140 : decode cX9_gives 140 = .ok (.iastore, 1) := by decide +kernel
theorem dX9_gives_141 : decode cX9_gives 141 = .ok (.aload_n 0, 1) := by decide +kernel
theorem dX9_gives_142 : decode cX9_gives 142 = .ok (.getfield 41, 3) := by decide +kernel
theorem dX9_gives_145 : decode cX9_gives 145 = .ok (.iload_n 1, 1) := by decide +kernel
theorem dX9_gives_146 : decode cX9_gives 146 = .ok (.dup2, 1) := by decide +kernel
theorem dX9_gives_147 : decode cX9_gives 147 = .ok (.iaload, 1) := by decide +kernel
theorem dX9_gives_148 : decode cX9_gives 148 = .ok (.iload 4, 2) := by decide +kernel
theorem dX9_gives_150 : decode cX9_gives 150 = .ok (.sipush 22000, 3) := by decide +kernel
theorem dX9_gives_153 : decode cX9_gives 153 = .ok (.sipush 29999, 3) := by decide +kernel
theorem dX9_gives_156 : decode cX9_gives 156 = .ok (.invokestatic 255, 3) := by decide +kernel
theorem dX9_gives_159 : decode cX9_gives 159 = .ok (.ifCond .eq 14, 3) := by decide +kernel
theorem dX9_gives_162 : decode cX9_gives 162 = .ok (.iconst 1, 1) := by decide +kernel
theorem dX9_gives_163 : decode cX9_gives 163 = .ok (.iload 4, 2) := by decide +kernel
theorem dX9_gives_165 : decode cX9_gives 165 = .ok (.sipush 22000, 3) := by decide +kernel
theorem dX9_gives_168 : decode cX9_gives 168 = .ok (.isub, 1) := by decide +kernel
theorem dX9_gives_169 : decode cX9_gives 169 = .ok (.ishl, 1) := by decide +kernel
theorem dX9_gives_170 : decode cX9_gives 170 = .ok (.goto 4, 3) := by decide +kernel
theorem dX9_gives_173 : decode cX9_gives 173 = .ok (.iconst 0, 1) := by decide +kernel
theorem dX9_gives_174 : decode cX9_gives 174 = .ok (.ior, 1) := by decide +kernel
theorem dX9_gives_175 : decode cX9_gives 175 = .ok (.iastore, 1) := by decide +kernel
theorem dX9_gives_176 : decode cX9_gives 176 = .ok (.iinc 3 1, 3) := by decide +kernel
theorem dX9_gives_179 : decode cX9_gives 179 = .ok (.goto (-144), 3) := by decide +kernel
theorem dX9_gives_182 : decode cX9_gives 182 = .ok (.iconst 0, 1) := by decide +kernel
theorem dX9_gives_183 : decode cX9_gives 183 = .ok (.istore_n 3, 1) := by decide +kernel
theorem dX9_gives_184 : decode cX9_gives 184 = .ok (.iload_n 3, 1) := by decide +kernel
theorem dX9_gives_185 : decode cX9_gives 185 = .ok (.bipush 12, 2) := by decide +kernel
theorem dX9_gives_187 : decode cX9_gives 187 = .ok (.if_icmp .ge 16, 3) := by decide +kernel
theorem dX9_gives_190 : decode cX9_gives 190 = .ok (.aload_n 0, 1) := by decide +kernel
theorem dX9_gives_191 : decode cX9_gives 191 = .ok (.getfield 44, 3) := by decide +kernel
theorem dX9_gives_194 : decode cX9_gives 194 = .ok (.iload_n 3, 1) := by decide +kernel
theorem dX9_gives_195 : decode cX9_gives 195 = .ok (.iconst 0, 1) := by decide +kernel
theorem dX9_gives_196 : decode cX9_gives 196 = .ok (.iastore, 1) := by decide +kernel
theorem dX9_gives_197 : decode cX9_gives 197 = .ok (.iinc 3 1, 3) := by decide +kernel
theorem dX9_gives_200 : decode cX9_gives 200 = .ok (.goto (-16), 3) := by decide +kernel
theorem dX9_gives_203 : decode cX9_gives 203 = .ok (.aload_n 0, 1) := by decide +kernel
theorem dX9_gives_204 : decode cX9_gives 204 = .ok (.invokevirtual 259, 3) := by decide +kernel
theorem dX9_gives_207 : decode cX9_gives 207 = .ok (.aload_n 0, 1) := by decide +kernel
theorem dX9_gives_208 : decode cX9_gives 208 = .ok (.getfield 74, 3) := by decide +kernel
theorem dX9_gives_211 : decode cX9_gives 211 = .ok (.iload_n 1, 1) := by decide +kernel
theorem dX9_gives_212 : decode cX9_gives 212 = .ok (.aload_n 0, 1) := by decide +kernel
theorem dX9_gives_213 : decode cX9_gives 213 = .ok (.getfield 47, 3) := by decide +kernel
theorem dX9_gives_216 : decode cX9_gives 216 = .ok (.iload_n 1, 1) := by decide +kernel
theorem dX9_gives_217 : decode cX9_gives 217 = .ok (.baload, 1) := by decide +kernel
theorem dX9_gives_218 : decode cX9_gives 218 = .ok (.ifCond .ne 7, 3) := by decide +kernel
theorem dX9_gives_221 : decode cX9_gives 221 = .ok (.iconst 1, 1) := by decide +kernel
theorem dX9_gives_222 : decode cX9_gives 222 = .ok (.goto 4, 3) := by decide +kernel
theorem dX9_gives_225 : decode cX9_gives 225 = .ok (.iconst 0, 1) := by decide +kernel
theorem dX9_gives_226 : decode cX9_gives 226 = .ok (.bastore, 1) := by decide +kernel
theorem dX9_gives_227 : decode cX9_gives 227 = .ok (.return_, 1) := by decide +kernel
theorem dX9_setsCell_0 : decode cX9_setsCell 0 = .ok (.aload_n 0, 1) := by decide +kernel
theorem dX9_setsCell_1 : decode cX9_setsCell 1 = .ok (.getfield 104, 3) := by decide +kernel
theorem dX9_setsCell_4 : decode cX9_setsCell 4 = .ok (.iload_n 1, 1) := by decide +kernel
theorem dX9_setsCell_5 : decode cX9_setsCell 5 = .ok (.iaload, 1) := by decide +kernel
theorem dX9_setsCell_6 : decode cX9_setsCell 6 = .ok (.istore_n 2, 1) := by decide +kernel
theorem dX9_setsCell_7 : decode cX9_setsCell 7 = .ok (.aload_n 0, 1) := by decide +kernel
theorem dX9_setsCell_8 : decode cX9_setsCell 8 = .ok (.getfield 101, 3) := by decide +kernel
theorem dX9_setsCell_11 : decode cX9_setsCell 11 = .ok (.iload_n 1, 1) := by decide +kernel
theorem dX9_setsCell_12 : decode cX9_setsCell 12 = .ok (.iaload, 1) := by decide +kernel
theorem dX9_setsCell_13 : decode cX9_setsCell 13 = .ok (.ifCond .ne 12, 3) := by decide +kernel
theorem dX9_setsCell_16 : decode cX9_setsCell 16 = .ok (.aload_n 0, 1) := by decide +kernel
theorem dX9_setsCell_17 : decode cX9_setsCell 17 = .ok (.iload_n 2, 1) := by decide +kernel
theorem dX9_setsCell_18 : decode cX9_setsCell 18 = .ok (.iload_n 1, 1) := by decide +kernel
theorem dX9_setsCell_19 : decode cX9_setsCell 19 = .ok (.invokevirtual 262, 3) := by decide +kernel
theorem dX9_setsCell_22 : decode cX9_setsCell 22 = .ok (.goto 67, 3) := by decide +kernel
theorem dX9_setsCell_25 : decode cX9_setsCell 25 = .ok (.aload_n 0, 1) := by decide +kernel
theorem dX9_setsCell_26 : decode cX9_setsCell 26 = .ok (.getfield 101, 3) := by decide +kernel
theorem dX9_setsCell_29 : decode cX9_setsCell 29 = .ok (.iload_n 1, 1) := by decide +kernel
theorem dX9_setsCell_30 : decode cX9_setsCell 30 = .ok (.iaload, 1) := by decide +kernel
theorem dX9_setsCell_31 : decode cX9_setsCell 31 = .ok (.iconst 1, 1) := by decide +kernel
theorem dX9_setsCell_32 : decode cX9_setsCell 32 = .ok (.if_icmp .ne 43, 3) := by decide +kernel
theorem dX9_setsCell_35 : decode cX9_setsCell 35 = .ok (.aload_n 0, 1) := by decide +kernel
theorem dX9_setsCell_36 : decode cX9_setsCell 36 = .ok (.getfield 47, 3) := by decide +kernel
theorem dX9_setsCell_39 : decode cX9_setsCell 39 = .ok (.iload_n 2, 1) := by decide +kernel
theorem dX9_setsCell_40 : decode cX9_setsCell 40 = .ok (.iconst 1, 1) := by decide +kernel
theorem dX9_setsCell_41 : decode cX9_setsCell 41 = .ok (.bastore, 1) := by decide +kernel
theorem dX9_setsCell_42 : decode cX9_setsCell 42 = .ok (.aload_n 0, 1) := by decide +kernel
theorem dX9_setsCell_43 : decode cX9_setsCell 43 = .ok (.getfield 50, 3) := by decide +kernel
theorem dX9_setsCell_46 : decode cX9_setsCell 46 = .ok (.iload_n 2, 1) := by decide +kernel
theorem dX9_setsCell_47 : decode cX9_setsCell 47 = .ok (.aload_n 0, 1) := by decide +kernel
theorem dX9_setsCell_48 : decode cX9_setsCell 48 = .ok (.getfield 107, 3) := by decide +kernel
theorem dX9_setsCell_51 : decode cX9_setsCell 51 = .ok (.iload_n 1, 1) := by decide +kernel
theorem dX9_setsCell_52 : decode cX9_setsCell 52 = .ok (.iaload, 1) := by decide +kernel
theorem dX9_setsCell_53 : decode cX9_setsCell 53 = .ok (.iastore, 1) := by decide +kernel
theorem dX9_setsCell_54 : decode cX9_setsCell 54 = .ok (.aload_n 0, 1) := by decide +kernel
theorem dX9_setsCell_55 : decode cX9_setsCell 55 = .ok (.getfield 74, 3) := by decide +kernel
theorem dX9_setsCell_58 : decode cX9_setsCell 58 = .ok (.iload_n 2, 1) := by decide +kernel
theorem dX9_setsCell_59 : decode cX9_setsCell 59 = .ok (.iconst 0, 1) := by decide +kernel
theorem dX9_setsCell_60 : decode cX9_setsCell 60 = .ok (.bastore, 1) := by decide +kernel
theorem dX9_setsCell_61 : decode cX9_setsCell 61 = .ok (.aload_n 0, 1) := by decide +kernel
theorem dX9_setsCell_62 : decode cX9_setsCell 62 = .ok (.iload_n 2, 1) := by decide +kernel
theorem dX9_setsCell_63 : decode cX9_setsCell 63 = .ok (.aload_n 0, 1) := by decide +kernel
theorem dX9_setsCell_64 : decode cX9_setsCell 64 = .ok (.getfield 107, 3) := by decide +kernel
theorem dX9_setsCell_67 : decode cX9_setsCell 67 = .ok (.iload_n 1, 1) := by decide +kernel
theorem dX9_setsCell_68 : decode cX9_setsCell 68 = .ok (.iaload, 1) := by decide +kernel
theorem dX9_setsCell_69 : decode cX9_setsCell 69 = .ok (.invokevirtual 214, 3) := by decide +kernel
theorem dX9_setsCell_72 : decode cX9_setsCell 72 = .ok (.goto 17, 3) := by decide +kernel
theorem dX9_setsCell_75 : decode cX9_setsCell 75 = .ok (.aload_n 0, 1) := by decide +kernel
theorem dX9_setsCell_76 : decode cX9_setsCell 76 = .ok (.getfield 47, 3) := by decide +kernel
theorem dX9_setsCell_79 : decode cX9_setsCell 79 = .ok (.iload_n 2, 1) := by decide +kernel
theorem dX9_setsCell_80 : decode cX9_setsCell 80 = .ok (.iconst 0, 1) := by decide +kernel
theorem dX9_setsCell_81 : decode cX9_setsCell 81 = .ok (.bastore, 1) := by decide +kernel
theorem dX9_setsCell_82 : decode cX9_setsCell 82 = .ok (.aload_n 0, 1) := by decide +kernel
theorem dX9_setsCell_83 : decode cX9_setsCell 83 = .ok (.getfield 74, 3) := by decide +kernel
theorem dX9_setsCell_86 : decode cX9_setsCell 86 = .ok (.iload_n 2, 1) := by decide +kernel
theorem dX9_setsCell_87 : decode cX9_setsCell 87 = .ok (.iconst 1, 1) := by decide +kernel
theorem dX9_setsCell_88 : decode cX9_setsCell 88 = .ok (.bastore, 1) := by decide +kernel
theorem dX9_setsCell_89 : decode cX9_setsCell 89 = .ok (.return_, 1) := by decide +kernel
theorem dX9_reads_0 : decode cX9_reads 0 = .ok (.aload_n 0, 1) := by decide +kernel
theorem dX9_reads_1 : decode cX9_reads 1 = .ok (.getfield 104, 3) := by decide +kernel
theorem dX9_reads_4 : decode cX9_reads 4 = .ok (.iload_n 1, 1) := by decide +kernel
theorem dX9_reads_5 : decode cX9_reads 5 = .ok (.iaload, 1) := by decide +kernel
theorem dX9_reads_6 : decode cX9_reads 6 = .ok (.istore_n 2, 1) := by decide +kernel
theorem dX9_reads_7 : decode cX9_reads 7 = .ok (.aload_n 0, 1) := by decide +kernel
theorem dX9_reads_8 : decode cX9_reads 8 = .ok (.getfield 80, 3) := by decide +kernel
theorem dX9_reads_11 : decode cX9_reads 11 = .ok (.iload_n 2, 1) := by decide +kernel
theorem dX9_reads_12 : decode cX9_reads 12 = .ok (.aload_n 0, 1) := by decide +kernel
theorem dX9_reads_13 : decode cX9_reads 13 = .ok (.getfield 218, 3) := by decide +kernel
theorem dX9_reads_16 : decode cX9_reads 16 = .ok (.iastore, 1) := by decide +kernel
theorem dX9_reads_17 : decode cX9_reads 17 = .ok (.aload_n 0, 1) := by decide +kernel
theorem dX9_reads_18 : decode cX9_reads 18 = .ok (.getfield 77, 3) := by decide +kernel
theorem dX9_reads_21 : decode cX9_reads 21 = .ok (.iload_n 2, 1) := by decide +kernel
theorem dX9_reads_22 : decode cX9_reads 22 = .ok (.iaload, 1) := by decide +kernel
theorem dX9_reads_23 : decode cX9_reads 23 = .ok (.aload_n 0, 1) := by decide +kernel
theorem dX9_reads_24 : decode cX9_reads 24 = .ok (.getfield 107, 3) := by decide +kernel
theorem dX9_reads_27 : decode cX9_reads 27 = .ok (.iload_n 1, 1) := by decide +kernel
theorem dX9_reads_28 : decode cX9_reads 28 = .ok (.iaload, 1) := by decide +kernel
theorem dX9_reads_29 : decode cX9_reads 29 = .ok (.if_icmp .eq 24, 3) := by decide +kernel
theorem dX9_reads_32 : decode cX9_reads 32 = .ok (.aload_n 0, 1) := by decide +kernel
theorem dX9_reads_33 : decode cX9_reads 33 = .ok (.getfield 77, 3) := by decide +kernel
theorem dX9_reads_36 : decode cX9_reads 36 = .ok (.iload_n 2, 1) := by decide +kernel
theorem dX9_reads_37 : decode cX9_reads 37 = .ok (.aload_n 0, 1) := by decide +kernel
theorem dX9_reads_38 : decode cX9_reads 38 = .ok (.getfield 107, 3) := by decide +kernel
theorem dX9_reads_41 : decode cX9_reads 41 = .ok (.iload_n 1, 1) := by decide +kernel
theorem dX9_reads_42 : decode cX9_reads 42 = .ok (.iaload, 1) := by decide +kernel
theorem dX9_reads_43 : decode cX9_reads 43 = .ok (.iastore, 1) := by decide +kernel
theorem dX9_reads_44 : decode cX9_reads 44 = .ok (.aload_n 0, 1) := by decide +kernel
theorem dX9_reads_45 : decode cX9_reads 45 = .ok (.aload_n 0, 1) := by decide +kernel
theorem dX9_reads_46 : decode cX9_reads 46 = .ok (.getfield 38, 3) := by decide +kernel
theorem dX9_reads_49 : decode cX9_reads 49 = .ok (.iload_n 2, 1) := by decide +kernel
theorem dX9_reads_50 : decode cX9_reads 50 = .ok (.invokevirtual 201, 3) := by decide +kernel
theorem dX9_reads_53 : decode cX9_reads 53 = .ok (.return_, 1) := by decide +kernel
theorem dX9_setsService_0 : decode cX9_setsService 0 = .ok (.aload_n 0, 1) := by decide +kernel
theorem dX9_setsService_1 : decode cX9_setsService 1 = .ok (.getfield 104, 3) := by decide +kernel
theorem dX9_setsService_4 : decode cX9_setsService 4 = .ok (.iload_n 1, 1) := by decide +kernel
theorem dX9_setsService_5 : decode cX9_setsService 5 = .ok (.iaload, 1) := by decide +kernel
theorem dX9_setsService_6 : decode cX9_setsService 6 = .ok (.istore_n 2, 1) := by decide +kernel
theorem dX9_setsService_7 : decode cX9_setsService 7 = .ok (.aload_n 0, 1) := by decide +kernel
theorem dX9_setsService_8 : decode cX9_setsService 8 = .ok (.getfield 53, 3) := by decide +kernel
theorem dX9_setsService_11 : decode cX9_setsService 11 = .ok (.iload_n 2, 1) := by decide +kernel
theorem dX9_setsService_12 : decode cX9_setsService 12 = .ok (.aload_n 0, 1) := by decide +kernel
theorem dX9_setsService_13 : decode cX9_setsService 13 = .ok (.getfield 101, 3) := by decide +kernel
theorem dX9_setsService_16 : decode cX9_setsService 16 = .ok (.iload_n 1, 1) := by decide +kernel
theorem dX9_setsService_17 : decode cX9_setsService 17 = .ok (.iaload, 1) := by decide +kernel
theorem dX9_setsService_18 : decode cX9_setsService 18 = .ok (.iconst 4, 1) := by decide +kernel
theorem dX9_setsService_19 : decode cX9_setsService 19 = .ok (.if_icmp .ne 12, 3) := by decide +kernel
theorem dX9_setsService_22 : decode cX9_setsService 22 = .ok (.aload_n 0, 1) := by decide +kernel
theorem dX9_setsService_23 : decode cX9_setsService 23 = .ok (.getfield 107, 3) := by decide +kernel
theorem dX9_setsService_26 : decode cX9_setsService 26 = .ok (.iload_n 1, 1) := by decide +kernel
theorem dX9_setsService_27 : decode cX9_setsService 27 = .ok (.iaload, 1) := by decide +kernel
theorem dX9_setsService_28 : decode cX9_setsService 28 = .ok (.goto 9, 3) := by decide +kernel
theorem dX9_setsService_31 : decode cX9_setsService 31 = .ok (.aload_n 0, 1) := by decide +kernel
theorem dX9_setsService_32 : decode cX9_setsService 32 = .ok (.getfield 53, 3) := by decide +kernel
theorem dX9_setsService_35 : decode cX9_setsService 35 = .ok (.iload_n 2, 1) := by decide +kernel
theorem dX9_setsService_36 : decode cX9_setsService 36 = .ok (.iaload, 1) := by decide +kernel
theorem dX9_setsService_37 : decode cX9_setsService 37 = .ok (.iastore, 1) := by decide +kernel
theorem dX9_setsService_38 : decode cX9_setsService 38 = .ok (.aload_n 0, 1) := by decide +kernel
theorem dX9_setsService_39 : decode cX9_setsService 39 = .ok (.getfield 56, 3) := by decide +kernel
theorem dX9_setsService_42 : decode cX9_setsService 42 = .ok (.iload_n 2, 1) := by decide +kernel
theorem dX9_setsService_43 : decode cX9_setsService 43 = .ok (.aload_n 0, 1) := by decide +kernel
theorem dX9_setsService_44 : decode cX9_setsService 44 = .ok (.getfield 101, 3) := by decide +kernel
theorem dX9_setsService_47 : decode cX9_setsService 47 = .ok (.iload_n 1, 1) := by decide +kernel
theorem dX9_setsService_48 : decode cX9_setsService 48 = .ok (.iaload, 1) := by decide +kernel
theorem dX9_setsService_49 : decode cX9_setsService 49 = .ok (.iconst 5, 1) := by decide +kernel
theorem dX9_setsService_50 : decode cX9_setsService 50 = .ok (.if_icmp .ne 12, 3) := by decide +kernel
theorem dX9_setsService_53 : decode cX9_setsService 53 = .ok (.aload_n 0, 1) := by decide +kernel
theorem dX9_setsService_54 : decode cX9_setsService 54 = .ok (.getfield 107, 3) := by decide +kernel
theorem dX9_setsService_57 : decode cX9_setsService 57 = .ok (.iload_n 1, 1) := by decide +kernel
theorem dX9_setsService_58 : decode cX9_setsService 58 = .ok (.iaload, 1) := by decide +kernel
theorem dX9_setsService_59 : decode cX9_setsService 59 = .ok (.goto 9, 3) := by decide +kernel
theorem dX9_setsService_62 : decode cX9_setsService 62 = .ok (.aload_n 0, 1) := by decide +kernel
theorem dX9_setsService_63 : decode cX9_setsService 63 = .ok (.getfield 56, 3) := by decide +kernel
theorem dX9_setsService_66 : decode cX9_setsService 66 = .ok (.iload_n 2, 1) := by decide +kernel
theorem dX9_setsService_67 : decode cX9_setsService 67 = .ok (.iaload, 1) := by decide +kernel
theorem dX9_setsService_68 : decode cX9_setsService 68 = .ok (.iastore, 1) := by decide +kernel
theorem dX9_setsService_69 : decode cX9_setsService 69 = .ok (.aload_n 0, 1) := by decide +kernel
theorem dX9_setsService_70 : decode cX9_setsService 70 = .ok (.getfield 62, 3) := by decide +kernel
theorem dX9_setsService_73 : decode cX9_setsService 73 = .ok (.iload_n 2, 1) := by decide +kernel
theorem dX9_setsService_74 : decode cX9_setsService 74 = .ok (.aload_n 0, 1) := by decide +kernel
theorem dX9_setsService_75 : decode cX9_setsService 75 = .ok (.getfield 101, 3) := by decide +kernel
theorem dX9_setsService_78 : decode cX9_setsService 78 = .ok (.iload_n 1, 1) := by decide +kernel
theorem dX9_setsService_79 : decode cX9_setsService 79 = .ok (.iaload, 1) := by decide +kernel
theorem dX9_setsService_80 : decode cX9_setsService 80 = .ok (.bipush 6, 2) := by decide +kernel
theorem dX9_setsService_82 : decode cX9_setsService 82 = .ok (.if_icmp .ne 12, 3) := by decide +kernel
theorem dX9_setsService_85 : decode cX9_setsService 85 = .ok (.aload_n 0, 1) := by decide +kernel
theorem dX9_setsService_86 : decode cX9_setsService 86 = .ok (.getfield 107, 3) := by decide +kernel
theorem dX9_setsService_89 : decode cX9_setsService 89 = .ok (.iload_n 1, 1) := by decide +kernel
theorem dX9_setsService_90 : decode cX9_setsService 90 = .ok (.iaload, 1) := by decide +kernel
theorem dX9_setsService_91 : decode cX9_setsService 91 = .ok (.goto 9, 3) := by decide +kernel
theorem dX9_setsService_94 : decode cX9_setsService 94 = .ok (.aload_n 0, 1) := by decide +kernel
theorem dX9_setsService_95 : decode cX9_setsService 95 = .ok (.getfield 62, 3) := by decide +kernel
theorem dX9_setsService_98 : decode cX9_setsService 98 = .ok (.iload_n 2, 1) := by decide +kernel
theorem dX9_setsService_99 : decode cX9_setsService 99 = .ok (.iaload, 1) := by decide +kernel
theorem dX9_setsService_100 : decode cX9_setsService 100 = .ok (.iastore, 1) := by decide +kernel
theorem dX9_setsService_101 : decode cX9_setsService 101 = .ok (.aload_n 0, 1) := by decide +kernel
theorem dX9_setsService_102 : decode cX9_setsService 102 = .ok (.getfield 65, 3) := by decide +kernel
theorem dX9_setsService_105 : decode cX9_setsService 105 = .ok (.iload_n 2, 1) := by decide +kernel
theorem dX9_setsService_106 : decode cX9_setsService 106 = .ok (.aload_n 0, 1) := by decide +kernel
theorem dX9_setsService_107 : decode cX9_setsService 107 = .ok (.getfield 101, 3) := by decide +kernel
theorem dX9_setsService_110 : decode cX9_setsService 110 = .ok (.iload_n 1, 1) := by decide +kernel
theorem dX9_setsService_111 : decode cX9_setsService 111 = .ok (.iaload, 1) := by decide +kernel
theorem dX9_setsService_112 : decode cX9_setsService 112 = .ok (.bipush 6, 2) := by decide +kernel
theorem dX9_setsService_114 : decode cX9_setsService 114 = .ok (.if_icmp .ne 12, 3) := by decide +kernel
theorem dX9_setsService_117 : decode cX9_setsService 117 = .ok (.aload_n 0, 1) := by decide +kernel
theorem dX9_setsService_118 : decode cX9_setsService 118 = .ok (.getfield 110, 3) := by decide +kernel
theorem dX9_setsService_121 : decode cX9_setsService 121 = .ok (.iload_n 1, 1) := by decide +kernel
theorem dX9_setsService_122 : decode cX9_setsService 122 = .ok (.iaload, 1) := by decide +kernel
theorem dX9_setsService_123 : decode cX9_setsService 123 = .ok (.goto 9, 3) := by decide +kernel
theorem dX9_setsService_126 : decode cX9_setsService 126 = .ok (.aload_n 0, 1) := by decide +kernel
theorem dX9_setsService_127 : decode cX9_setsService 127 = .ok (.getfield 65, 3) := by decide +kernel
theorem dX9_setsService_130 : decode cX9_setsService 130 = .ok (.iload_n 2, 1) := by decide +kernel
theorem dX9_setsService_131 : decode cX9_setsService 131 = .ok (.iaload, 1) := by decide +kernel
theorem dX9_setsService_132 : decode cX9_setsService 132 = .ok (.iastore, 1) := by decide +kernel
theorem dX9_setsService_133 : decode cX9_setsService 133 = .ok (.aload_n 0, 1) := by decide +kernel
theorem dX9_setsService_134 : decode cX9_setsService 134 = .ok (.getfield 68, 3) := by decide +kernel
theorem dX9_setsService_137 : decode cX9_setsService 137 = .ok (.iload_n 2, 1) := by decide +kernel
theorem dX9_setsService_138 : decode cX9_setsService 138 = .ok (.aload_n 0, 1) := by decide +kernel
theorem dX9_setsService_139 : decode cX9_setsService 139 = .ok (.getfield 101, 3) := by decide +kernel
theorem dX9_setsService_142 : decode cX9_setsService 142 = .ok (.iload_n 1, 1) := by decide +kernel
theorem dX9_setsService_143 : decode cX9_setsService 143 = .ok (.iaload, 1) := by decide +kernel
theorem dX9_setsService_144 : decode cX9_setsService 144 = .ok (.bipush 8, 2) := by decide +kernel
theorem dX9_setsService_146 : decode cX9_setsService 146 = .ok (.if_icmp .ne 12, 3) := by decide +kernel
theorem dX9_setsService_149 : decode cX9_setsService 149 = .ok (.aload_n 0, 1) := by decide +kernel
theorem dX9_setsService_150 : decode cX9_setsService 150 = .ok (.getfield 107, 3) := by decide +kernel
theorem dX9_setsService_153 : decode cX9_setsService 153 = .ok (.iload_n 1, 1) := by decide +kernel
theorem dX9_setsService_154 : decode cX9_setsService 154 = .ok (.iaload, 1) := by decide +kernel
theorem dX9_setsService_155 : decode cX9_setsService 155 = .ok (.goto 9, 3) := by decide +kernel
theorem dX9_setsService_158 : decode cX9_setsService 158 = .ok (.aload_n 0, 1) := by decide +kernel
theorem dX9_setsService_159 : decode cX9_setsService 159 = .ok (.getfield 68, 3) := by decide +kernel
theorem dX9_setsService_162 : decode cX9_setsService 162 = .ok (.iload_n 2, 1) := by decide +kernel
theorem dX9_setsService_163 : decode cX9_setsService 163 = .ok (.iaload, 1) := by decide +kernel
theorem dX9_setsService_164 : decode cX9_setsService 164 = .ok (.iastore, 1) := by decide +kernel
theorem dX9_setsService_165 : decode cX9_setsService 165 = .ok (.aload_n 0, 1) := by decide +kernel
theorem dX9_setsService_166 : decode cX9_setsService 166 = .ok (.getfield 83, 3) := by decide +kernel
theorem dX9_setsService_169 : decode cX9_setsService 169 = .ok (.iload_n 2, 1) := by decide +kernel
theorem dX9_setsService_170 : decode cX9_setsService 170 = .ok (.aload_n 0, 1) := by decide +kernel
theorem dX9_setsService_171 : decode cX9_setsService 171 = .ok (.getfield 101, 3) := by decide +kernel
theorem dX9_setsService_174 : decode cX9_setsService 174 = .ok (.iload_n 1, 1) := by decide +kernel
theorem dX9_setsService_175 : decode cX9_setsService 175 = .ok (.iaload, 1) := by decide +kernel
theorem dX9_setsService_176 : decode cX9_setsService 176 = .ok (.bipush 9, 2) := by decide +kernel
theorem dX9_setsService_178 : decode cX9_setsService 178 = .ok (.if_icmp .ne 7, 3) := by decide +kernel
theorem dX9_setsService_181 : decode cX9_setsService 181 = .ok (.iconst 0, 1) := by decide +kernel
theorem dX9_setsService_182 : decode cX9_setsService 182 = .ok (.goto 9, 3) := by decide +kernel
theorem dX9_setsService_185 : decode cX9_setsService 185 = .ok (.aload_n 0, 1) := by decide +kernel
theorem dX9_setsService_186 : decode cX9_setsService 186 = .ok (.getfield 83, 3) := by decide +kernel
theorem dX9_setsService_189 : decode cX9_setsService 189 = .ok (.iload_n 2, 1) := by decide +kernel
theorem dX9_setsService_190 : decode cX9_setsService 190 = .ok (.iaload, 1) := by decide +kernel
theorem dX9_setsService_191 : decode cX9_setsService 191 = .ok (.iastore, 1) := by decide +kernel
theorem dX9_setsService_192 : decode cX9_setsService 192 = .ok (.aload_n 0, 1) := by decide +kernel
theorem dX9_setsService_193 : decode cX9_setsService 193 = .ok (.getfield 101, 3) := by decide +kernel
theorem dX9_setsService_196 : decode cX9_setsService 196 = .ok (.iload_n 1, 1) := by decide +kernel
theorem dX9_setsService_197 : decode cX9_setsService 197 = .ok (.iaload, 1) := by decide +kernel
theorem dX9_setsService_198 : decode cX9_setsService 198 = .ok (.bipush 7, 2) := by decide +kernel
theorem dX9_setsService_200 : decode cX9_setsService 200 = .ok (.if_icmp .ne 49, 3) := by decide +kernel
theorem dX9_setsService_203 : decode cX9_setsService 203 = .ok (.iconst 1, 1) := by decide +kernel
theorem dX9_setsService_204 : decode cX9_setsService 204 = .ok (.aload_n 0, 1) := by decide +kernel
theorem dX9_setsService_205 : decode cX9_setsService 205 = .ok (.getfield 107, 3) := by decide +kernel
theorem dX9_setsService_208 : decode cX9_setsService 208 = .ok (.iload_n 1, 1) := by decide +kernel
theorem dX9_setsService_209 : decode cX9_setsService 209 = .ok (.iaload, 1) := by decide +kernel
theorem dX9_setsService_210 : decode cX9_setsService 210 = .ok (.ishl, 1) := by decide +kernel
theorem dX9_setsService_211 : decode cX9_setsService 211 = .ok (.istore_n 3, 1) := by decide +kernel
theorem dX9_setsService_212 : decode cX9_setsService 212 = .ok (.aload_n 0, 1) := by decide +kernel
theorem dX9_setsService_213 : decode cX9_setsService 213 = .ok (.getfield 59, 3) := by decide +kernel
theorem dX9_setsService_216 : decode cX9_setsService 216 = .ok (.iload_n 2, 1) := by decide +kernel
theorem dX9_setsService_217 : decode cX9_setsService 217 = .ok (.aload_n 0, 1) := by decide +kernel
theorem dX9_setsService_218 : decode cX9_setsService 218 = .ok (.getfield 110, 3) := by decide +kernel
theorem dX9_setsService_221 : decode cX9_setsService 221 = .ok (.iload_n 1, 1) := by decide +kernel
theorem dX9_setsService_222 : decode cX9_setsService 222 = .ok (.iaload, 1) := by decide +kernel
theorem dX9_setsService_223 : decode cX9_setsService 223 = .ok (.iconst 1, 1) := by decide +kernel
theorem dX9_setsService_224 : decode cX9_setsService 224 = .ok (.if_icmp .ne 14, 3) := by decide +kernel
theorem dX9_setsService_227 : decode cX9_setsService 227 = .ok (.aload_n 0, 1) := by decide +kernel
theorem dX9_setsService_228 : decode cX9_setsService 228 = .ok (.getfield 59, 3) := by decide +kernel
theorem dX9_setsService_231 : decode cX9_setsService 231 = .ok (.iload_n 2, 1) := by decide +kernel
theorem dX9_setsService_232 : decode cX9_setsService 232 = .ok (.iaload, 1) := by decide +kernel
theorem dX9_setsService_233 : decode cX9_setsService 233 = .ok (.iload_n 3, 1) := by decide +kernel
theorem dX9_setsService_234 : decode cX9_setsService 234 = .ok (.ior, 1) := by decide +kernel
theorem dX9_setsService_235 : decode cX9_setsService 235 = .ok (.goto 13, 3) := by decide +kernel
theorem dX9_setsService_238 : decode cX9_setsService 238 = .ok (.aload_n 0, 1) := by decide +kernel
theorem dX9_setsService_239 : decode cX9_setsService 239 = .ok (.getfield 59, 3) := by decide +kernel
theorem dX9_setsService_242 : decode cX9_setsService 242 = .ok (.iload_n 2, 1) := by decide +kernel
theorem dX9_setsService_243 : decode cX9_setsService 243 = .ok (.iaload, 1) := by decide +kernel
theorem dX9_setsService_244 : decode cX9_setsService 244 = .ok (.iload_n 3, 1) := by decide +kernel
theorem dX9_setsService_245 : decode cX9_setsService 245 = .ok (.iconst (-1), 1) := by decide +kernel
theorem dX9_setsService_246 : decode cX9_setsService 246 = .ok (.ixor, 1) := by decide +kernel
theorem dX9_setsService_247 : decode cX9_setsService 247 = .ok (.iand, 1) := by decide +kernel
theorem dX9_setsService_248 : decode cX9_setsService 248 = .ok (.iastore, 1) := by decide +kernel
theorem dX9_setsService_249 : decode cX9_setsService 249 = .ok (.return_, 1) := by decide +kernel
theorem dX9_does_0 : decode cX9_does 0 = .ok (.aload_n 0, 1) := by decide +kernel
theorem dX9_does_1 : decode cX9_does 1 = .ok (.getfield 101, 3) := by decide +kernel
theorem dX9_does_4 : decode cX9_does 4 = .ok (.iload_n 1, 1) := by decide +kernel
theorem dX9_does_5 : decode cX9_does 5 = .ok (.iaload, 1) := by decide +kernel
theorem dX9_does_6 : decode cX9_does 6 = .ok (.bipush 10, 2) := by decide +kernel
theorem dX9_does_8 : decode cX9_does 8 = .ok (.if_icmp .ne 42, 3) := by decide +kernel
theorem dX9_does_11 : decode cX9_does 11 = .ok (.iconst 0, 1) := by decide +kernel
theorem dX9_does_12 : decode cX9_does 12 = .ok (.istore_n 2, 1) := by decide +kernel
theorem dX9_does_13 : decode cX9_does 13 = .ok (.iconst 0, 1) := by decide +kernel
theorem dX9_does_14 : decode cX9_does 14 = .ok (.istore_n 3, 1) := by decide +kernel
theorem dX9_does_15 : decode cX9_does 15 = .ok (.iload_n 3, 1) := by decide +kernel
theorem dX9_does_16 : decode cX9_does 16 = .ok (.aload_n 0, 1) := by decide +kernel
theorem dX9_does_17 : decode cX9_does 17 = .ok (.getfield 104, 3) := by decide +kernel
theorem dX9_does_20 : decode cX9_does 20 = .ok (.iload_n 1, 1) := by decide +kernel
theorem dX9_does_21 : decode cX9_does 21 = .ok (.iaload, 1) := by decide +kernel
theorem dX9_does_22 : decode cX9_does 22 = .ok (.if_icmp .ge 26, 3) := by decide +kernel
theorem dX9_does_25 : decode cX9_does 25 = .ok (.aload_n 0, 1) := by decide +kernel
theorem dX9_does_26 : decode cX9_does 26 = .ok (.dup, 1) := by decide +kernel
theorem dX9_does_27 : decode cX9_does 27 = .ok (.getfield 218, 3) := by decide +kernel
theorem dX9_does_30 : decode cX9_does 30 = .ok (.iconst 1, 1) := by decide +kernel
theorem dX9_does_31 : decode cX9_does 31 = .ok (.iadd, 1) := by decide +kernel
theorem dX9_does_32 : decode cX9_does 32 = .ok (.putfield 218, 3) := by decide +kernel
theorem dX9_does_35 : decode cX9_does 35 = .ok (.iload_n 2, 1) := by decide +kernel
theorem dX9_does_36 : decode cX9_does 36 = .ok (.aload_n 0, 1) := by decide +kernel
theorem dX9_does_37 : decode cX9_does 37 = .ok (.invokevirtual 265, 3) := by decide +kernel
theorem dX9_does_40 : decode cX9_does 40 = .ok (.iadd, 1) := by decide +kernel
theorem dX9_does_41 : decode cX9_does 41 = .ok (.istore_n 2, 1) := by decide +kernel
theorem dX9_does_42 : decode cX9_does 42 = .ok (.iinc 3 1, 3) := by decide +kernel
theorem dX9_does_45 : decode cX9_does 45 = .ok (.goto (-30), 3) := by decide +kernel
theorem dX9_does_48 : decode cX9_does 48 = .ok (.iload_n 2, 1) := by decide +kernel
theorem dX9_does_49 : decode cX9_does 49 = .ok (.ireturn, 1) := by decide +kernel
theorem dX9_does_50 : decode cX9_does 50 = .ok (.aload_n 0, 1) := by decide +kernel
theorem dX9_does_51 : decode cX9_does 51 = .ok (.getfield 101, 3) := by decide +kernel
theorem dX9_does_54 : decode cX9_does 54 = .ok (.iload_n 1, 1) := by decide +kernel
theorem dX9_does_55 : decode cX9_does 55 = .ok (.iaload, 1) := by decide +kernel
theorem dX9_does_56 : decode cX9_does 56 = .ok (.iconst 2, 1) := by decide +kernel
theorem dX9_does_57 : decode cX9_does 57 = .ok (.if_icmp .gt 11, 3) := by decide +kernel
theorem dX9_does_60 : decode cX9_does 60 = .ok (.aload_n 0, 1) := by decide +kernel
theorem dX9_does_61 : decode cX9_does 61 = .ok (.iload_n 1, 1) := by decide +kernel
theorem dX9_does_62 : decode cX9_does 62 = .ok (.invokevirtual 268, 3) := by decide +kernel
theorem dX9_does_65 : decode cX9_does 65 = .ok (.goto 26, 3) := by decide +kernel
theorem dX9_does_68 : decode cX9_does 68 = .ok (.aload_n 0, 1) := by decide +kernel
theorem dX9_does_69 : decode cX9_does 69 = .ok (.getfield 101, 3) := by decide +kernel
theorem dX9_does_72 : decode cX9_does 72 = .ok (.iload_n 1, 1) := by decide +kernel
theorem dX9_does_73 : decode cX9_does 73 = .ok (.iaload, 1) := by decide +kernel
theorem dX9_does_74 : decode cX9_does 74 = .ok (.iconst 3, 1) := by decide +kernel
theorem dX9_does_75 : decode cX9_does 75 = .ok (.if_icmp .ne 11, 3) := by decide +kernel
theorem dX9_does_78 : decode cX9_does 78 = .ok (.aload_n 0, 1) := by decide +kernel
theorem dX9_does_79 : decode cX9_does 79 = .ok (.iload_n 1, 1) := by decide +kernel
theorem dX9_does_80 : decode cX9_does 80 = .ok (.invokevirtual 271, 3) := by decide +kernel
theorem dX9_does_83 : decode cX9_does 83 = .ok (.goto 8, 3) := by decide +kernel
theorem dX9_does_86 : decode cX9_does 86 = .ok (.aload_n 0, 1) := by decide +kernel
theorem dX9_does_87 : decode cX9_does 87 = .ok (.iload_n 1, 1) := by decide +kernel
theorem dX9_does_88 : decode cX9_does 88 = .ok (.invokevirtual 274, 3) := by decide +kernel
theorem dX9_does_91 : decode cX9_does 91 = .ok (.aload_n 0, 1) := by decide +kernel
theorem dX9_does_92 : decode cX9_does 92 = .ok (.invokevirtual 265, 3) := by decide +kernel
theorem dX9_does_95 : decode cX9_does 95 = .ok (.ireturn, 1) := by decide +kernel
theorem dX9_keeps_0 : decode cX9_keeps 0 = .ok (.aload_n 0, 1) := by decide +kernel
theorem dX9_keeps_1 : decode cX9_keeps 1 = .ok (.getfield 101, 3) := by decide +kernel
theorem dX9_keeps_4 : decode cX9_keeps 4 = .ok (.aload_n 0, 1) := by decide +kernel
theorem dX9_keeps_5 : decode cX9_keeps 5 = .ok (.getfield 277, 3) := by decide +kernel
theorem dX9_keeps_8 : decode cX9_keeps 8 = .ok (.iload_n 1, 1) := by decide +kernel
theorem dX9_keeps_9 : decode cX9_keeps 9 = .ok (.iastore, 1) := by decide +kernel
theorem dX9_keeps_10 : decode cX9_keeps 10 = .ok (.aload_n 0, 1) := by decide +kernel
theorem dX9_keeps_11 : decode cX9_keeps 11 = .ok (.getfield 104, 3) := by decide +kernel
theorem dX9_keeps_14 : decode cX9_keeps 14 = .ok (.aload_n 0, 1) := by decide +kernel
theorem dX9_keeps_15 : decode cX9_keeps 15 = .ok (.getfield 277, 3) := by decide +kernel
theorem dX9_keeps_18 : decode cX9_keeps 18 = .ok (.iload_n 2, 1) := by decide +kernel
theorem dX9_keeps_19 : decode cX9_keeps 19 = .ok (.iastore, 1) := by decide +kernel
theorem dX9_keeps_20 : decode cX9_keeps 20 = .ok (.aload_n 0, 1) := by decide +kernel
theorem dX9_keeps_21 : decode cX9_keeps 21 = .ok (.getfield 107, 3) := by decide +kernel
theorem dX9_keeps_24 : decode cX9_keeps 24 = .ok (.aload_n 0, 1) := by decide +kernel
theorem dX9_keeps_25 : decode cX9_keeps 25 = .ok (.getfield 277, 3) := by decide +kernel
theorem dX9_keeps_28 : decode cX9_keeps 28 = .ok (.iload_n 3, 1) := by decide +kernel
theorem dX9_keeps_29 : decode cX9_keeps 29 = .ok (.iastore, 1) := by decide +kernel
theorem dX9_keeps_30 : decode cX9_keeps 30 = .ok (.aload_n 0, 1) := by decide +kernel
theorem dX9_keeps_31 : decode cX9_keeps 31 = .ok (.getfield 110, 3) := by decide +kernel
theorem dX9_keeps_34 : decode cX9_keeps 34 = .ok (.aload_n 0, 1) := by decide +kernel
theorem dX9_keeps_35 : decode cX9_keeps 35 = .ok (.getfield 277, 3) := by decide +kernel
theorem dX9_keeps_38 : decode cX9_keeps 38 = .ok (.iload 4, 2) := by decide +kernel
theorem dX9_keeps_40 : decode cX9_keeps 40 = .ok (.iastore, 1) := by decide +kernel
theorem dX9_keeps_41 : decode cX9_keeps 41 = .ok (.aload_n 0, 1) := by decide +kernel
theorem dX9_keeps_42 : decode cX9_keeps 42 = .ok (.getfield 113, 3) := by decide +kernel
theorem dX9_keeps_45 : decode cX9_keeps 45 = .ok (.aload_n 0, 1) := by decide +kernel
theorem dX9_keeps_46 : decode cX9_keeps 46 = .ok (.getfield 277, 3) := by decide +kernel
theorem dX9_keeps_49 : decode cX9_keeps 49 = .ok (.aload_n 0, 1) := by decide +kernel
theorem dX9_keeps_50 : decode cX9_keeps 50 = .ok (.getfield 218, 3) := by decide +kernel
theorem dX9_keeps_53 : decode cX9_keeps 53 = .ok (.iastore, 1) := by decide +kernel
theorem dX9_keeps_54 : decode cX9_keeps 54 = .ok (.aload_n 0, 1) := by decide +kernel
theorem dX9_keeps_55 : decode cX9_keeps 55 = .ok (.dup, 1) := by decide +kernel
theorem dX9_keeps_56 : decode cX9_keeps 56 = .ok (.getfield 277, 3) := by decide +kernel
theorem dX9_keeps_59 : decode cX9_keeps 59 = .ok (.iconst 1, 1) := by decide +kernel
theorem dX9_keeps_60 : decode cX9_keeps 60 = .ok (.iadd, 1) := by decide +kernel
theorem dX9_keeps_61 : decode cX9_keeps 61 = .ok (.putfield 277, 3) := by decide +kernel
theorem dX9_keeps_64 : decode cX9_keeps 64 = .ok (.aload_n 0, 1) := by decide +kernel
theorem dX9_keeps_65 : decode cX9_keeps 65 = .ok (.aload_n 0, 1) := by decide +kernel
theorem dX9_keeps_66 : decode cX9_keeps 66 = .ok (.getfield 277, 3) := by decide +kernel
theorem dX9_keeps_69 : decode cX9_keeps 69 = .ok (.iconst 1, 1) := by decide +kernel
theorem dX9_keeps_70 : decode cX9_keeps 70 = .ok (.isub, 1) := by decide +kernel
theorem dX9_keeps_71 : decode cX9_keeps 71 = .ok (.invokevirtual 280, 3) := by decide +kernel
theorem dX9_keeps_74 : decode cX9_keeps 74 = .ok (.ireturn, 1) := by decide +kernel
theorem dX9_replays_0 : decode cX9_replays 0 = .ok (.aload_n 0, 1) := by decide +kernel
theorem dX9_replays_1 : decode cX9_replays 1 = .ok (.invokevirtual 126, 3) := by decide +kernel
theorem dX9_replays_4 : decode cX9_replays 4 = .ok (.iconst 0, 1) := by decide +kernel
theorem dX9_replays_5 : decode cX9_replays 5 = .ok (.istore_n 1, 1) := by decide +kernel
theorem dX9_replays_6 : decode cX9_replays 6 = .ok (.iload_n 1, 1) := by decide +kernel
theorem dX9_replays_7 : decode cX9_replays 7 = .ok (.aload_n 0, 1) := by decide +kernel
theorem dX9_replays_8 : decode cX9_replays 8 = .ok (.getfield 277, 3) := by decide +kernel
theorem dX9_replays_11 : decode cX9_replays 11 = .ok (.if_icmp .ge 15, 3) := by decide +kernel
theorem dX9_replays_14 : decode cX9_replays 14 = .ok (.aload_n 0, 1) := by decide +kernel
theorem dX9_replays_15 : decode cX9_replays 15 = .ok (.iload_n 1, 1) := by decide +kernel
theorem dX9_replays_16 : decode cX9_replays 16 = .ok (.invokevirtual 280, 3) := by decide +kernel
theorem dX9_replays_19 : decode cX9_replays 19 = .ok (.pop, 1) := by decide +kernel
theorem dX9_replays_20 : decode cX9_replays 20 = .ok (.iinc 1 1, 3) := by decide +kernel
theorem dX9_replays_23 : decode cX9_replays 23 = .ok (.goto (-17), 3) := by decide +kernel
theorem dX9_replays_26 : decode cX9_replays 26 = .ok (.return_, 1) := by decide +kernel
theorem dX9_hasRoom_0 : decode cX9_hasRoom 0 = .ok (.aload_n 0, 1) := by decide +kernel
theorem dX9_hasRoom_1 : decode cX9_hasRoom 1 = .ok (.getfield 277, 3) := by decide +kernel
theorem dX9_hasRoom_4 : decode cX9_hasRoom 4 = .ok (.bipush 40, 2) := by decide +kernel
theorem dX9_hasRoom_6 : decode cX9_hasRoom 6 = .ok (.if_icmp .ge 7, 3) := by decide +kernel
theorem dX9_hasRoom_9 : decode cX9_hasRoom 9 = .ok (.iconst 1, 1) := by decide +kernel
theorem dX9_hasRoom_10 : decode cX9_hasRoom 10 = .ok (.goto 4, 3) := by decide +kernel
theorem dX9_hasRoom_13 : decode cX9_hasRoom 13 = .ok (.iconst 0, 1) := by decide +kernel
theorem dX9_hasRoom_14 : decode cX9_hasRoom 14 = .ok (.ireturn, 1) := by decide +kernel
theorem dX9_isCell_0 : decode cX9_isCell 0 = .ok (.iload_n 0, 1) := by decide +kernel
theorem dX9_isCell_1 : decode cX9_isCell 1 = .ok (.bipush 12, 2) := by decide +kernel
theorem dX9_isCell_3 : decode cX9_isCell 3 = .ok (.invokestatic 283, 3) := by decide +kernel
theorem dX9_isCell_6 : decode cX9_isCell 6 = .ok (.ireturn, 1) := by decide +kernel
theorem dX9_isService_0 : decode cX9_isService 0 = .ok (.iload_n 0, 1) := by decide +kernel
theorem dX9_isService_1 : decode cX9_isService 1 = .ok (.iconst 5, 1) := by decide +kernel
theorem dX9_isService_2 : decode cX9_isService 2 = .ok (.invokestatic 283, 3) := by decide +kernel
theorem dX9_isService_5 : decode cX9_isService 5 = .ok (.ireturn, 1) := by decide +kernel
theorem dX9_wouldHang_0 : decode cX9_wouldHang 0 = .ok (.iconst 0, 1) := by decide +kernel
theorem dX9_wouldHang_1 : decode cX9_wouldHang 1 = .ok (.istore_n 2, 1) := by decide +kernel
theorem dX9_wouldHang_2 : decode cX9_wouldHang 2 = .ok (.iconst 0, 1) := by decide +kernel
theorem dX9_wouldHang_3 : decode cX9_wouldHang 3 = .ok (.istore_n 3, 1) := by decide +kernel
theorem dX9_wouldHang_4 : decode cX9_wouldHang 4 = .ok (.iload_n 3, 1) := by decide +kernel
theorem dX9_wouldHang_5 : decode cX9_wouldHang 5 = .ok (.aload_n 0, 1) := by decide +kernel
theorem dX9_wouldHang_6 : decode cX9_wouldHang 6 = .ok (.getfield 154, 3) := by decide +kernel
theorem dX9_wouldHang_9 : decode cX9_wouldHang 9 = .ok (.if_icmp .ge 46, 3) := by decide +kernel
theorem dX9_wouldHang_12 : decode cX9_wouldHang 12 = .ok (.iload_n 2, 1) := by decide +kernel
theorem dX9_wouldHang_13 : decode cX9_wouldHang 13 = .ok (.aload_n 0, 1) := by decide +kernel
theorem dX9_wouldHang_14 : decode cX9_wouldHang 14 = .ok (.getfield 13, 3) := by decide +kernel
theorem dX9_wouldHang_17 : decode cX9_wouldHang 17 = .ok (.iload_n 3, 1) := by decide +kernel
theorem dX9_wouldHang_18 : decode cX9_wouldHang 18 = .ok (.iaload, 1) := by decide +kernel
theorem dX9_wouldHang_19 : decode cX9_wouldHang 19 = .ok (.sipush 20000, 3) := by decide +kernel
theorem dX9_wouldHang_22 : decode cX9_wouldHang 22 = .ok (.sipush 20999, 3) := by decide +kernel
theorem dX9_wouldHang_25 : decode cX9_wouldHang 25 = .ok (.invokestatic 255, 3) := by decide +kernel
theorem dX9_wouldHang_28 : decode cX9_wouldHang 28 = .ok (.ifCond .eq 18, 3) := by decide +kernel
theorem dX9_wouldHang_31 : decode cX9_wouldHang 31 = .ok (.iconst 1, 1) := by decide +kernel
theorem dX9_wouldHang_32 : decode cX9_wouldHang 32 = .ok (.aload_n 0, 1) := by decide +kernel
theorem dX9_wouldHang_33 : decode cX9_wouldHang 33 = .ok (.getfield 13, 3) := by decide +kernel
theorem dX9_wouldHang_36 : decode cX9_wouldHang 36 = .ok (.iload_n 3, 1) := by decide +kernel
theorem dX9_wouldHang_37 : decode cX9_wouldHang 37 = .ok (.iaload, 1) := by decide +kernel
theorem dX9_wouldHang_38 : decode cX9_wouldHang 38 = .ok (.sipush 20000, 3) := by decide +kernel
theorem dX9_wouldHang_41 : decode cX9_wouldHang 41 = .ok (.isub, 1) := by decide +kernel
theorem dX9_wouldHang_42 : decode cX9_wouldHang 42 = .ok (.ishl, 1) := by decide +kernel
theorem dX9_wouldHang_43 : decode cX9_wouldHang 43 = .ok (.goto 4, 3) := by decide +kernel
theorem dX9_wouldHang_46 : decode cX9_wouldHang 46 = .ok (.iconst 0, 1) := by decide +kernel
theorem dX9_wouldHang_47 : decode cX9_wouldHang 47 = .ok (.ior, 1) := by decide +kernel
theorem dX9_wouldHang_48 : decode cX9_wouldHang 48 = .ok (.istore_n 2, 1) := by decide +kernel
theorem dX9_wouldHang_49 : decode cX9_wouldHang 49 = .ok (.iinc 3 1, 3) := by decide +kernel
theorem dX9_wouldHang_52 : decode cX9_wouldHang 52 = .ok (.goto (-48), 3) := by decide +kernel
theorem dX9_wouldHang_55 : decode cX9_wouldHang 55 = .ok (.aload_n 0, 1) := by decide +kernel
theorem dX9_wouldHang_56 : decode cX9_wouldHang 56 = .ok (.iload_n 2, 1) := by decide +kernel
theorem dX9_wouldHang_57 : decode cX9_wouldHang 57 = .ok (.iconst 0, 1) := by decide +kernel
theorem dX9_wouldHang_58 : decode cX9_wouldHang 58 = .ok (.invokevirtual 221, 3) := by decide +kernel
theorem dX9_wouldHang_61 : decode cX9_wouldHang 61 = .ok (.iload_n 1, 1) := by decide +kernel
theorem dX9_wouldHang_62 : decode cX9_wouldHang 62 = .ok (.invokestatic 197, 3) := by decide +kernel
theorem dX9_wouldHang_65 : decode cX9_wouldHang 65 = .ok (.ireturn, 1) := by decide +kernel
theorem dX9_formula_0 : decode cX9_formula 0 = .ok (.aload_n 0, 1) := by decide +kernel
theorem dX9_formula_1 : decode cX9_formula 1 = .ok (.invokevirtual 179, 3) := by decide +kernel
theorem dX9_formula_4 : decode cX9_formula 4 = .ok (.iconst (-1), 1) := by decide +kernel
theorem dX9_formula_5 : decode cX9_formula 5 = .ok (.if_icmp .ne 7, 3) := by decide +kernel
theorem dX9_formula_8 : decode cX9_formula 8 = .ok (.iconst 1, 1) := by decide +kernel
theorem dX9_formula_9 : decode cX9_formula 9 = .ok (.goto 4, 3) := by decide +kernel
theorem dX9_formula_12 : decode cX9_formula 12 = .ok (.iconst 0, 1) := by decide +kernel
theorem dX9_formula_13 : decode cX9_formula 13 = .ok (.istore_n 2, 1) := by decide +kernel
theorem dX9_formula_14 : decode cX9_formula 14 = .ok (.aload_n 0, 1) := by decide +kernel
theorem dX9_formula_15 : decode cX9_formula 15 = .ok (.iload_n 1, 1) := by decide +kernel
theorem dX9_formula_16 : decode cX9_formula 16 = .ok (.invokestatic 286, 3) := by decide +kernel
theorem dX9_formula_19 : decode cX9_formula 19 = .ok (.iload_n 2, 1) := by decide +kernel
theorem dX9_formula_20 : decode cX9_formula 20 = .ok (.iload_n 2, 1) := by decide +kernel
theorem dX9_formula_21 : decode cX9_formula 21 = .ok (.ifCond .eq 29, 3) := by decide +kernel
theorem dX9_formula_24 : decode cX9_formula 24 = .ok (.iload_n 1, 1) := by decide +kernel
theorem dX9_formula_25 : decode cX9_formula 25 = .ok (.invokestatic 286, 3) := by decide +kernel
theorem dX9_formula_28 : decode cX9_formula 28 = .ok (.ifCond .eq 22, 3) := by decide +kernel
theorem dX9_formula_31 : decode cX9_formula 31 = .ok (.aload_n 0, 1) := by decide +kernel
theorem dX9_formula_32 : decode cX9_formula 32 = .ok (.iload_n 1, 1) := by decide +kernel
theorem dX9_formula_33 : decode cX9_formula 33 = .ok (.invokevirtual 289, 3) := by decide +kernel
theorem dX9_formula_36 : decode cX9_formula 36 = .ok (.ifCond .ne 14, 3) := by decide +kernel
theorem dX9_formula_39 : decode cX9_formula 39 = .ok (.aload_n 0, 1) := by decide +kernel
theorem dX9_formula_40 : decode cX9_formula 40 = .ok (.invokevirtual 292, 3) := by decide +kernel
theorem dX9_formula_43 : decode cX9_formula 43 = .ok (.ifCond .eq 7, 3) := by decide +kernel
theorem dX9_formula_46 : decode cX9_formula 46 = .ok (.iconst 1, 1) := by decide +kernel
theorem dX9_formula_47 : decode cX9_formula 47 = .ok (.goto 4, 3) := by decide +kernel
theorem dX9_formula_50 : decode cX9_formula 50 = .ok (.iconst 0, 1) := by decide +kernel
theorem dX9_formula_51 : decode cX9_formula 51 = .ok (.invokevirtual 150, 3) := by decide +kernel
theorem dX9_formula_54 : decode cX9_formula 54 = .ok (.ifCond .ne 5, 3) := by decide +kernel
theorem dX9_formula_57 : decode cX9_formula 57 = .ok (.iconst 0, 1) := by decide +kernel
theorem dX9_formula_58 : decode cX9_formula 58 = .ok (.ireturn, 1) := by decide +kernel
theorem dX9_formula_59 : decode cX9_formula 59 = .ok (.aload_n 0, 1) := by decide +kernel
theorem dX9_formula_60 : decode cX9_formula 60 = .ok (.getfield 119, 3) := by decide +kernel
theorem dX9_formula_63 : decode cX9_formula 63 = .ok (.aload_n 0, 1) := by decide +kernel
theorem dX9_formula_64 : decode cX9_formula 64 = .ok (.getfield 277, 3) := by decide +kernel
theorem dX9_formula_67 : decode cX9_formula 67 = .ok (.aload_n 0, 1) := by decide +kernel
theorem dX9_formula_68 : decode cX9_formula 68 = .ok (.getfield 154, 3) := by decide +kernel
theorem dX9_formula_71 : decode cX9_formula 71 = .ok (.iastore, 1) := by decide +kernel
theorem dX9_formula_72 : decode cX9_formula 72 = .ok (.iconst 0, 1) := by decide +kernel
theorem dX9_formula_73 : decode cX9_formula 73 = .ok (.istore_n 3, 1) := by decide +kernel
theorem dX9_formula_74 : decode cX9_formula 74 = .ok (.iload_n 3, 1) := by decide +kernel
theorem dX9_formula_75 : decode cX9_formula 75 = .ok (.aload_n 0, 1) := by decide +kernel
theorem dX9_formula_76 : decode cX9_formula 76 = .ok (.getfield 154, 3) := by decide +kernel
theorem dX9_formula_79 : decode cX9_formula 79 = .ok (.if_icmp .ge 29, 3) := by decide +kernel
theorem dX9_formula_82 : decode cX9_formula 82 = .ok (.aload_n 0, 1) := by decide +kernel
theorem dX9_formula_83 : decode cX9_formula 83 = .ok (.getfield 116, 3) := by decide +kernel
theorem dX9_formula_86 : decode cX9_formula 86 = .ok (.bipush 30, 2) := by decide +kernel
theorem dX9_formula_88 : decode cX9_formula 88 = .ok (.aload_n 0, 1) := by decide +kernel
theorem dX9_formula_89 : decode cX9_formula 89 = .ok (.getfield 277, 3) := by decide +kernel
theorem dX9_formula_92 : decode cX9_formula 92 = .ok (.imul, 1) := by decide +kernel
theorem dX9_formula_93 : decode cX9_formula 93 = .ok (.iload_n 3, 1) := by decide +kernel
theorem dX9_formula_94 : decode cX9_formula 94 = .ok (.iadd, 1) := by decide +kernel
theorem dX9_formula_95 : decode cX9_formula 95 = .ok (.aload_n 0, 1) := by decide +kernel
theorem dX9_formula_96 : decode cX9_formula 96 = .ok (.getfield 13, 3) := by decide +kernel
theorem dX9_formula_99 : decode cX9_formula 99 = .ok (.iload_n 3, 1) := by decide +kernel
theorem dX9_formula_100 : decode cX9_formula 100 = .ok (.iaload, 1) := by decide +kernel
theorem dX9_formula_101 : decode cX9_formula 101 = .ok (.iastore, 1) := by decide +kernel
theorem dX9_formula_102 : decode cX9_formula 102 = .ok (.iinc 3 1, 3) := by decide +kernel
theorem dX9_formula_105 : decode cX9_formula 105 = .ok (.goto (-31), 3) := by decide +kernel
theorem dX9_formula_108 : decode cX9_formula 108 = .ok (.aload_n 0, 1) := by decide +kernel
theorem dX9_formula_109 : decode cX9_formula 109 = .ok (.iconst 0, 1) := by decide +kernel
theorem dX9_formula_110 : decode cX9_formula 110 = .ok (.iload_n 1, 1) := by decide +kernel
theorem dX9_formula_111 : decode cX9_formula 111 = .ok (.iconst 0, 1) := by decide +kernel
theorem dX9_formula_112 : decode cX9_formula 112 = .ok (.iconst 0, 1) := by decide +kernel
theorem dX9_formula_113 : decode cX9_formula 113 = .ok (.invokevirtual 296, 3) := by decide +kernel
theorem dX9_formula_116 : decode cX9_formula 116 = .ok (.ireturn, 1) := by decide +kernel
theorem dX9_hold_0 : decode cX9_hold 0 = .ok (.aload_n 0, 1) := by decide +kernel
theorem dX9_hold_1 : decode cX9_hold 1 = .ok (.iload_n 1, 1) := by decide +kernel
theorem dX9_hold_2 : decode cX9_hold 2 = .ok (.invokestatic 286, 3) := by decide +kernel
theorem dX9_hold_5 : decode cX9_hold 5 = .ok (.iload_n 2, 1) := by decide +kernel
theorem dX9_hold_6 : decode cX9_hold 6 = .ok (.sipush (-1000), 3) := by decide +kernel
theorem dX9_hold_9 : decode cX9_hold 9 = .ok (.sipush 1000, 3) := by decide +kernel
theorem dX9_hold_12 : decode cX9_hold 12 = .ok (.invokestatic 255, 3) := by decide +kernel
theorem dX9_hold_15 : decode cX9_hold 15 = .ok (.aload_n 0, 1) := by decide +kernel
theorem dX9_hold_16 : decode cX9_hold 16 = .ok (.invokevirtual 292, 3) := by decide +kernel
theorem dX9_hold_19 : decode cX9_hold 19 = .ok (.invokevirtual 150, 3) := by decide +kernel
theorem dX9_hold_22 : decode cX9_hold 22 = .ok (.ifCond .eq 14, 3) := by decide +kernel
theorem dX9_hold_25 : decode cX9_hold 25 = .ok (.aload_n 0, 1) := by decide +kernel
theorem dX9_hold_26 : decode cX9_hold 26 = .ok (.iconst 1, 1) := by decide +kernel
theorem dX9_hold_27 : decode cX9_hold 27 = .ok (.iload_n 1, 1) := by decide +kernel
theorem dX9_hold_28 : decode cX9_hold 28 = .ok (.iload_n 2, 1) := by decide +kernel
theorem dX9_hold_29 : decode cX9_hold 29 = .ok (.iconst 0, 1) := by decide +kernel
theorem dX9_hold_30 : decode cX9_hold 30 = .ok (.invokevirtual 296, 3) := by decide +kernel
theorem dX9_hold_33 : decode cX9_hold 33 = .ok (.goto 4, 3) := by decide +kernel
theorem dX9_hold_36 : decode cX9_hold 36 = .ok (.iconst 0, 1) := by decide +kernel
theorem dX9_hold_37 : decode cX9_hold 37 = .ok (.ireturn, 1) := by decide +kernel
theorem dX9_release_0 : decode cX9_release 0 = .ok (.aload_n 0, 1) := by decide +kernel
theorem dX9_release_1 : decode cX9_release 1 = .ok (.iload_n 1, 1) := by decide +kernel
theorem dX9_release_2 : decode cX9_release 2 = .ok (.invokestatic 286, 3) := by decide +kernel
theorem dX9_release_5 : decode cX9_release 5 = .ok (.iload_n 1, 1) := by decide +kernel
theorem dX9_release_6 : decode cX9_release 6 = .ok (.invokestatic 286, 3) := by decide +kernel
theorem dX9_release_9 : decode cX9_release 9 = .ok (.ifCond .eq 23, 3) := by decide +kernel
theorem dX9_release_12 : decode cX9_release 12 = .ok (.aload_n 0, 1) := by decide +kernel
theorem dX9_release_13 : decode cX9_release 13 = .ok (.getfield 47, 3) := by decide +kernel
theorem dX9_release_16 : decode cX9_release 16 = .ok (.iload_n 1, 1) := by decide +kernel
theorem dX9_release_17 : decode cX9_release 17 = .ok (.baload, 1) := by decide +kernel
theorem dX9_release_18 : decode cX9_release 18 = .ok (.ifCond .eq 14, 3) := by decide +kernel
theorem dX9_release_21 : decode cX9_release 21 = .ok (.aload_n 0, 1) := by decide +kernel
theorem dX9_release_22 : decode cX9_release 22 = .ok (.invokevirtual 292, 3) := by decide +kernel
theorem dX9_release_25 : decode cX9_release 25 = .ok (.ifCond .eq 7, 3) := by decide +kernel
theorem dX9_release_28 : decode cX9_release 28 = .ok (.iconst 1, 1) := by decide +kernel
theorem dX9_release_29 : decode cX9_release 29 = .ok (.goto 4, 3) := by decide +kernel
theorem dX9_release_32 : decode cX9_release 32 = .ok (.iconst 0, 1) := by decide +kernel
theorem dX9_release_33 : decode cX9_release 33 = .ok (.iconst 1, 1) := by decide +kernel
theorem dX9_release_34 : decode cX9_release 34 = .ok (.invokevirtual 150, 3) := by decide +kernel
theorem dX9_release_37 : decode cX9_release 37 = .ok (.ifCond .eq 14, 3) := by decide +kernel
theorem dX9_release_40 : decode cX9_release 40 = .ok (.aload_n 0, 1) := by decide +kernel
theorem dX9_release_41 : decode cX9_release 41 = .ok (.iconst 2, 1) := by decide +kernel
theorem dX9_release_42 : decode cX9_release 42 = .ok (.iload_n 1, 1) := by decide +kernel
theorem dX9_release_43 : decode cX9_release 43 = .ok (.iconst 0, 1) := by decide +kernel
theorem dX9_release_44 : decode cX9_release 44 = .ok (.iconst 0, 1) := by decide +kernel
theorem dX9_release_45 : decode cX9_release 45 = .ok (.invokevirtual 296, 3) := by decide +kernel
theorem dX9_release_48 : decode cX9_release 48 = .ok (.goto 4, 3) := by decide +kernel
theorem dX9_release_51 : decode cX9_release 51 = .ok (.iconst 0, 1) := by decide +kernel
theorem dX9_release_52 : decode cX9_release 52 = .ok (.ireturn, 1) := by decide +kernel
theorem dX9_read_0 : decode cX9_read 0 = .ok (.aload_n 0, 1) := by decide +kernel
theorem dX9_read_1 : decode cX9_read 1 = .ok (.iload_n 1, 1) := by decide +kernel
theorem dX9_read_2 : decode cX9_read 2 = .ok (.iconst 5, 1) := by decide +kernel
theorem dX9_read_3 : decode cX9_read 3 = .ok (.invokestatic 283, 3) := by decide +kernel
theorem dX9_read_6 : decode cX9_read 6 = .ok (.iload_n 2, 1) := by decide +kernel
theorem dX9_read_7 : decode cX9_read 7 = .ok (.sipush (-1000), 3) := by decide +kernel
theorem dX9_read_10 : decode cX9_read 10 = .ok (.sipush 1000, 3) := by decide +kernel
theorem dX9_read_13 : decode cX9_read 13 = .ok (.invokestatic 255, 3) := by decide +kernel
theorem dX9_read_16 : decode cX9_read 16 = .ok (.aload_n 0, 1) := by decide +kernel
theorem dX9_read_17 : decode cX9_read 17 = .ok (.invokevirtual 292, 3) := by decide +kernel
theorem dX9_read_20 : decode cX9_read 20 = .ok (.invokevirtual 150, 3) := by decide +kernel
theorem dX9_read_23 : decode cX9_read 23 = .ok (.ifCond .eq 14, 3) := by decide +kernel
theorem dX9_read_26 : decode cX9_read 26 = .ok (.aload_n 0, 1) := by decide +kernel
theorem dX9_read_27 : decode cX9_read 27 = .ok (.iconst 3, 1) := by decide +kernel
theorem dX9_read_28 : decode cX9_read 28 = .ok (.iload_n 1, 1) := by decide +kernel
theorem dX9_read_29 : decode cX9_read 29 = .ok (.iload_n 2, 1) := by decide +kernel
theorem dX9_read_30 : decode cX9_read 30 = .ok (.iconst 0, 1) := by decide +kernel
theorem dX9_read_31 : decode cX9_read 31 = .ok (.invokevirtual 296, 3) := by decide +kernel
theorem dX9_read_34 : decode cX9_read 34 = .ok (.goto 4, 3) := by decide +kernel
theorem dX9_read_37 : decode cX9_read 37 = .ok (.iconst 0, 1) := by decide +kernel
theorem dX9_read_38 : decode cX9_read 38 = .ok (.ireturn, 1) := by decide +kernel
theorem dX9_control_0 : decode cX9_control 0 = .ok (.aload_n 0, 1) := by decide +kernel
theorem dX9_control_1 : decode cX9_control 1 = .ok (.iload_n 1, 1) := by decide +kernel
theorem dX9_control_2 : decode cX9_control 2 = .ok (.invokestatic 300, 3) := by decide +kernel
theorem dX9_control_5 : decode cX9_control 5 = .ok (.ifCond .eq 17, 3) := by decide +kernel
theorem dX9_control_8 : decode cX9_control 8 = .ok (.iload_n 2, 1) := by decide +kernel
theorem dX9_control_9 : decode cX9_control 9 = .ok (.iconst (-1), 1) := by decide +kernel
theorem dX9_control_10 : decode cX9_control 10 = .ok (.bipush 11, 2) := by decide +kernel
theorem dX9_control_12 : decode cX9_control 12 = .ok (.invokestatic 255, 3) := by decide +kernel
theorem dX9_control_15 : decode cX9_control 15 = .ok (.ifCond .eq 7, 3) := by decide +kernel
theorem dX9_control_18 : decode cX9_control 18 = .ok (.iconst 1, 1) := by decide +kernel
theorem dX9_control_19 : decode cX9_control 19 = .ok (.goto 4, 3) := by decide +kernel
theorem dX9_control_22 : decode cX9_control 22 = .ok (.iconst 0, 1) := by decide +kernel
theorem dX9_control_23 : decode cX9_control 23 = .ok (.aload_n 0, 1) := by decide +kernel
theorem dX9_control_24 : decode cX9_control 24 = .ok (.invokevirtual 292, 3) := by decide +kernel
theorem dX9_control_27 : decode cX9_control 27 = .ok (.iconst 1, 1) := by decide +kernel
theorem dX9_control_28 : decode cX9_control 28 = .ok (.invokevirtual 150, 3) := by decide +kernel
theorem dX9_control_31 : decode cX9_control 31 = .ok (.ifCond .eq 14, 3) := by decide +kernel
theorem dX9_control_34 : decode cX9_control 34 = .ok (.aload_n 0, 1) := by decide +kernel
theorem dX9_control_35 : decode cX9_control 35 = .ok (.iconst 4, 1) := by decide +kernel
theorem dX9_control_36 : decode cX9_control 36 = .ok (.iload_n 1, 1) := by decide +kernel
theorem dX9_control_37 : decode cX9_control 37 = .ok (.iload_n 2, 1) := by decide +kernel
theorem dX9_control_38 : decode cX9_control 38 = .ok (.iconst 0, 1) := by decide +kernel
theorem dX9_control_39 : decode cX9_control 39 = .ok (.invokevirtual 296, 3) := by decide +kernel
theorem dX9_control_42 : decode cX9_control 42 = .ok (.goto 4, 3) := by decide +kernel
theorem dX9_control_45 : decode cX9_control 45 = .ok (.iconst 0, 1) := by decide +kernel
theorem dX9_control_46 : decode cX9_control 46 = .ok (.ireturn, 1) := by decide +kernel
theorem dX9_limit_0 : decode cX9_limit 0 = .ok (.aload_n 0, 1) := by decide +kernel
theorem dX9_limit_1 : decode cX9_limit 1 = .ok (.iload_n 1, 1) := by decide +kernel
theorem dX9_limit_2 : decode cX9_limit 2 = .ok (.invokestatic 300, 3) := by decide +kernel
theorem dX9_limit_5 : decode cX9_limit 5 = .ok (.ifCond .eq 17, 3) := by decide +kernel
theorem dX9_limit_8 : decode cX9_limit 8 = .ok (.iload_n 2, 1) := by decide +kernel
theorem dX9_limit_9 : decode cX9_limit 9 = .ok (.iconst (-1), 1) := by decide +kernel
theorem dX9_limit_10 : decode cX9_limit 10 = .ok (.bipush 11, 2) := by decide +kernel
theorem dX9_limit_12 : decode cX9_limit 12 = .ok (.invokestatic 255, 3) := by decide +kernel
theorem dX9_limit_15 : decode cX9_limit 15 = .ok (.ifCond .eq 7, 3) := by decide +kernel
theorem dX9_limit_18 : decode cX9_limit 18 = .ok (.iconst 1, 1) := by decide +kernel
theorem dX9_limit_19 : decode cX9_limit 19 = .ok (.goto 4, 3) := by decide +kernel
theorem dX9_limit_22 : decode cX9_limit 22 = .ok (.iconst 0, 1) := by decide +kernel
theorem dX9_limit_23 : decode cX9_limit 23 = .ok (.aload_n 0, 1) := by decide +kernel
theorem dX9_limit_24 : decode cX9_limit 24 = .ok (.invokevirtual 292, 3) := by decide +kernel
theorem dX9_limit_27 : decode cX9_limit 27 = .ok (.iconst 1, 1) := by decide +kernel
theorem dX9_limit_28 : decode cX9_limit 28 = .ok (.invokevirtual 150, 3) := by decide +kernel
theorem dX9_limit_31 : decode cX9_limit 31 = .ok (.ifCond .eq 14, 3) := by decide +kernel
theorem dX9_limit_34 : decode cX9_limit 34 = .ok (.aload_n 0, 1) := by decide +kernel
theorem dX9_limit_35 : decode cX9_limit 35 = .ok (.iconst 5, 1) := by decide +kernel
theorem dX9_limit_36 : decode cX9_limit 36 = .ok (.iload_n 1, 1) := by decide +kernel
theorem dX9_limit_37 : decode cX9_limit 37 = .ok (.iload_n 2, 1) := by decide +kernel
theorem dX9_limit_38 : decode cX9_limit 38 = .ok (.iconst 0, 1) := by decide +kernel
theorem dX9_limit_39 : decode cX9_limit 39 = .ok (.invokevirtual 296, 3) := by decide +kernel
theorem dX9_limit_42 : decode cX9_limit 42 = .ok (.goto 4, 3) := by decide +kernel
theorem dX9_limit_45 : decode cX9_limit 45 = .ok (.iconst 0, 1) := by decide +kernel
theorem dX9_limit_46 : decode cX9_limit 46 = .ok (.ireturn, 1) := by decide +kernel
theorem dX9_demand_0 : decode cX9_demand 0 = .ok (.aload_n 0, 1) := by decide +kernel
theorem dX9_demand_1 : decode cX9_demand 1 = .ok (.iload_n 1, 1) := by decide +kernel
theorem dX9_demand_2 : decode cX9_demand 2 = .ok (.invokestatic 300, 3) := by decide +kernel
theorem dX9_demand_5 : decode cX9_demand 5 = .ok (.iload_n 2, 1) := by decide +kernel
theorem dX9_demand_6 : decode cX9_demand 6 = .ok (.iconst 0, 1) := by decide +kernel
theorem dX9_demand_7 : decode cX9_demand 7 = .ok (.sipush 1000, 3) := by decide +kernel
theorem dX9_demand_10 : decode cX9_demand 10 = .ok (.invokestatic 255, 3) := by decide +kernel
theorem dX9_demand_13 : decode cX9_demand 13 = .ok (.ifCond .eq 17, 3) := by decide +kernel
theorem dX9_demand_16 : decode cX9_demand 16 = .ok (.iload_n 3, 1) := by decide +kernel
theorem dX9_demand_17 : decode cX9_demand 17 = .ok (.iconst 0, 1) := by decide +kernel
theorem dX9_demand_18 : decode cX9_demand 18 = .ok (.bipush 10, 2) := by decide +kernel
theorem dX9_demand_20 : decode cX9_demand 20 = .ok (.invokestatic 255, 3) := by decide +kernel
theorem dX9_demand_23 : decode cX9_demand 23 = .ok (.ifCond .eq 7, 3) := by decide +kernel
theorem dX9_demand_26 : decode cX9_demand 26 = .ok (.iconst 1, 1) := by decide +kernel
theorem dX9_demand_27 : decode cX9_demand 27 = .ok (.goto 4, 3) := by decide +kernel
theorem dX9_demand_30 : decode cX9_demand 30 = .ok (.iconst 0, 1) := by decide +kernel
theorem dX9_demand_31 : decode cX9_demand 31 = .ok (.aload_n 0, 1) := by decide +kernel
theorem dX9_demand_32 : decode cX9_demand 32 = .ok (.invokevirtual 292, 3) := by decide +kernel
theorem dX9_demand_35 : decode cX9_demand 35 = .ok (.invokevirtual 150, 3) := by decide +kernel
theorem dX9_demand_38 : decode cX9_demand 38 = .ok (.ifCond .eq 15, 3) := by decide +kernel
theorem dX9_demand_41 : decode cX9_demand 41 = .ok (.aload_n 0, 1) := by decide +kernel
theorem dX9_demand_42 : decode cX9_demand 42 = .ok (.bipush 6, 2) := by decide +kernel
theorem dX9_demand_44 : decode cX9_demand 44 = .ok (.iload_n 1, 1) := by decide +kernel
theorem dX9_demand_45 : decode cX9_demand 45 = .ok (.iload_n 2, 1) := by decide +kernel
theorem dX9_demand_46 : decode cX9_demand 46 = .ok (.iload_n 3, 1) := by decide +kernel
theorem dX9_demand_47 : decode cX9_demand 47 = .ok (.invokevirtual 296, 3) := by decide +kernel
theorem dX9_demand_50 : decode cX9_demand 50 = .ok (.goto 4, 3) := by decide +kernel
theorem dX9_demand_53 : decode cX9_demand 53 = .ok (.iconst 0, 1) := by decide +kernel
theorem dX9_demand_54 : decode cX9_demand 54 = .ok (.ireturn, 1) := by decide +kernel
theorem dX9_need_0 : decode cX9_need 0 = .ok (.aload_n 0, 1) := by decide +kernel
theorem dX9_need_1 : decode cX9_need 1 = .ok (.iload_n 1, 1) := by decide +kernel
theorem dX9_need_2 : decode cX9_need 2 = .ok (.invokestatic 300, 3) := by decide +kernel
theorem dX9_need_5 : decode cX9_need 5 = .ok (.ifCond .eq 14, 3) := by decide +kernel
theorem dX9_need_8 : decode cX9_need 8 = .ok (.iload_n 2, 1) := by decide +kernel
theorem dX9_need_9 : decode cX9_need 9 = .ok (.invokestatic 300, 3) := by decide +kernel
theorem dX9_need_12 : decode cX9_need 12 = .ok (.ifCond .eq 7, 3) := by decide +kernel
theorem dX9_need_15 : decode cX9_need 15 = .ok (.iconst 1, 1) := by decide +kernel
theorem dX9_need_16 : decode cX9_need 16 = .ok (.goto 4, 3) := by decide +kernel
theorem dX9_need_19 : decode cX9_need 19 = .ok (.iconst 0, 1) := by decide +kernel
theorem dX9_need_20 : decode cX9_need 20 = .ok (.iload_n 1, 1) := by decide +kernel
theorem dX9_need_21 : decode cX9_need 21 = .ok (.iload_n 2, 1) := by decide +kernel
theorem dX9_need_22 : decode cX9_need 22 = .ok (.if_icmp .eq 7, 3) := by decide +kernel
theorem dX9_need_25 : decode cX9_need 25 = .ok (.iconst 1, 1) := by decide +kernel
theorem dX9_need_26 : decode cX9_need 26 = .ok (.goto 4, 3) := by decide +kernel
theorem dX9_need_29 : decode cX9_need 29 = .ok (.iconst 0, 1) := by decide +kernel
theorem dX9_need_30 : decode cX9_need 30 = .ok (.aload_n 0, 1) := by decide +kernel
theorem dX9_need_31 : decode cX9_need 31 = .ok (.invokevirtual 292, 3) := by decide +kernel
theorem dX9_need_34 : decode cX9_need 34 = .ok (.invokevirtual 150, 3) := by decide +kernel
theorem dX9_need_37 : decode cX9_need 37 = .ok (.ifCond .eq 23, 3) := by decide +kernel
theorem dX9_need_40 : decode cX9_need 40 = .ok (.aload_n 0, 1) := by decide +kernel
theorem dX9_need_41 : decode cX9_need 41 = .ok (.bipush 7, 2) := by decide +kernel
theorem dX9_need_43 : decode cX9_need 43 = .ok (.iload_n 1, 1) := by decide +kernel
theorem dX9_need_44 : decode cX9_need 44 = .ok (.iload_n 2, 1) := by decide +kernel
theorem dX9_need_45 : decode cX9_need 45 = .ok (.iload_n 3, 1) := by decide +kernel
theorem dX9_need_46 : decode cX9_need 46 = .ok (.ifCond .eq 7, 3) := by decide +kernel
theorem dX9_need_49 : decode cX9_need 49 = .ok (.iconst 1, 1) := by decide +kernel
theorem dX9_need_50 : decode cX9_need 50 = .ok (.goto 4, 3) := by decide +kernel
theorem dX9_need_53 : decode cX9_need 53 = .ok (.iconst 0, 1) := by decide +kernel
theorem dX9_need_54 : decode cX9_need 54 = .ok (.invokevirtual 296, 3) := by decide +kernel
theorem dX9_need_57 : decode cX9_need 57 = .ok (.goto 4, 3) := by decide +kernel
theorem dX9_need_60 : decode cX9_need 60 = .ok (.iconst 0, 1) := by decide +kernel
theorem dX9_need_61 : decode cX9_need 61 = .ok (.ireturn, 1) := by decide +kernel
theorem dX9_lie_0 : decode cX9_lie 0 = .ok (.aload_n 0, 1) := by decide +kernel
theorem dX9_lie_1 : decode cX9_lie 1 = .ok (.iload_n 1, 1) := by decide +kernel
theorem dX9_lie_2 : decode cX9_lie 2 = .ok (.invokestatic 300, 3) := by decide +kernel
theorem dX9_lie_5 : decode cX9_lie 5 = .ok (.iload_n 2, 1) := by decide +kernel
theorem dX9_lie_6 : decode cX9_lie 6 = .ok (.iconst (-1), 1) := by decide +kernel
theorem dX9_lie_7 : decode cX9_lie 7 = .ok (.sipush 1000, 3) := by decide +kernel
theorem dX9_lie_10 : decode cX9_lie 10 = .ok (.invokestatic 255, 3) := by decide +kernel
theorem dX9_lie_13 : decode cX9_lie 13 = .ok (.aload_n 0, 1) := by decide +kernel
theorem dX9_lie_14 : decode cX9_lie 14 = .ok (.invokevirtual 292, 3) := by decide +kernel
theorem dX9_lie_17 : decode cX9_lie 17 = .ok (.invokevirtual 150, 3) := by decide +kernel
theorem dX9_lie_20 : decode cX9_lie 20 = .ok (.ifCond .eq 15, 3) := by decide +kernel
theorem dX9_lie_23 : decode cX9_lie 23 = .ok (.aload_n 0, 1) := by decide +kernel
theorem dX9_lie_24 : decode cX9_lie 24 = .ok (.bipush 8, 2) := by decide +kernel
theorem dX9_lie_26 : decode cX9_lie 26 = .ok (.iload_n 1, 1) := by decide +kernel
theorem dX9_lie_27 : decode cX9_lie 27 = .ok (.iload_n 2, 1) := by decide +kernel
theorem dX9_lie_28 : decode cX9_lie 28 = .ok (.iconst 0, 1) := by decide +kernel
theorem dX9_lie_29 : decode cX9_lie 29 = .ok (.invokevirtual 296, 3) := by decide +kernel
theorem dX9_lie_32 : decode cX9_lie 32 = .ok (.goto 4, 3) := by decide +kernel
theorem dX9_lie_35 : decode cX9_lie 35 = .ok (.iconst 0, 1) := by decide +kernel
theorem dX9_lie_36 : decode cX9_lie 36 = .ok (.ireturn, 1) := by decide +kernel
theorem dX9_mend_0 : decode cX9_mend 0 = .ok (.aload_n 0, 1) := by decide +kernel
theorem dX9_mend_1 : decode cX9_mend 1 = .ok (.iload_n 1, 1) := by decide +kernel
theorem dX9_mend_2 : decode cX9_mend 2 = .ok (.invokestatic 300, 3) := by decide +kernel
theorem dX9_mend_5 : decode cX9_mend 5 = .ok (.iload_n 1, 1) := by decide +kernel
theorem dX9_mend_6 : decode cX9_mend 6 = .ok (.invokestatic 300, 3) := by decide +kernel
theorem dX9_mend_9 : decode cX9_mend 9 = .ok (.ifCond .eq 24, 3) := by decide +kernel
theorem dX9_mend_12 : decode cX9_mend 12 = .ok (.aload_n 0, 1) := by decide +kernel
theorem dX9_mend_13 : decode cX9_mend 13 = .ok (.getfield 83, 3) := by decide +kernel
theorem dX9_mend_16 : decode cX9_mend 16 = .ok (.iload_n 1, 1) := by decide +kernel
theorem dX9_mend_17 : decode cX9_mend 17 = .ok (.iaload, 1) := by decide +kernel
theorem dX9_mend_18 : decode cX9_mend 18 = .ok (.iconst 3, 1) := by decide +kernel
theorem dX9_mend_19 : decode cX9_mend 19 = .ok (.if_icmp .ne 14, 3) := by decide +kernel
theorem dX9_mend_22 : decode cX9_mend 22 = .ok (.aload_n 0, 1) := by decide +kernel
theorem dX9_mend_23 : decode cX9_mend 23 = .ok (.invokevirtual 292, 3) := by decide +kernel
theorem dX9_mend_26 : decode cX9_mend 26 = .ok (.ifCond .eq 7, 3) := by decide +kernel
theorem dX9_mend_29 : decode cX9_mend 29 = .ok (.iconst 1, 1) := by decide +kernel
theorem dX9_mend_30 : decode cX9_mend 30 = .ok (.goto 4, 3) := by decide +kernel
theorem dX9_mend_33 : decode cX9_mend 33 = .ok (.iconst 0, 1) := by decide +kernel
theorem dX9_mend_34 : decode cX9_mend 34 = .ok (.iconst 1, 1) := by decide +kernel
theorem dX9_mend_35 : decode cX9_mend 35 = .ok (.invokevirtual 150, 3) := by decide +kernel
theorem dX9_mend_38 : decode cX9_mend 38 = .ok (.ifCond .eq 15, 3) := by decide +kernel
theorem dX9_mend_41 : decode cX9_mend 41 = .ok (.aload_n 0, 1) := by decide +kernel
theorem dX9_mend_42 : decode cX9_mend 42 = .ok (.bipush 9, 2) := by decide +kernel
theorem dX9_mend_44 : decode cX9_mend 44 = .ok (.iload_n 1, 1) := by decide +kernel
theorem dX9_mend_45 : decode cX9_mend 45 = .ok (.iconst 0, 1) := by decide +kernel
theorem dX9_mend_46 : decode cX9_mend 46 = .ok (.iconst 0, 1) := by decide +kernel
theorem dX9_mend_47 : decode cX9_mend 47 = .ok (.invokevirtual 296, 3) := by decide +kernel
theorem dX9_mend_50 : decode cX9_mend 50 = .ok (.goto 4, 3) := by decide +kernel
theorem dX9_mend_53 : decode cX9_mend 53 = .ok (.iconst 0, 1) := by decide +kernel
theorem dX9_mend_54 : decode cX9_mend 54 = .ok (.ireturn, 1) := by decide +kernel
theorem dX9_tick_0 : decode cX9_tick 0 = .ok (.iload_n 1, 1) := by decide +kernel
theorem dX9_tick_1 : decode cX9_tick 1 = .ok (.iconst 1, 1) := by decide +kernel
theorem dX9_tick_2 : decode cX9_tick 2 = .ok (.bipush 50, 2) := by decide +kernel
theorem dX9_tick_4 : decode cX9_tick 4 = .ok (.invokestatic 255, 3) := by decide +kernel
theorem dX9_tick_7 : decode cX9_tick 7 = .ok (.istore_n 2, 1) := by decide +kernel
theorem dX9_tick_8 : decode cX9_tick 8 = .ok (.aload_n 0, 1) := by decide +kernel
theorem dX9_tick_9 : decode cX9_tick 9 = .ok (.iload_n 2, 1) := by decide +kernel
theorem dX9_tick_10 : decode cX9_tick 10 = .ok (.iload_n 2, 1) := by decide +kernel
theorem dX9_tick_11 : decode cX9_tick 11 = .ok (.ifCond .eq 26, 3) := by decide +kernel
theorem dX9_tick_14 : decode cX9_tick 14 = .ok (.aload_n 0, 1) := by decide +kernel
theorem dX9_tick_15 : decode cX9_tick 15 = .ok (.getfield 218, 3) := by decide +kernel
theorem dX9_tick_18 : decode cX9_tick 18 = .ok (.iload_n 1, 1) := by decide +kernel
theorem dX9_tick_19 : decode cX9_tick 19 = .ok (.iadd, 1) := by decide +kernel
theorem dX9_tick_20 : decode cX9_tick 20 = .ok (.sipush 2000, 3) := by decide +kernel
theorem dX9_tick_23 : decode cX9_tick 23 = .ok (.if_icmp .gt 14, 3) := by decide +kernel
theorem dX9_tick_26 : decode cX9_tick 26 = .ok (.aload_n 0, 1) := by decide +kernel
theorem dX9_tick_27 : decode cX9_tick 27 = .ok (.invokevirtual 292, 3) := by decide +kernel
theorem dX9_tick_30 : decode cX9_tick 30 = .ok (.ifCond .eq 7, 3) := by decide +kernel
theorem dX9_tick_33 : decode cX9_tick 33 = .ok (.iconst 1, 1) := by decide +kernel
theorem dX9_tick_34 : decode cX9_tick 34 = .ok (.goto 4, 3) := by decide +kernel
theorem dX9_tick_37 : decode cX9_tick 37 = .ok (.iconst 0, 1) := by decide +kernel
theorem dX9_tick_38 : decode cX9_tick 38 = .ok (.iconst 1, 1) := by decide +kernel
theorem dX9_tick_39 : decode cX9_tick 39 = .ok (.invokevirtual 150, 3) := by decide +kernel
theorem dX9_tick_42 : decode cX9_tick 42 = .ok (.ifCond .eq 15, 3) := by decide +kernel
theorem dX9_tick_45 : decode cX9_tick 45 = .ok (.aload_n 0, 1) := by decide +kernel
theorem dX9_tick_46 : decode cX9_tick 46 = .ok (.bipush 10, 2) := by decide +kernel
theorem dX9_tick_48 : decode cX9_tick 48 = .ok (.iload_n 1, 1) := by decide +kernel
theorem dX9_tick_49 : decode cX9_tick 49 = .ok (.iconst 0, 1) := by decide +kernel
theorem dX9_tick_50 : decode cX9_tick 50 = .ok (.iconst 0, 1) := by decide +kernel
theorem dX9_tick_51 : decode cX9_tick 51 = .ok (.invokevirtual 296, 3) := by decide +kernel
theorem dX9_tick_54 : decode cX9_tick 54 = .ok (.goto 4, 3) := by decide +kernel
theorem dX9_tick_57 : decode cX9_tick 57 = .ok (.iconst 0, 1) := by decide +kernel
theorem dX9_tick_58 : decode cX9_tick 58 = .ok (.ireturn, 1) := by decide +kernel
theorem dX9_undo_0 : decode cX9_undo 0 = .ok (.aload_n 0, 1) := by decide +kernel
theorem dX9_undo_1 : decode cX9_undo 1 = .ok (.aload_n 0, 1) := by decide +kernel
theorem dX9_undo_2 : decode cX9_undo 2 = .ok (.getfield 277, 3) := by decide +kernel
theorem dX9_undo_5 : decode cX9_undo 5 = .ok (.ifCond .le 7, 3) := by decide +kernel
theorem dX9_undo_8 : decode cX9_undo 8 = .ok (.iconst 1, 1) := by decide +kernel
theorem dX9_undo_9 : decode cX9_undo 9 = .ok (.goto 4, 3) := by decide +kernel
theorem dX9_undo_12 : decode cX9_undo 12 = .ok (.iconst 0, 1) := by decide +kernel
theorem dX9_undo_13 : decode cX9_undo 13 = .ok (.iconst 1, 1) := by decide +kernel
theorem dX9_undo_14 : decode cX9_undo 14 = .ok (.iconst 1, 1) := by decide +kernel
theorem dX9_undo_15 : decode cX9_undo 15 = .ok (.invokevirtual 150, 3) := by decide +kernel
theorem dX9_undo_18 : decode cX9_undo 18 = .ok (.ifCond .ne 5, 3) := by decide +kernel
theorem dX9_undo_21 : decode cX9_undo 21 = .ok (.iconst 0, 1) := by decide +kernel
theorem dX9_undo_22 : decode cX9_undo 22 = .ok (.ireturn, 1) := by decide +kernel
theorem dX9_undo_23 : decode cX9_undo 23 = .ok (.aload_n 0, 1) := by decide +kernel
theorem dX9_undo_24 : decode cX9_undo 24 = .ok (.dup, 1) := by decide +kernel
theorem dX9_undo_25 : decode cX9_undo 25 = .ok (.getfield 277, 3) := by decide +kernel
theorem dX9_undo_28 : decode cX9_undo 28 = .ok (.iconst 1, 1) := by decide +kernel
theorem dX9_undo_29 : decode cX9_undo 29 = .ok (.isub, 1) := by decide +kernel
theorem dX9_undo_30 : decode cX9_undo 30 = .ok (.putfield 277, 3) := by decide +kernel
theorem dX9_undo_33 : decode cX9_undo 33 = .ok (.aload_n 0, 1) := by decide +kernel
theorem dX9_undo_34 : decode cX9_undo 34 = .ok (.invokevirtual 303, 3) := by decide +kernel
theorem dX9_undo_37 : decode cX9_undo 37 = .ok (.aload_n 0, 1) := by decide +kernel
theorem dX9_undo_38 : decode cX9_undo 38 = .ok (.getfield 277, 3) := by decide +kernel
theorem dX9_undo_41 : decode cX9_undo 41 = .ok (.ireturn, 1) := by decide +kernel
theorem dX9_steps_0 : decode cX9_steps 0 = .ok (.aload_n 0, 1) := by decide +kernel
theorem dX9_steps_1 : decode cX9_steps 1 = .ok (.iconst 0, 1) := by decide +kernel
theorem dX9_steps_2 : decode cX9_steps 2 = .ok (.putfield 129, 3) := by decide +kernel
theorem dX9_steps_5 : decode cX9_steps 5 = .ok (.aload_n 0, 1) := by decide +kernel
theorem dX9_steps_6 : decode cX9_steps 6 = .ok (.getfield 277, 3) := by decide +kernel
theorem dX9_steps_9 : decode cX9_steps 9 = .ok (.ireturn, 1) := by decide +kernel
theorem dX9_now_0 : decode cX9_now 0 = .ok (.aload_n 0, 1) := by decide +kernel
theorem dX9_now_1 : decode cX9_now 1 = .ok (.iconst 0, 1) := by decide +kernel
theorem dX9_now_2 : decode cX9_now 2 = .ok (.putfield 129, 3) := by decide +kernel
theorem dX9_now_5 : decode cX9_now 5 = .ok (.aload_n 0, 1) := by decide +kernel
theorem dX9_now_6 : decode cX9_now 6 = .ok (.getfield 218, 3) := by decide +kernel
theorem dX9_now_9 : decode cX9_now 9 = .ok (.ireturn, 1) := by decide +kernel
theorem dX9_value_0 : decode cX9_value 0 = .ok (.aload_n 0, 1) := by decide +kernel
theorem dX9_value_1 : decode cX9_value 1 = .ok (.iload_n 1, 1) := by decide +kernel
theorem dX9_value_2 : decode cX9_value 2 = .ok (.invokestatic 286, 3) := by decide +kernel
theorem dX9_value_5 : decode cX9_value 5 = .ok (.iconst 1, 1) := by decide +kernel
theorem dX9_value_6 : decode cX9_value 6 = .ok (.iconst 1, 1) := by decide +kernel
theorem dX9_value_7 : decode cX9_value 7 = .ok (.invokevirtual 150, 3) := by decide +kernel
theorem dX9_value_10 : decode cX9_value 10 = .ok (.ifCond .eq 12, 3) := by decide +kernel
theorem dX9_value_13 : decode cX9_value 13 = .ok (.aload_n 0, 1) := by decide +kernel
theorem dX9_value_14 : decode cX9_value 14 = .ok (.getfield 71, 3) := by decide +kernel
theorem dX9_value_17 : decode cX9_value 17 = .ok (.iload_n 1, 1) := by decide +kernel
theorem dX9_value_18 : decode cX9_value 18 = .ok (.iaload, 1) := by decide +kernel
theorem dX9_value_19 : decode cX9_value 19 = .ok (.goto 4, 3) := by decide +kernel
theorem dX9_value_22 : decode cX9_value 22 = .ok (.iconst 0, 1) := by decide +kernel
theorem dX9_value_23 : decode cX9_value 23 = .ok (.ireturn, 1) := by decide +kernel
theorem dX9_valueAnew_0 : decode cX9_valueAnew 0 = .ok (.aload_n 0, 1) := by decide +kernel
theorem dX9_valueAnew_1 : decode cX9_valueAnew 1 = .ok (.iload_n 1, 1) := by decide +kernel
theorem dX9_valueAnew_2 : decode cX9_valueAnew 2 = .ok (.invokevirtual 306, 3) := by decide +kernel
theorem dX9_valueAnew_5 : decode cX9_valueAnew 5 = .ok (.ireturn, 1) := by decide +kernel
theorem dX9_worth_0 : decode cX9_worth 0 = .ok (.aload_n 0, 1) := by decide +kernel
theorem dX9_worth_1 : decode cX9_worth 1 = .ok (.iload_n 1, 1) := by decide +kernel
theorem dX9_worth_2 : decode cX9_worth 2 = .ok (.invokestatic 286, 3) := by decide +kernel
theorem dX9_worth_5 : decode cX9_worth 5 = .ok (.iconst 1, 1) := by decide +kernel
theorem dX9_worth_6 : decode cX9_worth 6 = .ok (.iconst 1, 1) := by decide +kernel
theorem dX9_worth_7 : decode cX9_worth 7 = .ok (.invokevirtual 150, 3) := by decide +kernel
theorem dX9_worth_10 : decode cX9_worth 10 = .ok (.ifCond .eq 11, 3) := by decide +kernel
theorem dX9_worth_13 : decode cX9_worth 13 = .ok (.aload_n 0, 1) := by decide +kernel
theorem dX9_worth_14 : decode cX9_worth 14 = .ok (.iload_n 1, 1) := by decide +kernel
theorem dX9_worth_15 : decode cX9_worth 15 = .ok (.invokevirtual 211, 3) := by decide +kernel
theorem dX9_worth_18 : decode cX9_worth 18 = .ok (.goto 4, 3) := by decide +kernel
theorem dX9_worth_21 : decode cX9_worth 21 = .ok (.iconst 0, 1) := by decide +kernel
theorem dX9_worth_22 : decode cX9_worth 22 = .ok (.ireturn, 1) := by decide +kernel
theorem dX9_depth_0 : decode cX9_depth 0 = .ok (.aload_n 0, 1) := by decide +kernel
theorem dX9_depth_1 : decode cX9_depth 1 = .ok (.iload_n 1, 1) := by decide +kernel
theorem dX9_depth_2 : decode cX9_depth 2 = .ok (.invokestatic 286, 3) := by decide +kernel
theorem dX9_depth_5 : decode cX9_depth 5 = .ok (.iconst 1, 1) := by decide +kernel
theorem dX9_depth_6 : decode cX9_depth 6 = .ok (.iconst 1, 1) := by decide +kernel
theorem dX9_depth_7 : decode cX9_depth 7 = .ok (.invokevirtual 150, 3) := by decide +kernel
theorem dX9_depth_10 : decode cX9_depth 10 = .ok (.ifCond .eq 12, 3) := by decide +kernel
theorem dX9_depth_13 : decode cX9_depth 13 = .ok (.aload_n 0, 1) := by decide +kernel
theorem dX9_depth_14 : decode cX9_depth 14 = .ok (.getfield 44, 3) := by decide +kernel
theorem dX9_depth_17 : decode cX9_depth 17 = .ok (.iload_n 1, 1) := by decide +kernel
theorem dX9_depth_18 : decode cX9_depth 18 = .ok (.iaload, 1) := by decide +kernel
theorem dX9_depth_19 : decode cX9_depth 19 = .ok (.goto 4, 3) := by decide +kernel
theorem dX9_depth_22 : decode cX9_depth 22 = .ok (.iconst 0, 1) := by decide +kernel
theorem dX9_depth_23 : decode cX9_depth 23 = .ok (.ireturn, 1) := by decide +kernel
theorem dX9_isStale_0 : decode cX9_isStale 0 = .ok (.aload_n 0, 1) := by decide +kernel
theorem dX9_isStale_1 : decode cX9_isStale 1 = .ok (.iload_n 1, 1) := by decide +kernel
theorem dX9_isStale_2 : decode cX9_isStale 2 = .ok (.invokestatic 286, 3) := by decide +kernel
theorem dX9_isStale_5 : decode cX9_isStale 5 = .ok (.iconst 1, 1) := by decide +kernel
theorem dX9_isStale_6 : decode cX9_isStale 6 = .ok (.iconst 1, 1) := by decide +kernel
theorem dX9_isStale_7 : decode cX9_isStale 7 = .ok (.invokevirtual 150, 3) := by decide +kernel
theorem dX9_isStale_10 : decode cX9_isStale 10 = .ok (.ifCond .eq 15, 3) := by decide +kernel
theorem dX9_isStale_13 : decode cX9_isStale 13 = .ok (.aload_n 0, 1) := by decide +kernel
theorem dX9_isStale_14 : decode cX9_isStale 14 = .ok (.iload_n 1, 1) := by decide +kernel
theorem dX9_isStale_15 : decode cX9_isStale 15 = .ok (.invokevirtual 231, 3) := by decide +kernel
theorem dX9_isStale_18 : decode cX9_isStale 18 = .ok (.ifCond .eq 7, 3) := by decide +kernel
theorem dX9_isStale_21 : decode cX9_isStale 21 = .ok (.iconst 1, 1) := by decide +kernel
theorem dX9_isStale_22 : decode cX9_isStale 22 = .ok (.goto 4, 3) := by decide +kernel
theorem dX9_isStale_25 : decode cX9_isStale 25 = .ok (.iconst 0, 1) := by decide +kernel
theorem dX9_isStale_26 : decode cX9_isStale 26 = .ok (.ireturn, 1) := by decide +kernel
theorem dX9_work_0 : decode cX9_work 0 = .ok (.aload_n 0, 1) := by decide +kernel
theorem dX9_work_1 : decode cX9_work 1 = .ok (.iconst 0, 1) := by decide +kernel
theorem dX9_work_2 : decode cX9_work 2 = .ok (.putfield 129, 3) := by decide +kernel
theorem dX9_work_5 : decode cX9_work 5 = .ok (.aload_n 0, 1) := by decide +kernel
theorem dX9_work_6 : decode cX9_work 6 = .ok (.getfield 208, 3) := by decide +kernel
theorem dX9_work_9 : decode cX9_work 9 = .ok (.ireturn, 1) := by decide +kernel
theorem dX9_state_0 : decode cX9_state 0 = .ok (.aload_n 0, 1) := by decide +kernel
theorem dX9_state_1 : decode cX9_state 1 = .ok (.iload_n 1, 1) := by decide +kernel
theorem dX9_state_2 : decode cX9_state 2 = .ok (.invokestatic 300, 3) := by decide +kernel
theorem dX9_state_5 : decode cX9_state 5 = .ok (.iconst 1, 1) := by decide +kernel
theorem dX9_state_6 : decode cX9_state 6 = .ok (.iconst 1, 1) := by decide +kernel
theorem dX9_state_7 : decode cX9_state 7 = .ok (.invokevirtual 150, 3) := by decide +kernel
theorem dX9_state_10 : decode cX9_state 10 = .ok (.ifCond .eq 12, 3) := by decide +kernel
theorem dX9_state_13 : decode cX9_state 13 = .ok (.aload_n 0, 1) := by decide +kernel
theorem dX9_state_14 : decode cX9_state 14 = .ok (.getfield 83, 3) := by decide +kernel
theorem dX9_state_17 : decode cX9_state 17 = .ok (.iload_n 1, 1) := by decide +kernel
theorem dX9_state_18 : decode cX9_state 18 = .ok (.iaload, 1) := by decide +kernel
theorem dX9_state_19 : decode cX9_state 19 = .ok (.goto 4, 3) := by decide +kernel
theorem dX9_state_22 : decode cX9_state 22 = .ok (.iconst 0, 1) := by decide +kernel
theorem dX9_state_23 : decode cX9_state 23 = .ok (.ireturn, 1) := by decide +kernel
theorem dX9_load_0 : decode cX9_load 0 = .ok (.aload_n 0, 1) := by decide +kernel
theorem dX9_load_1 : decode cX9_load 1 = .ok (.iload_n 1, 1) := by decide +kernel
theorem dX9_load_2 : decode cX9_load 2 = .ok (.invokestatic 300, 3) := by decide +kernel
theorem dX9_load_5 : decode cX9_load 5 = .ok (.iconst 1, 1) := by decide +kernel
theorem dX9_load_6 : decode cX9_load 6 = .ok (.iconst 1, 1) := by decide +kernel
theorem dX9_load_7 : decode cX9_load 7 = .ok (.invokevirtual 150, 3) := by decide +kernel
theorem dX9_load_10 : decode cX9_load 10 = .ok (.ifCond .eq 12, 3) := by decide +kernel
theorem dX9_load_13 : decode cX9_load 13 = .ok (.aload_n 0, 1) := by decide +kernel
theorem dX9_load_14 : decode cX9_load 14 = .ok (.getfield 92, 3) := by decide +kernel
theorem dX9_load_17 : decode cX9_load 17 = .ok (.iload_n 1, 1) := by decide +kernel
theorem dX9_load_18 : decode cX9_load 18 = .ok (.iaload, 1) := by decide +kernel
theorem dX9_load_19 : decode cX9_load 19 = .ok (.goto 4, 3) := by decide +kernel
theorem dX9_load_22 : decode cX9_load 22 = .ok (.iconst 0, 1) := by decide +kernel
theorem dX9_load_23 : decode cX9_load 23 = .ok (.ireturn, 1) := by decide +kernel
theorem dX9_told_0 : decode cX9_told 0 = .ok (.aload_n 0, 1) := by decide +kernel
theorem dX9_told_1 : decode cX9_told 1 = .ok (.iload_n 1, 1) := by decide +kernel
theorem dX9_told_2 : decode cX9_told 2 = .ok (.invokestatic 300, 3) := by decide +kernel
theorem dX9_told_5 : decode cX9_told 5 = .ok (.iconst 1, 1) := by decide +kernel
theorem dX9_told_6 : decode cX9_told 6 = .ok (.iconst 1, 1) := by decide +kernel
theorem dX9_told_7 : decode cX9_told 7 = .ok (.invokevirtual 150, 3) := by decide +kernel
theorem dX9_told_10 : decode cX9_told 10 = .ok (.ifCond .eq 12, 3) := by decide +kernel
theorem dX9_told_13 : decode cX9_told 13 = .ok (.aload_n 0, 1) := by decide +kernel
theorem dX9_told_14 : decode cX9_told 14 = .ok (.getfield 95, 3) := by decide +kernel
theorem dX9_told_17 : decode cX9_told 17 = .ok (.iload_n 1, 1) := by decide +kernel
theorem dX9_told_18 : decode cX9_told 18 = .ok (.iaload, 1) := by decide +kernel
theorem dX9_told_19 : decode cX9_told 19 = .ok (.goto 4, 3) := by decide +kernel
theorem dX9_told_22 : decode cX9_told 22 = .ok (.iconst 0, 1) := by decide +kernel
theorem dX9_told_23 : decode cX9_told 23 = .ok (.ireturn, 1) := by decide +kernel
theorem dX9_starts_0 : decode cX9_starts 0 = .ok (.aload_n 0, 1) := by decide +kernel
theorem dX9_starts_1 : decode cX9_starts 1 = .ok (.iload_n 1, 1) := by decide +kernel
theorem dX9_starts_2 : decode cX9_starts 2 = .ok (.invokestatic 300, 3) := by decide +kernel
theorem dX9_starts_5 : decode cX9_starts 5 = .ok (.iconst 1, 1) := by decide +kernel
theorem dX9_starts_6 : decode cX9_starts 6 = .ok (.iconst 1, 1) := by decide +kernel
theorem dX9_starts_7 : decode cX9_starts 7 = .ok (.invokevirtual 150, 3) := by decide +kernel
theorem dX9_starts_10 : decode cX9_starts 10 = .ok (.ifCond .eq 12, 3) := by decide +kernel
theorem dX9_starts_13 : decode cX9_starts 13 = .ok (.aload_n 0, 1) := by decide +kernel
theorem dX9_starts_14 : decode cX9_starts 14 = .ok (.getfield 98, 3) := by decide +kernel
theorem dX9_starts_17 : decode cX9_starts 17 = .ok (.iload_n 1, 1) := by decide +kernel
theorem dX9_starts_18 : decode cX9_starts 18 = .ok (.iaload, 1) := by decide +kernel
theorem dX9_starts_19 : decode cX9_starts 19 = .ok (.goto 4, 3) := by decide +kernel
theorem dX9_starts_22 : decode cX9_starts 22 = .ok (.iconst 0, 1) := by decide +kernel
theorem dX9_starts_23 : decode cX9_starts 23 = .ok (.ireturn, 1) := by decide +kernel
theorem dX9_trial_0 : decode cX9_trial 0 = .ok (.aload_n 0, 1) := by decide +kernel
theorem dX9_trial_1 : decode cX9_trial 1 = .ok (.iload_n 1, 1) := by decide +kernel
theorem dX9_trial_2 : decode cX9_trial 2 = .ok (.invokestatic 300, 3) := by decide +kernel
theorem dX9_trial_5 : decode cX9_trial 5 = .ok (.iconst 1, 1) := by decide +kernel
theorem dX9_trial_6 : decode cX9_trial 6 = .ok (.iconst 1, 1) := by decide +kernel
theorem dX9_trial_7 : decode cX9_trial 7 = .ok (.invokevirtual 150, 3) := by decide +kernel
theorem dX9_trial_10 : decode cX9_trial 10 = .ok (.ifCond .ne 5, 3) := by decide +kernel
theorem dX9_trial_13 : decode cX9_trial 13 = .ok (.iconst 0, 1) := by decide +kernel
theorem dX9_trial_14 : decode cX9_trial 14 = .ok (.ireturn, 1) := by decide +kernel
theorem dX9_trial_15 : decode cX9_trial 15 = .ok (.aload_n 0, 1) := by decide +kernel
theorem dX9_trial_16 : decode cX9_trial 16 = .ok (.getfield 218, 3) := by decide +kernel
theorem dX9_trial_19 : decode cX9_trial 19 = .ok (.istore_n 2, 1) := by decide +kernel
theorem dX9_trial_20 : decode cX9_trial 20 = .ok (.aload_n 0, 1) := by decide +kernel
theorem dX9_trial_21 : decode cX9_trial 21 = .ok (.iload_n 2, 1) := by decide +kernel
theorem dX9_trial_22 : decode cX9_trial 22 = .ok (.bipush 23, 2) := by decide +kernel
theorem dX9_trial_24 : decode cX9_trial 24 = .ok (.if_icmp .ge 7, 3) := by decide +kernel
theorem dX9_trial_27 : decode cX9_trial 27 = .ok (.iconst 0, 1) := by decide +kernel
theorem dX9_trial_28 : decode cX9_trial 28 = .ok (.goto 7, 3) := by decide +kernel
theorem dX9_trial_31 : decode cX9_trial 31 = .ok (.iload_n 2, 1) := by decide +kernel
theorem dX9_trial_32 : decode cX9_trial 32 = .ok (.bipush 23, 2) := by decide +kernel
theorem dX9_trial_34 : decode cX9_trial 34 = .ok (.isub, 1) := by decide +kernel
theorem dX9_trial_35 : decode cX9_trial 35 = .ok (.putfield 218, 3) := by decide +kernel
theorem dX9_trial_38 : decode cX9_trial 38 = .ok (.aload_n 0, 1) := by decide +kernel
theorem dX9_trial_39 : decode cX9_trial 39 = .ok (.invokevirtual 252, 3) := by decide +kernel
theorem dX9_trial_42 : decode cX9_trial 42 = .ok (.aload_n 0, 1) := by decide +kernel
theorem dX9_trial_43 : decode cX9_trial 43 = .ok (.invokevirtual 265, 3) := by decide +kernel
theorem dX9_trial_46 : decode cX9_trial 46 = .ok (.pop, 1) := by decide +kernel
theorem dX9_trial_47 : decode cX9_trial 47 = .ok (.aload_n 0, 1) := by decide +kernel
theorem dX9_trial_48 : decode cX9_trial 48 = .ok (.getfield 218, 3) := by decide +kernel
theorem dX9_trial_51 : decode cX9_trial 51 = .ok (.iload_n 2, 1) := by decide +kernel
theorem dX9_trial_52 : decode cX9_trial 52 = .ok (.if_icmp .ge 25, 3) := by decide +kernel
theorem dX9_trial_55 : decode cX9_trial 55 = .ok (.aload_n 0, 1) := by decide +kernel
theorem dX9_trial_56 : decode cX9_trial 56 = .ok (.invokevirtual 308, 3) := by decide +kernel
theorem dX9_trial_59 : decode cX9_trial 59 = .ok (.aload_n 0, 1) := by decide +kernel
theorem dX9_trial_60 : decode cX9_trial 60 = .ok (.dup, 1) := by decide +kernel
theorem dX9_trial_61 : decode cX9_trial 61 = .ok (.getfield 218, 3) := by decide +kernel
theorem dX9_trial_64 : decode cX9_trial 64 = .ok (.iconst 1, 1) := by decide +kernel
theorem dX9_trial_65 : decode cX9_trial 65 = .ok (.iadd, 1) := by decide +kernel
theorem dX9_trial_66 : decode cX9_trial 66 = .ok (.putfield 218, 3) := by decide +kernel
theorem dX9_trial_69 : decode cX9_trial 69 = .ok (.aload_n 0, 1) := by decide +kernel
theorem dX9_trial_70 : decode cX9_trial 70 = .ok (.invokevirtual 265, 3) := by decide +kernel
theorem dX9_trial_73 : decode cX9_trial 73 = .ok (.pop, 1) := by decide +kernel
theorem dX9_trial_74 : decode cX9_trial 74 = .ok (.goto (-27), 3) := by decide +kernel
theorem dX9_trial_77 : decode cX9_trial 77 = .ok (.aload_n 0, 1) := by decide +kernel
theorem dX9_trial_78 : decode cX9_trial 78 = .ok (.invokevirtual 308, 3) := by decide +kernel
theorem dX9_trial_81 : decode cX9_trial 81 = .ok (.aload_n 0, 1) := by decide +kernel
theorem dX9_trial_82 : decode cX9_trial 82 = .ok (.getfield 98, 3) := by decide +kernel
theorem dX9_trial_85 : decode cX9_trial 85 = .ok (.iload_n 1, 1) := by decide +kernel
theorem dX9_trial_86 : decode cX9_trial 86 = .ok (.iaload, 1) := by decide +kernel
theorem dX9_trial_87 : decode cX9_trial 87 = .ok (.istore_n 3, 1) := by decide +kernel
theorem dX9_trial_88 : decode cX9_trial 88 = .ok (.aload_n 0, 1) := by decide +kernel
theorem dX9_trial_89 : decode cX9_trial 89 = .ok (.invokevirtual 303, 3) := by decide +kernel
theorem dX9_trial_92 : decode cX9_trial 92 = .ok (.iload_n 3, 1) := by decide +kernel
theorem dX9_trial_93 : decode cX9_trial 93 = .ok (.ireturn, 1) := by decide +kernel
theorem dX9_readsAll_0 : decode cX9_readsAll 0 = .ok (.iconst 0, 1) := by decide +kernel
theorem dX9_readsAll_1 : decode cX9_readsAll 1 = .ok (.istore_n 1, 1) := by decide +kernel
theorem dX9_readsAll_2 : decode cX9_readsAll 2 = .ok (.iload_n 1, 1) := by decide +kernel
theorem dX9_readsAll_3 : decode cX9_readsAll 3 = .ok (.aload_n 0, 1) := by decide +kernel
theorem dX9_readsAll_4 : decode cX9_readsAll 4 = .ok (.getfield 277, 3) := by decide +kernel
theorem dX9_readsAll_7 : decode cX9_readsAll 7 = .ok (.if_icmp .ge 42, 3) := by decide +kernel
theorem dX9_readsAll_10 : decode cX9_readsAll 10 = .ok (.aload_n 0, 1) := by decide +kernel
theorem dX9_readsAll_11 : decode cX9_readsAll 11 = .ok (.getfield 101, 3) := by decide +kernel
theorem dX9_readsAll_14 : decode cX9_readsAll 14 = .ok (.iload_n 1, 1) := by decide +kernel
theorem dX9_readsAll_15 : decode cX9_readsAll 15 = .ok (.iaload, 1) := by decide +kernel
theorem dX9_readsAll_16 : decode cX9_readsAll 16 = .ok (.iconst 3, 1) := by decide +kernel
theorem dX9_readsAll_17 : decode cX9_readsAll 17 = .ok (.if_icmp .ne 26, 3) := by decide +kernel
theorem dX9_readsAll_20 : decode cX9_readsAll 20 = .ok (.aload_n 0, 1) := by decide +kernel
theorem dX9_readsAll_21 : decode cX9_readsAll 21 = .ok (.getfield 113, 3) := by decide +kernel
theorem dX9_readsAll_24 : decode cX9_readsAll 24 = .ok (.iload_n 1, 1) := by decide +kernel
theorem dX9_readsAll_25 : decode cX9_readsAll 25 = .ok (.iaload, 1) := by decide +kernel
theorem dX9_readsAll_26 : decode cX9_readsAll 26 = .ok (.aload_n 0, 1) := by decide +kernel
theorem dX9_readsAll_27 : decode cX9_readsAll 27 = .ok (.getfield 218, 3) := by decide +kernel
theorem dX9_readsAll_30 : decode cX9_readsAll 30 = .ok (.if_icmp .ne 13, 3) := by decide +kernel
theorem dX9_readsAll_33 : decode cX9_readsAll 33 = .ok (.aload_n 0, 1) := by decide +kernel
theorem dX9_readsAll_34 : decode cX9_readsAll 34 = .ok (.iload_n 1, 1) := by decide +kernel
theorem dX9_readsAll_35 : decode cX9_readsAll 35 = .ok (.invokevirtual 271, 3) := by decide +kernel
theorem dX9_readsAll_38 : decode cX9_readsAll 38 = .ok (.aload_n 0, 1) := by decide +kernel
theorem dX9_readsAll_39 : decode cX9_readsAll 39 = .ok (.invokevirtual 265, 3) := by decide +kernel
theorem dX9_readsAll_42 : decode cX9_readsAll 42 = .ok (.pop, 1) := by decide +kernel
theorem dX9_readsAll_43 : decode cX9_readsAll 43 = .ok (.iinc 1 1, 3) := by decide +kernel
theorem dX9_readsAll_46 : decode cX9_readsAll 46 = .ok (.goto (-44), 3) := by decide +kernel
theorem dX9_readsAll_49 : decode cX9_readsAll 49 = .ok (.return_, 1) := by decide +kernel
theorem dX9_hangsOn_0 : decode cX9_hangsOn 0 = .ok (.aload_n 0, 1) := by decide +kernel
theorem dX9_hangsOn_1 : decode cX9_hangsOn 1 = .ok (.getfield 53, 3) := by decide +kernel
theorem dX9_hangsOn_4 : decode cX9_hangsOn 4 = .ok (.iload_n 1, 1) := by decide +kernel
theorem dX9_hangsOn_5 : decode cX9_hangsOn 5 = .ok (.iaload, 1) := by decide +kernel
theorem dX9_hangsOn_6 : decode cX9_hangsOn 6 = .ok (.ifCond .ge 7, 3) := by decide +kernel
theorem dX9_hangsOn_9 : decode cX9_hangsOn 9 = .ok (.iconst 0, 1) := by decide +kernel
theorem dX9_hangsOn_10 : decode cX9_hangsOn 10 = .ok (.goto 11, 3) := by decide +kernel
theorem dX9_hangsOn_13 : decode cX9_hangsOn 13 = .ok (.iconst 1, 1) := by decide +kernel
theorem dX9_hangsOn_14 : decode cX9_hangsOn 14 = .ok (.aload_n 0, 1) := by decide +kernel
theorem dX9_hangsOn_15 : decode cX9_hangsOn 15 = .ok (.getfield 53, 3) := by decide +kernel
theorem dX9_hangsOn_18 : decode cX9_hangsOn 18 = .ok (.iload_n 1, 1) := by decide +kernel
theorem dX9_hangsOn_19 : decode cX9_hangsOn 19 = .ok (.iaload, 1) := by decide +kernel
theorem dX9_hangsOn_20 : decode cX9_hangsOn 20 = .ok (.ishl, 1) := by decide +kernel
theorem dX9_hangsOn_21 : decode cX9_hangsOn 21 = .ok (.aload_n 0, 1) := by decide +kernel
theorem dX9_hangsOn_22 : decode cX9_hangsOn 22 = .ok (.getfield 56, 3) := by decide +kernel
theorem dX9_hangsOn_25 : decode cX9_hangsOn 25 = .ok (.iload_n 1, 1) := by decide +kernel
theorem dX9_hangsOn_26 : decode cX9_hangsOn 26 = .ok (.iaload, 1) := by decide +kernel
theorem dX9_hangsOn_27 : decode cX9_hangsOn 27 = .ok (.ifCond .ge 7, 3) := by decide +kernel
theorem dX9_hangsOn_30 : decode cX9_hangsOn 30 = .ok (.iconst 0, 1) := by decide +kernel
theorem dX9_hangsOn_31 : decode cX9_hangsOn 31 = .ok (.goto 11, 3) := by decide +kernel
theorem dX9_hangsOn_34 : decode cX9_hangsOn 34 = .ok (.iconst 1, 1) := by decide +kernel
theorem dX9_hangsOn_35 : decode cX9_hangsOn 35 = .ok (.aload_n 0, 1) := by decide +kernel
theorem dX9_hangsOn_36 : decode cX9_hangsOn 36 = .ok (.getfield 56, 3) := by decide +kernel
theorem dX9_hangsOn_39 : decode cX9_hangsOn 39 = .ok (.iload_n 1, 1) := by decide +kernel
theorem dX9_hangsOn_40 : decode cX9_hangsOn 40 = .ok (.iaload, 1) := by decide +kernel
theorem dX9_hangsOn_41 : decode cX9_hangsOn 41 = .ok (.ishl, 1) := by decide +kernel
theorem dX9_hangsOn_42 : decode cX9_hangsOn 42 = .ok (.ior, 1) := by decide +kernel
theorem dX9_hangsOn_43 : decode cX9_hangsOn 43 = .ok (.istore_n 2, 1) := by decide +kernel
theorem dX9_hangsOn_44 : decode cX9_hangsOn 44 = .ok (.aload_n 0, 1) := by decide +kernel
theorem dX9_hangsOn_45 : decode cX9_hangsOn 45 = .ok (.iload_n 2, 1) := by decide +kernel
theorem dX9_hangsOn_46 : decode cX9_hangsOn 46 = .ok (.iconst 0, 1) := by decide +kernel
theorem dX9_hangsOn_47 : decode cX9_hangsOn 47 = .ok (.invokevirtual 221, 3) := by decide +kernel
theorem dX9_hangsOn_50 : decode cX9_hangsOn 50 = .ok (.istore_n 3, 1) := by decide +kernel
theorem dX9_hangsOn_51 : decode cX9_hangsOn 51 = .ok (.aload_n 0, 1) := by decide +kernel
theorem dX9_hangsOn_52 : decode cX9_hangsOn 52 = .ok (.getfield 59, 3) := by decide +kernel
theorem dX9_hangsOn_55 : decode cX9_hangsOn 55 = .ok (.iload_n 1, 1) := by decide +kernel
theorem dX9_hangsOn_56 : decode cX9_hangsOn 56 = .ok (.iaload, 1) := by decide +kernel
theorem dX9_hangsOn_57 : decode cX9_hangsOn 57 = .ok (.istore 4, 2) := by decide +kernel
theorem dX9_hangsOn_59 : decode cX9_hangsOn 59 = .ok (.iconst 0, 1) := by decide +kernel
theorem dX9_hangsOn_60 : decode cX9_hangsOn 60 = .ok (.istore 5, 2) := by decide +kernel
theorem dX9_hangsOn_62 : decode cX9_hangsOn 62 = .ok (.iload 5, 2) := by decide +kernel
theorem dX9_hangsOn_64 : decode cX9_hangsOn 64 = .ok (.bipush 12, 2) := by decide +kernel
theorem dX9_hangsOn_66 : decode cX9_hangsOn 66 = .ok (.if_icmp .ge 34, 3) := by decide +kernel
theorem dX9_hangsOn_69 : decode cX9_hangsOn 69 = .ok (.iload 4, 2) := by decide +kernel
theorem dX9_hangsOn_71 : decode cX9_hangsOn 71 = .ok (.iload_n 3, 1) := by decide +kernel
theorem dX9_hangsOn_72 : decode cX9_hangsOn 72 = .ok (.iload 5, 2) := by decide +kernel
theorem dX9_hangsOn_74 : decode cX9_hangsOn 74 = .ok (.invokestatic 197, 3) := by decide +kernel
theorem dX9_hangsOn_77 : decode cX9_hangsOn 77 = .ok (.ifCond .eq 13, 3) := by decide +kernel
theorem dX9_hangsOn_80 : decode cX9_hangsOn 80 = .ok (.aload_n 0, 1) := by decide +kernel
theorem dX9_hangsOn_81 : decode cX9_hangsOn 81 = .ok (.getfield 41, 3) := by decide +kernel
theorem dX9_hangsOn_84 : decode cX9_hangsOn 84 = .ok (.iload 5, 2) := by decide +kernel
theorem dX9_hangsOn_86 : decode cX9_hangsOn 86 = .ok (.iaload, 1) := by decide +kernel
theorem dX9_hangsOn_87 : decode cX9_hangsOn 87 = .ok (.goto 4, 3) := by decide +kernel
theorem dX9_hangsOn_90 : decode cX9_hangsOn 90 = .ok (.iconst 0, 1) := by decide +kernel
theorem dX9_hangsOn_91 : decode cX9_hangsOn 91 = .ok (.ior, 1) := by decide +kernel
theorem dX9_hangsOn_92 : decode cX9_hangsOn 92 = .ok (.istore 4, 2) := by decide +kernel
theorem dX9_hangsOn_94 : decode cX9_hangsOn 94 = .ok (.iinc 5 1, 3) := by decide +kernel
theorem dX9_hangsOn_97 : decode cX9_hangsOn 97 = .ok (.goto (-35), 3) := by decide +kernel
theorem dX9_hangsOn_100 : decode cX9_hangsOn 100 = .ok (.iload 4, 2) := by decide +kernel
theorem dX9_hangsOn_102 : decode cX9_hangsOn 102 = .ok (.ireturn, 1) := by decide +kernel
theorem dX9_isLoop_0 : decode cX9_isLoop 0 = .ok (.aload_n 0, 1) := by decide +kernel
theorem dX9_isLoop_1 : decode cX9_isLoop 1 = .ok (.iload_n 1, 1) := by decide +kernel
theorem dX9_isLoop_2 : decode cX9_isLoop 2 = .ok (.invokestatic 300, 3) := by decide +kernel
theorem dX9_isLoop_5 : decode cX9_isLoop 5 = .ok (.iconst 1, 1) := by decide +kernel
theorem dX9_isLoop_6 : decode cX9_isLoop 6 = .ok (.iconst 1, 1) := by decide +kernel
theorem dX9_isLoop_7 : decode cX9_isLoop 7 = .ok (.invokevirtual 150, 3) := by decide +kernel
theorem dX9_isLoop_10 : decode cX9_isLoop 10 = .ok (.ifCond .ne 5, 3) := by decide +kernel
theorem dX9_isLoop_13 : decode cX9_isLoop 13 = .ok (.iconst 0, 1) := by decide +kernel
theorem dX9_isLoop_14 : decode cX9_isLoop 14 = .ok (.ireturn, 1) := by decide +kernel
theorem dX9_isLoop_15 : decode cX9_isLoop 15 = .ok (.aload_n 0, 1) := by decide +kernel
theorem dX9_isLoop_16 : decode cX9_isLoop 16 = .ok (.iload_n 1, 1) := by decide +kernel
theorem dX9_isLoop_17 : decode cX9_isLoop 17 = .ok (.invokevirtual 311, 3) := by decide +kernel
theorem dX9_isLoop_20 : decode cX9_isLoop 20 = .ok (.istore_n 2, 1) := by decide +kernel
theorem dX9_isLoop_21 : decode cX9_isLoop 21 = .ok (.iconst 0, 1) := by decide +kernel
theorem dX9_isLoop_22 : decode cX9_isLoop 22 = .ok (.istore_n 3, 1) := by decide +kernel
theorem dX9_isLoop_23 : decode cX9_isLoop 23 = .ok (.iload_n 3, 1) := by decide +kernel
theorem dX9_isLoop_24 : decode cX9_isLoop 24 = .ok (.iconst 5, 1) := by decide +kernel
theorem dX9_isLoop_25 : decode cX9_isLoop 25 = .ok (.if_icmp .ge 46, 3) := by decide +kernel
theorem dX9_isLoop_28 : decode cX9_isLoop 28 = .ok (.iconst 0, 1) := by decide +kernel
theorem dX9_isLoop_29 : decode cX9_isLoop 29 = .ok (.istore 4, 2) := by decide +kernel
theorem dX9_isLoop_31 : decode cX9_isLoop 31 = .ok (.iload 4, 2) := by decide +kernel
theorem dX9_isLoop_33 : decode cX9_isLoop 33 = .ok (.iconst 5, 1) := by decide +kernel
theorem dX9_isLoop_34 : decode cX9_isLoop 34 = .ok (.if_icmp .ge 31, 3) := by decide +kernel
theorem dX9_isLoop_37 : decode cX9_isLoop 37 = .ok (.iload_n 2, 1) := by decide +kernel
theorem dX9_isLoop_38 : decode cX9_isLoop 38 = .ok (.iload_n 2, 1) := by decide +kernel
theorem dX9_isLoop_39 : decode cX9_isLoop 39 = .ok (.iload 4, 2) := by decide +kernel
theorem dX9_isLoop_41 : decode cX9_isLoop 41 = .ok (.invokestatic 197, 3) := by decide +kernel
theorem dX9_isLoop_44 : decode cX9_isLoop 44 = .ok (.ifCond .eq 12, 3) := by decide +kernel
theorem dX9_isLoop_47 : decode cX9_isLoop 47 = .ok (.aload_n 0, 1) := by decide +kernel
theorem dX9_isLoop_48 : decode cX9_isLoop 48 = .ok (.iload 4, 2) := by decide +kernel
theorem dX9_isLoop_50 : decode cX9_isLoop 50 = .ok (.invokevirtual 311, 3) := by decide +kernel
theorem dX9_isLoop_53 : decode cX9_isLoop 53 = .ok (.goto 4, 3) := by decide +kernel
theorem dX9_isLoop_56 : decode cX9_isLoop 56 = .ok (.iconst 0, 1) := by decide +kernel
theorem dX9_isLoop_57 : decode cX9_isLoop 57 = .ok (.ior, 1) := by decide +kernel
theorem dX9_isLoop_58 : decode cX9_isLoop 58 = .ok (.istore_n 2, 1) := by decide +kernel
theorem dX9_isLoop_59 : decode cX9_isLoop 59 = .ok (.iinc 4 1, 3) := by decide +kernel
theorem dX9_isLoop_62 : decode cX9_isLoop 62 = .ok (.goto (-31), 3) := by decide +kernel
theorem dX9_isLoop_65 : decode cX9_isLoop 65 = .ok (.iinc 3 1, 3) := by decide +kernel
theorem dX9_isLoop_68 : decode cX9_isLoop 68 = .ok (.goto (-45), 3) := by decide +kernel
theorem dX9_isLoop_71 : decode cX9_isLoop 71 = .ok (.iload_n 2, 1) := by decide +kernel
theorem dX9_isLoop_72 : decode cX9_isLoop 72 = .ok (.iload_n 1, 1) := by decide +kernel
theorem dX9_isLoop_73 : decode cX9_isLoop 73 = .ok (.invokestatic 197, 3) := by decide +kernel
theorem dX9_isLoop_76 : decode cX9_isLoop 76 = .ok (.ireturn, 1) := by decide +kernel
