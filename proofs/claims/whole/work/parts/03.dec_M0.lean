theorem dc_M_init_0 : decode co_M_init 0 = .ok (.aload_n 0, 1) := by decide +kernel
theorem dc_M_init_1 : decode co_M_init 1 = .ok (.invokespecial 1, 3) := by decide +kernel
theorem dc_M_init_4 : decode co_M_init 4 = .ok (.aload_n 0, 1) := by decide +kernel
theorem dc_M_init_5 : decode co_M_init 5 = .ok (.bipush 13, 2) := by decide +kernel
theorem dc_M_init_7 : decode co_M_init 7 = .ok (.newarray .int, 2) := by decide +kernel
theorem dc_M_init_9 : decode co_M_init 9 = .ok (.putfield 7, 3) := by decide +kernel
theorem dc_M_init_12 : decode co_M_init 12 = .ok (.aload_n 0, 1) := by decide +kernel
theorem dc_M_init_13 : decode co_M_init 13 = .ok (.bipush 13, 2) := by decide +kernel
theorem dc_M_init_15 : decode co_M_init 15 = .ok (.newarray .int, 2) := by decide +kernel
theorem dc_M_init_17 : decode co_M_init 17 = .ok (.putfield 13, 3) := by decide +kernel
theorem dc_M_init_20 : decode co_M_init 20 = .ok (.aload_n 0, 1) := by decide +kernel
theorem dc_M_init_21 : decode co_M_init 21 = .ok (.bipush 13, 2) := by decide +kernel
theorem dc_M_init_23 : decode co_M_init 23 = .ok (.newarray .long, 2) := by decide +kernel
theorem dc_M_init_25 : decode co_M_init 25 = .ok (.putfield 16, 3) := by decide +kernel
theorem dc_M_init_28 : decode co_M_init 28 = .ok (.aload_n 0, 1) := by decide +kernel
theorem dc_M_init_29 : decode co_M_init 29 = .ok (.sipush 1980, 3) := by decide +kernel
theorem dc_M_init_32 : decode co_M_init 32 = .ok (.newarray .int, 2) := by decide +kernel
theorem dc_M_init_34 : decode co_M_init 34 = .ok (.putfield 20, 3) := by decide +kernel
theorem dc_M_init_37 : decode co_M_init 37 = .ok (.aload_n 0, 1) := by decide +kernel
theorem dc_M_init_38 : decode co_M_init 38 = .ok (.bipush 60, 2) := by decide +kernel
theorem dc_M_init_40 : decode co_M_init 40 = .ok (.newarray .int, 2) := by decide +kernel
theorem dc_M_init_42 : decode co_M_init 42 = .ok (.putfield 23, 3) := by decide +kernel
theorem dc_M_init_45 : decode co_M_init 45 = .ok (.aload_n 0, 1) := by decide +kernel
theorem dc_M_init_46 : decode co_M_init 46 = .ok (.bipush 60, 2) := by decide +kernel
theorem dc_M_init_48 : decode co_M_init 48 = .ok (.newarray .boolean, 2) := by decide +kernel
theorem dc_M_init_50 : decode co_M_init 50 = .ok (.putfield 26, 3) := by decide +kernel
theorem dc_M_init_53 : decode co_M_init 53 = .ok (.aload_n 0, 1) := by decide +kernel
theorem dc_M_init_54 : decode co_M_init 54 = .ok (.bipush 60, 2) := by decide +kernel
theorem dc_M_init_56 : decode co_M_init 56 = .ok (.newarray .boolean, 2) := by decide +kernel
theorem dc_M_init_58 : decode co_M_init 58 = .ok (.putfield 30, 3) := by decide +kernel
theorem dc_M_init_61 : decode co_M_init 61 = .ok (.aload_n 0, 1) := by decide +kernel
theorem dc_M_init_62 : decode co_M_init 62 = .ok (.sipush 600, 3) := by decide +kernel
theorem dc_M_init_65 : decode co_M_init 65 = .ok (.newarray .int, 2) := by decide +kernel
theorem dc_M_init_67 : decode co_M_init 67 = .ok (.putfield 33, 3) := by decide +kernel
theorem dc_M_init_70 : decode co_M_init 70 = .ok (.aload_n 0, 1) := by decide +kernel
theorem dc_M_init_71 : decode co_M_init 71 = .ok (.sipush 600, 3) := by decide +kernel
theorem dc_M_init_74 : decode co_M_init 74 = .ok (.newarray .int, 2) := by decide +kernel
theorem dc_M_init_76 : decode co_M_init 76 = .ok (.putfield 36, 3) := by decide +kernel
theorem dc_M_init_79 : decode co_M_init 79 = .ok (.aload_n 0, 1) := by decide +kernel
theorem dc_M_init_80 : decode co_M_init 80 = .ok (.iconst 3, 1) := by decide +kernel
theorem dc_M_init_81 : decode co_M_init 81 = .ok (.newarray .int, 2) := by decide +kernel
theorem dc_M_init_83 : decode co_M_init 83 = .ok (.putfield 39, 3) := by decide +kernel
theorem dc_M_init_86 : decode co_M_init 86 = .ok (.aload_n 0, 1) := by decide +kernel
theorem dc_M_init_87 : decode co_M_init 87 = .ok (.bipush 16, 2) := by decide +kernel
theorem dc_M_init_89 : decode co_M_init 89 = .ok (.newarray .int, 2) := by decide +kernel
theorem dc_M_init_91 : decode co_M_init 91 = .ok (.putfield 42, 3) := by decide +kernel
theorem dc_M_init_94 : decode co_M_init 94 = .ok (.aload_n 0, 1) := by decide +kernel
theorem dc_M_init_95 : decode co_M_init 95 = .ok (.iconst 5, 1) := by decide +kernel
theorem dc_M_init_96 : decode co_M_init 96 = .ok (.newarray .int, 2) := by decide +kernel
theorem dc_M_init_98 : decode co_M_init 98 = .ok (.putfield 45, 3) := by decide +kernel
theorem dc_M_init_101 : decode co_M_init 101 = .ok (.aload_n 0, 1) := by decide +kernel
theorem dc_M_init_102 : decode co_M_init 102 = .ok (.sipush 3000, 3) := by decide +kernel
theorem dc_M_init_105 : decode co_M_init 105 = .ok (.newarray .int, 2) := by decide +kernel
theorem dc_M_init_107 : decode co_M_init 107 = .ok (.putfield 48, 3) := by decide +kernel
theorem dc_M_init_110 : decode co_M_init 110 = .ok (.aload_n 0, 1) := by decide +kernel
theorem dc_M_init_111 : decode co_M_init 111 = .ok (.bipush 25, 2) := by decide +kernel
theorem dc_M_init_113 : decode co_M_init 113 = .ok (.newarray .long, 2) := by decide +kernel
theorem dc_M_init_115 : decode co_M_init 115 = .ok (.putfield 51, 3) := by decide +kernel
theorem dc_M_init_118 : decode co_M_init 118 = .ok (.aload_n 0, 1) := by decide +kernel
theorem dc_M_init_119 : decode co_M_init 119 = .ok (.bipush 25, 2) := by decide +kernel
theorem dc_M_init_121 : decode co_M_init 121 = .ok (.newarray .long, 2) := by decide +kernel
theorem dc_M_init_123 : decode co_M_init 123 = .ok (.putfield 54, 3) := by decide +kernel
theorem dc_M_init_126 : decode co_M_init 126 = .ok (.aload_n 0, 1) := by decide +kernel
theorem dc_M_init_127 : decode co_M_init 127 = .ok (.iconst 5, 1) := by decide +kernel
theorem dc_M_init_128 : decode co_M_init 128 = .ok (.newarray .long, 2) := by decide +kernel
theorem dc_M_init_130 : decode co_M_init 130 = .ok (.putfield 57, 3) := by decide +kernel
theorem dc_M_init_133 : decode co_M_init 133 = .ok (.aload_n 0, 1) := by decide +kernel
theorem dc_M_init_134 : decode co_M_init 134 = .ok (.bipush 25, 2) := by decide +kernel
theorem dc_M_init_136 : decode co_M_init 136 = .ok (.newarray .int, 2) := by decide +kernel
theorem dc_M_init_138 : decode co_M_init 138 = .ok (.putfield 60, 3) := by decide +kernel
theorem dc_M_init_141 : decode co_M_init 141 = .ok (.aload_n 0, 1) := by decide +kernel
theorem dc_M_init_142 : decode co_M_init 142 = .ok (.bipush 24, 2) := by decide +kernel
theorem dc_M_init_144 : decode co_M_init 144 = .ok (.newarray .long, 2) := by decide +kernel
theorem dc_M_init_146 : decode co_M_init 146 = .ok (.putfield 63, 3) := by decide +kernel
theorem dc_M_init_149 : decode co_M_init 149 = .ok (.aload_n 0, 1) := by decide +kernel
theorem dc_M_init_150 : decode co_M_init 150 = .ok (.sipush 680, 3) := by decide +kernel
theorem dc_M_init_153 : decode co_M_init 153 = .ok (.newarray .int, 2) := by decide +kernel
theorem dc_M_init_155 : decode co_M_init 155 = .ok (.putfield 66, 3) := by decide +kernel
theorem dc_M_init_158 : decode co_M_init 158 = .ok (.aload_n 0, 1) := by decide +kernel
theorem dc_M_init_159 : decode co_M_init 159 = .ok (.bipush 32, 2) := by decide +kernel
theorem dc_M_init_161 : decode co_M_init 161 = .ok (.newarray .int, 2) := by decide +kernel
theorem dc_M_init_163 : decode co_M_init 163 = .ok (.putfield 69, 3) := by decide +kernel
theorem dc_M_init_166 : decode co_M_init 166 = .ok (.aload_n 0, 1) := by decide +kernel
theorem dc_M_init_167 : decode co_M_init 167 = .ok (.bipush 32, 2) := by decide +kernel
theorem dc_M_init_169 : decode co_M_init 169 = .ok (.newarray .int, 2) := by decide +kernel
theorem dc_M_init_171 : decode co_M_init 171 = .ok (.putfield 72, 3) := by decide +kernel
theorem dc_M_init_174 : decode co_M_init 174 = .ok (.iconst 1, 1) := by decide +kernel
theorem dc_M_init_175 : decode co_M_init 175 = .ok (.istore_n 1, 1) := by decide +kernel
theorem dc_M_init_176 : decode co_M_init 176 = .ok (.iconst 0, 1) := by decide +kernel
theorem dc_M_init_177 : decode co_M_init 177 = .ok (.istore_n 2, 1) := by decide +kernel
theorem dc_M_init_178 : decode co_M_init 178 = .ok (.iconst 0, 1) := by decide +kernel
theorem dc_M_init_179 : decode co_M_init 179 = .ok (.istore_n 3, 1) := by decide +kernel
theorem dc_M_init_180 : decode co_M_init 180 = .ok (.iload_n 3, 1) := by decide +kernel
theorem dc_M_init_181 : decode co_M_init 181 = .ok (.bipush 24, 2) := by decide +kernel
theorem dc_M_init_183 : decode co_M_init 183 = .ok (.if_icmp .ge 47, 3) := by decide +kernel
theorem dc_M_init_186 : decode co_M_init 186 = .ok (.aload_n 0, 1) := by decide +kernel
theorem dc_M_init_187 : decode co_M_init 187 = .ok (.getfield 60, 3) := by decide +kernel
theorem dc_M_init_190 : decode co_M_init 190 = .ok (.iload_n 1, 1) := by decide +kernel
theorem dc_M_init_191 : decode co_M_init 191 = .ok (.iconst 5, 1) := by decide +kernel
theorem dc_M_init_192 : decode co_M_init 192 = .ok (.iload_n 2, 1) := by decide +kernel
theorem dc_M_init_193 : decode co_M_init 193 = .ok (.imul, 1) := by decide +kernel
theorem dc_M_init_194 : decode co_M_init 194 = .ok (.iadd, 1) := by decide +kernel
theorem dc_M_init_195 : decode co_M_init 195 = .ok (.iload_n 3, 1) := by decide +kernel
theorem dc_M_init_196 : decode co_M_init 196 = .ok (.iconst 1, 1) := by decide +kernel
theorem dc_M_init_197 : decode co_M_init 197 = .ok (.iadd, 1) := by decide +kernel
theorem dc_M_init_198 : decode co_M_init 198 = .ok (.iload_n 3, 1) := by decide +kernel
theorem dc_M_init_199 : decode co_M_init 199 = .ok (.iconst 2, 1) := by decide +kernel
theorem dc_M_init_200 : decode co_M_init 200 = .ok (.iadd, 1) := by decide +kernel
theorem dc_M_init_201 : decode co_M_init 201 = .ok (.imul, 1) := by decide +kernel
theorem dc_M_init_202 : decode co_M_init 202 = .ok (.iconst 2, 1) := by decide +kernel
theorem dc_M_init_203 : decode co_M_init 203 = .ok (.idiv, 1) := by decide +kernel
theorem dc_M_init_204 : decode co_M_init 204 = .ok (.bipush 64, 2) := by decide +kernel
theorem dc_M_init_206 : decode co_M_init 206 = .ok (.irem, 1) := by decide +kernel
theorem dc_M_init_207 : decode co_M_init 207 = .ok (.iastore, 1) := by decide +kernel
theorem dc_M_init_208 : decode co_M_init 208 = .ok (.iconst 2, 1) := by decide +kernel
theorem dc_M_init_209 : decode co_M_init 209 = .ok (.iload_n 1, 1) := by decide +kernel
theorem dc_M_init_210 : decode co_M_init 210 = .ok (.imul, 1) := by decide +kernel
theorem dc_M_init_211 : decode co_M_init 211 = .ok (.iconst 3, 1) := by decide +kernel
theorem dc_M_init_212 : decode co_M_init 212 = .ok (.iload_n 2, 1) := by decide +kernel
theorem dc_M_init_213 : decode co_M_init 213 = .ok (.imul, 1) := by decide +kernel
theorem dc_M_init_214 : decode co_M_init 214 = .ok (.iadd, 1) := by decide +kernel
theorem dc_M_init_215 : decode co_M_init 215 = .ok (.iconst 5, 1) := by decide +kernel
theorem dc_M_init_216 : decode co_M_init 216 = .ok (.irem, 1) := by decide +kernel
theorem dc_M_init_217 : decode co_M_init 217 = .ok (.istore 4, 2) := by decide +kernel
theorem dc_M_init_219 : decode co_M_init 219 = .ok (.iload_n 2, 1) := by decide +kernel
theorem dc_M_init_220 : decode co_M_init 220 = .ok (.istore_n 1, 1) := by decide +kernel
theorem dc_M_init_221 : decode co_M_init 221 = .ok (.iload 4, 2) := by decide +kernel
theorem dc_M_init_223 : decode co_M_init 223 = .ok (.istore_n 2, 1) := by decide +kernel
theorem dc_M_init_224 : decode co_M_init 224 = .ok (.iinc 3 1, 3) := by decide +kernel
theorem dc_M_init_227 : decode co_M_init 227 = .ok (.goto (-47), 3) := by decide +kernel
theorem dc_M_init_230 : decode co_M_init 230 = .ok (.iconst 1, 1) := by decide +kernel
theorem dc_M_init_231 : decode co_M_init 231 = .ok (.istore_n 3, 1) := by decide +kernel
theorem dc_M_init_232 : decode co_M_init 232 = .ok (.iconst 0, 1) := by decide +kernel
theorem dc_M_init_233 : decode co_M_init 233 = .ok (.istore 4, 2) := by decide +kernel
theorem dc_M_init_235 : decode co_M_init 235 = .ok (.iload 4, 2) := by decide +kernel
theorem dc_M_init_237 : decode co_M_init 237 = .ok (.sipush 168, 3) := by decide +kernel
theorem dc_M_init_240 : decode co_M_init 240 = .ok (.if_icmp .ge 67, 3) := by decide +kernel
theorem dc_M_init_243 : decode co_M_init 243 = .ok (.aload_n 0, 1) := by decide +kernel
theorem dc_M_init_244 : decode co_M_init 244 = .ok (.getfield 63, 3) := by decide +kernel
theorem dc_M_init_247 : decode co_M_init 247 = .ok (.iload 4, 2) := by decide +kernel
theorem dc_M_init_249 : decode co_M_init 249 = .ok (.bipush 7, 2) := by decide +kernel
theorem dc_M_init_251 : decode co_M_init 251 = .ok (.idiv, 1) := by decide +kernel
theorem dc_M_init_252 : decode co_M_init 252 = .ok (.aload_n 0, 1) := by decide +kernel
theorem dc_M_init_253 : decode co_M_init 253 = .ok (.getfield 63, 3) := by decide +kernel
theorem dc_M_init_256 : decode co_M_init 256 = .ok (.iload 4, 2) := by decide +kernel
theorem dc_M_init_258 : decode co_M_init 258 = .ok (.bipush 7, 2) := by decide +kernel
theorem dc_M_init_260 : decode co_M_init 260 = .ok (.idiv, 1) := by decide +kernel
theorem dc_M_init_261 : decode co_M_init 261 = .ok (.laload, 1) := by decide +kernel
theorem dc_M_init_262 : decode co_M_init 262 = .ok (.iload_n 3, 1) := by decide +kernel
theorem dc_M_init_263 : decode co_M_init 263 = .ok (.iconst 1, 1) := by decide +kernel
theorem dc_M_init_264 : decode co_M_init 264 = .ok (.iand, 1) := by decide +kernel
theorem dc_M_init_265 : decode co_M_init 265 = .ok (.i2l, 1) := by decide +kernel
theorem dc_M_init_266 : decode co_M_init 266 = .ok (.iconst 1, 1) := by decide +kernel
theorem dc_M_init_267 : decode co_M_init 267 = .ok (.iload 4, 2) := by decide +kernel
theorem dc_M_init_269 : decode co_M_init 269 = .ok (.bipush 7, 2) := by decide +kernel
theorem dc_M_init_271 : decode co_M_init 271 = .ok (.irem, 1) := by decide +kernel
theorem dc_M_init_272 : decode co_M_init 272 = .ok (.ishl, 1) := by decide +kernel
theorem dc_M_init_273 : decode co_M_init 273 = .ok (.iconst 1, 1) := by decide +kernel
theorem dc_M_init_274 : decode co_M_init 274 = .ok (.isub, 1) := by decide +kernel
theorem dc_M_init_275 : decode co_M_init 275 = .ok (.lshl, 1) := by decide +kernel
theorem dc_M_init_276 : decode co_M_init 276 = .ok (.lor, 1) := by decide +kernel
theorem dc_M_init_277 : decode co_M_init 277 = .ok (.lastore, 1) := by decide +kernel
theorem dc_M_init_278 : decode co_M_init 278 = .ok (.iconst 2, 1) := by decide +kernel
theorem dc_M_init_279 : decode co_M_init 279 = .ok (.iload_n 3, 1) := by decide +kernel
theorem dc_M_init_280 : decode co_M_init 280 = .ok (.imul, 1) := by decide +kernel
theorem dc_M_init_281 : decode co_M_init 281 = .ok (.sipush 256, 3) := by decide +kernel
theorem dc_M_init_284 : decode co_M_init 284 = .ok (.if_icmp .lt 13, 3) := by decide +kernel
theorem dc_M_init_287 : decode co_M_init 287 = .ok (.iconst 2, 1) := by decide +kernel
theorem dc_M_init_288 : decode co_M_init 288 = .ok (.iload_n 3, 1) := by decide +kernel
theorem dc_M_init_289 : decode co_M_init 289 = .ok (.imul, 1) := by decide +kernel
theorem dc_M_init_290 : decode co_M_init 290 = .ok (.sipush 369, 3) := by decide +kernel
theorem dc_M_init_293 : decode co_M_init 293 = .ok (.ixor, 1) := by decide +kernel
theorem dc_M_init_294 : decode co_M_init 294 = .ok (.goto 6, 3) := by decide +kernel
theorem dc_M_init_297 : decode co_M_init 297 = .ok (.iconst 2, 1) := by decide +kernel
theorem dc_M_init_298 : decode co_M_init 298 = .ok (.iload_n 3, 1) := by decide +kernel
theorem dc_M_init_299 : decode co_M_init 299 = .ok (.imul, 1) := by decide +kernel
theorem dc_M_init_300 : decode co_M_init 300 = .ok (.istore_n 3, 1) := by decide +kernel
theorem dc_M_init_301 : decode co_M_init 301 = .ok (.iinc 4 1, 3) := by decide +kernel
theorem dc_M_init_304 : decode co_M_init 304 = .ok (.goto (-69), 3) := by decide +kernel
theorem dc_M_init_307 : decode co_M_init 307 = .ok (.return_, 1) := by decide +kernel
theorem dc_M_turn_0 : decode co_M_turn 0 = .ok (.iload_n 2, 1) := by decide +kernel
theorem dc_M_turn_1 : decode co_M_turn 1 = .ok (.ifCond .ne 7, 3) := by decide +kernel
theorem dc_M_turn_4 : decode co_M_turn 4 = .ok (.lload_n 0, 1) := by decide +kernel
theorem dc_M_turn_5 : decode co_M_turn 5 = .ok (.goto 13, 3) := by decide +kernel
theorem dc_M_turn_8 : decode co_M_turn 8 = .ok (.lload_n 0, 1) := by decide +kernel
theorem dc_M_turn_9 : decode co_M_turn 9 = .ok (.iload_n 2, 1) := by decide +kernel
theorem dc_M_turn_10 : decode co_M_turn 10 = .ok (.lshl, 1) := by decide +kernel
theorem dc_M_turn_11 : decode co_M_turn 11 = .ok (.lload_n 0, 1) := by decide +kernel
theorem dc_M_turn_12 : decode co_M_turn 12 = .ok (.bipush 64, 2) := by decide +kernel
theorem dc_M_turn_14 : decode co_M_turn 14 = .ok (.iload_n 2, 1) := by decide +kernel
theorem dc_M_turn_15 : decode co_M_turn 15 = .ok (.isub, 1) := by decide +kernel
theorem dc_M_turn_16 : decode co_M_turn 16 = .ok (.lushr, 1) := by decide +kernel
theorem dc_M_turn_17 : decode co_M_turn 17 = .ok (.lor, 1) := by decide +kernel
theorem dc_M_turn_18 : decode co_M_turn 18 = .ok (.lreturn, 1) := by decide +kernel
theorem dc_M_round_0 : decode co_M_round 0 = .ok (.iconst 0, 1) := by decide +kernel
theorem dc_M_round_1 : decode co_M_round 1 = .ok (.istore_n 2, 1) := by decide +kernel
theorem dc_M_round_2 : decode co_M_round 2 = .ok (.iload_n 2, 1) := by decide +kernel
theorem dc_M_round_3 : decode co_M_round 3 = .ok (.iconst 5, 1) := by decide +kernel
theorem dc_M_round_4 : decode co_M_round 4 = .ok (.if_icmp .ge 60, 3) := by decide +kernel
theorem dc_M_round_7 : decode co_M_round 7 = .ok (.aload_n 0, 1) := by decide +kernel
theorem dc_M_round_8 : decode co_M_round 8 = .ok (.getfield 57, 3) := by decide +kernel
theorem dc_M_round_11 : decode co_M_round 11 = .ok (.iload_n 2, 1) := by decide +kernel
theorem dc_M_round_12 : decode co_M_round 12 = .ok (.aload_n 0, 1) := by decide +kernel
theorem dc_M_round_13 : decode co_M_round 13 = .ok (.getfield 51, 3) := by decide +kernel
theorem dc_M_round_16 : decode co_M_round 16 = .ok (.iload_n 2, 1) := by decide +kernel
theorem dc_M_round_17 : decode co_M_round 17 = .ok (.laload, 1) := by decide +kernel
theorem dc_M_round_18 : decode co_M_round 18 = .ok (.aload_n 0, 1) := by decide +kernel
theorem dc_M_round_19 : decode co_M_round 19 = .ok (.getfield 51, 3) := by decide +kernel
theorem dc_M_round_22 : decode co_M_round 22 = .ok (.iload_n 2, 1) := by decide +kernel
theorem dc_M_round_23 : decode co_M_round 23 = .ok (.iconst 5, 1) := by decide +kernel
theorem dc_M_round_24 : decode co_M_round 24 = .ok (.iadd, 1) := by decide +kernel
theorem dc_M_round_25 : decode co_M_round 25 = .ok (.laload, 1) := by decide +kernel
theorem dc_M_round_26 : decode co_M_round 26 = .ok (.lxor, 1) := by decide +kernel
theorem dc_M_round_27 : decode co_M_round 27 = .ok (.aload_n 0, 1) := by decide +kernel
theorem dc_M_round_28 : decode co_M_round 28 = .ok (.getfield 51, 3) := by decide +kernel
theorem dc_M_round_31 : decode co_M_round 31 = .ok (.iload_n 2, 1) := by decide +kernel
theorem dc_M_round_32 : decode co_M_round 32 = .ok (.bipush 10, 2) := by decide +kernel
theorem dc_M_round_34 : decode co_M_round 34 = .ok (.iadd, 1) := by decide +kernel
theorem dc_M_round_35 : decode co_M_round 35 = .ok (.laload, 1) := by decide +kernel
theorem dc_M_round_36 : decode co_M_round 36 = .ok (.lxor, 1) := by decide +kernel
theorem dc_M_round_37 : decode co_M_round 37 = .ok (.aload_n 0, 1) := by decide +kernel
theorem dc_M_round_38 : decode co_M_round 38 = .ok (.getfield 51, 3) := by decide +kernel
theorem dc_M_round_41 : decode co_M_round 41 = .ok (.iload_n 2, 1) := by decide +kernel
theorem dc_M_round_42 : decode co_M_round 42 = .ok (.bipush 15, 2) := by decide +kernel
theorem dc_M_round_44 : decode co_M_round 44 = .ok (.iadd, 1) := by decide +kernel
theorem dc_M_round_45 : decode co_M_round 45 = .ok (.laload, 1) := by decide +kernel
theorem dc_M_round_46 : decode co_M_round 46 = .ok (.lxor, 1) := by decide +kernel
theorem dc_M_round_47 : decode co_M_round 47 = .ok (.aload_n 0, 1) := by decide +kernel
theorem dc_M_round_48 : decode co_M_round 48 = .ok (.getfield 51, 3) := by decide +kernel
theorem dc_M_round_51 : decode co_M_round 51 = .ok (.iload_n 2, 1) := by decide +kernel
theorem dc_M_round_52 : decode co_M_round 52 = .ok (.bipush 20, 2) := by decide +kernel
theorem dc_M_round_54 : decode co_M_round 54 = .ok (.iadd, 1) := by decide +kernel
theorem dc_M_round_55 : decode co_M_round 55 = .ok (.laload, 1) := by decide +kernel
theorem dc_M_round_56 : decode co_M_round 56 = .ok (.lxor, 1) := by decide +kernel
theorem dc_M_round_57 : decode co_M_round 57 = .ok (.lastore, 1) := by decide +kernel
theorem dc_M_round_58 : decode co_M_round 58 = .ok (.iinc 2 1, 3) := by decide +kernel
theorem dc_M_round_61 : decode co_M_round 61 = .ok (.goto (-59), 3) := by decide +kernel
theorem dc_M_round_64 : decode co_M_round 64 = .ok (.iconst 0, 1) := by decide +kernel
theorem dc_M_round_65 : decode co_M_round 65 = .ok (.istore_n 2, 1) := by decide +kernel
theorem dc_M_round_66 : decode co_M_round 66 = .ok (.iload_n 2, 1) := by decide +kernel
theorem dc_M_round_67 : decode co_M_round 67 = .ok (.iconst 5, 1) := by decide +kernel
theorem dc_M_round_68 : decode co_M_round 68 = .ok (.if_icmp .ge 93, 3) := by decide +kernel
theorem dc_M_round_71 : decode co_M_round 71 = .ok (.iconst 0, 1) := by decide +kernel
theorem dc_M_round_72 : decode co_M_round 72 = .ok (.istore_n 3, 1) := by decide +kernel
theorem dc_M_round_73 : decode co_M_round 73 = .ok (.iload_n 3, 1) := by decide +kernel
theorem dc_M_round_74 : decode co_M_round 74 = .ok (.iconst 5, 1) := by decide +kernel
theorem dc_M_round_75 : decode co_M_round 75 = .ok (.if_icmp .ge 80, 3) := by decide +kernel
theorem dc_M_round_78 : decode co_M_round 78 = .ok (.aload_n 0, 1) := by decide +kernel
theorem dc_M_round_79 : decode co_M_round 79 = .ok (.getfield 51, 3) := by decide +kernel
theorem dc_M_round_82 : decode co_M_round 82 = .ok (.iload_n 2, 1) := by decide +kernel
theorem dc_M_round_83 : decode co_M_round 83 = .ok (.iconst 5, 1) := by decide +kernel
theorem dc_M_round_84 : decode co_M_round 84 = .ok (.iload_n 3, 1) := by decide +kernel
theorem dc_M_round_85 : decode co_M_round 85 = .ok (.imul, 1) := by decide +kernel
theorem dc_M_round_86 : decode co_M_round 86 = .ok (.iadd, 1) := by decide +kernel
theorem dc_M_round_87 : decode co_M_round 87 = .ok (.laload, 1) := by decide +kernel
theorem dc_M_round_88 : decode co_M_round 88 = .ok (.aload_n 0, 1) := by decide +kernel
theorem dc_M_round_89 : decode co_M_round 89 = .ok (.getfield 57, 3) := by decide +kernel
theorem dc_M_round_92 : decode co_M_round 92 = .ok (.iload_n 2, 1) := by decide +kernel
theorem dc_M_round_93 : decode co_M_round 93 = .ok (.iconst 4, 1) := by decide +kernel
theorem dc_M_round_94 : decode co_M_round 94 = .ok (.iadd, 1) := by decide +kernel
theorem dc_M_round_95 : decode co_M_round 95 = .ok (.iconst 5, 1) := by decide +kernel
theorem dc_M_round_96 : decode co_M_round 96 = .ok (.irem, 1) := by decide +kernel
theorem dc_M_round_97 : decode co_M_round 97 = .ok (.laload, 1) := by decide +kernel
theorem dc_M_round_98 : decode co_M_round 98 = .ok (.lxor, 1) := by decide +kernel
theorem dc_M_round_99 : decode co_M_round 99 = .ok (.aload_n 0, 1) := by decide +kernel
theorem dc_M_round_100 : decode co_M_round 100 = .ok (.getfield 57, 3) := by decide +kernel
theorem dc_M_round_103 : decode co_M_round 103 = .ok (.iload_n 2, 1) := by decide +kernel
theorem dc_M_round_104 : decode co_M_round 104 = .ok (.iconst 1, 1) := by decide +kernel
theorem dc_M_round_105 : decode co_M_round 105 = .ok (.iadd, 1) := by decide +kernel
theorem dc_M_round_106 : decode co_M_round 106 = .ok (.iconst 5, 1) := by decide +kernel
theorem dc_M_round_107 : decode co_M_round 107 = .ok (.irem, 1) := by decide +kernel
theorem dc_M_round_108 : decode co_M_round 108 = .ok (.laload, 1) := by decide +kernel
theorem dc_M_round_109 : decode co_M_round 109 = .ok (.iconst 1, 1) := by decide +kernel
theorem dc_M_round_110 : decode co_M_round 110 = .ok (.invokestatic 75, 3) := by decide +kernel
theorem dc_M_round_113 : decode co_M_round 113 = .ok (.lxor, 1) := by decide +kernel
theorem dc_M_round_114 : decode co_M_round 114 = .ok (.lstore 4, 2) := by decide +kernel
theorem dc_M_round_116 : decode co_M_round 116 = .ok (.aload_n 0, 1) := by decide +kernel
theorem dc_M_round_117 : decode co_M_round 117 = .ok (.getfield 54, 3) := by decide +kernel
theorem dc_M_round_120 : decode co_M_round 120 = .ok (.iload_n 3, 1) := by decide +kernel
theorem dc_M_round_121 : decode co_M_round 121 = .ok (.iconst 5, 1) := by decide +kernel
theorem dc_M_round_122 : decode co_M_round 122 = .ok (.iconst 2, 1) := by decide +kernel
theorem dc_M_round_123 : decode co_M_round 123 = .ok (.iload_n 2, 1) := by decide +kernel
theorem dc_M_round_124 : decode co_M_round 124 = .ok (.imul, 1) := by decide +kernel
theorem dc_M_round_125 : decode co_M_round 125 = .ok (.iconst 3, 1) := by decide +kernel
theorem dc_M_round_126 : decode co_M_round 126 = .ok (.iload_n 3, 1) := by decide +kernel
theorem dc_M_round_127 : decode co_M_round 127 = .ok (.imul, 1) := by decide +kernel
theorem dc_M_round_128 : decode co_M_round 128 = .ok (.iadd, 1) := by decide +kernel
theorem dc_M_round_129 : decode co_M_round 129 = .ok (.iconst 5, 1) := by decide +kernel
theorem dc_M_round_130 : decode co_M_round 130 = .ok (.irem, 1) := by decide +kernel
theorem dc_M_round_131 : decode co_M_round 131 = .ok (.imul, 1) := by decide +kernel
theorem dc_M_round_132 : decode co_M_round 132 = .ok (.iadd, 1) := by decide +kernel
theorem dc_M_round_133 : decode co_M_round 133 = .ok (.lload 4, 2) := by decide +kernel
theorem dc_M_round_135 : decode co_M_round 135 = .ok (.aload_n 0, 1) := by decide +kernel
theorem dc_M_round_136 : decode co_M_round 136 = .ok (.getfield 60, 3) := by decide +kernel
theorem dc_M_round_139 : decode co_M_round 139 = .ok (.iload_n 2, 1) := by decide +kernel
theorem dc_M_round_140 : decode co_M_round 140 = .ok (.iconst 5, 1) := by decide +kernel
theorem dc_M_round_141 : decode co_M_round 141 = .ok (.iload_n 3, 1) := by decide +kernel
theorem dc_M_round_142 : decode co_M_round 142 = .ok (.imul, 1) := by decide +kernel
theorem dc_M_round_143 : decode co_M_round 143 = .ok (.iadd, 1) := by decide +kernel
theorem dc_M_round_144 : decode co_M_round 144 = .ok (.iaload, 1) := by decide +kernel
theorem dc_M_round_145 : decode co_M_round 145 = .ok (.invokestatic 75, 3) := by decide +kernel
theorem dc_M_round_148 : decode co_M_round 148 = .ok (.lastore, 1) := by decide +kernel
theorem dc_M_round_149 : decode co_M_round 149 = .ok (.iinc 3 1, 3) := by decide +kernel
theorem dc_M_round_152 : decode co_M_round 152 = .ok (.goto (-79), 3) := by decide +kernel
theorem dc_M_round_155 : decode co_M_round 155 = .ok (.iinc 2 1, 3) := by decide +kernel
theorem dc_M_round_158 : decode co_M_round 158 = .ok (.goto (-92), 3) := by decide +kernel
theorem dc_M_round_161 : decode co_M_round 161 = .ok (.iconst 0, 1) := by decide +kernel
theorem dc_M_round_162 : decode co_M_round 162 = .ok (.istore_n 2, 1) := by decide +kernel
theorem dc_M_round_163 : decode co_M_round 163 = .ok (.iload_n 2, 1) := by decide +kernel
theorem dc_M_round_164 : decode co_M_round 164 = .ok (.bipush 25, 2) := by decide +kernel
theorem dc_M_round_166 : decode co_M_round 166 = .ok (.if_icmp .ge 57, 3) := by decide +kernel
theorem dc_M_round_169 : decode co_M_round 169 = .ok (.iload_n 2, 1) := by decide +kernel
theorem dc_M_round_170 : decode co_M_round 170 = .ok (.iconst 5, 1) := by decide +kernel
theorem dc_M_round_171 : decode co_M_round 171 = .ok (.idiv, 1) := by decide +kernel
theorem dc_M_round_172 : decode co_M_round 172 = .ok (.iconst 5, 1) := by decide +kernel
theorem dc_M_round_173 : decode co_M_round 173 = .ok (.imul, 1) := by decide +kernel
theorem dc_M_round_174 : decode co_M_round 174 = .ok (.istore_n 3, 1) := by decide +kernel
theorem dc_M_round_175 : decode co_M_round 175 = .ok (.aload_n 0, 1) := by decide +kernel
theorem dc_M_round_176 : decode co_M_round 176 = .ok (.getfield 51, 3) := by decide +kernel
theorem dc_M_round_179 : decode co_M_round 179 = .ok (.iload_n 2, 1) := by decide +kernel
theorem dc_M_round_180 : decode co_M_round 180 = .ok (.aload_n 0, 1) := by decide +kernel
theorem dc_M_round_181 : decode co_M_round 181 = .ok (.getfield 54, 3) := by decide +kernel
theorem dc_M_round_184 : decode co_M_round 184 = .ok (.iload_n 2, 1) := by decide +kernel
theorem dc_M_round_185 : decode co_M_round 185 = .ok (.laload, 1) := by decide +kernel
theorem dc_M_round_186 : decode co_M_round 186 = .ok (.aload_n 0, 1) := by decide +kernel
theorem dc_M_round_187 : decode co_M_round 187 = .ok (.getfield 54, 3) := by decide +kernel
theorem dc_M_round_190 : decode co_M_round 190 = .ok (.iload_n 3, 1) := by decide +kernel
theorem dc_M_round_191 : decode co_M_round 191 = .ok (.iload_n 2, 1) := by decide +kernel
theorem dc_M_round_192 : decode co_M_round 192 = .ok (.iconst 1, 1) := by decide +kernel
theorem dc_M_round_193 : decode co_M_round 193 = .ok (.iadd, 1) := by decide +kernel
theorem dc_M_round_194 : decode co_M_round 194 = .ok (.iconst 5, 1) := by decide +kernel
theorem dc_M_round_195 : decode co_M_round 195 = .ok (.irem, 1) := by decide +kernel
theorem dc_M_round_196 : decode co_M_round 196 = .ok (.iadd, 1) := by decide +kernel
theorem dc_M_round_197 : decode co_M_round 197 = .ok (.laload, 1) := by decide +kernel
theorem dc_M_round_198 : decode co_M_round 198 = .ok (.ldc2_w 79, 3) := by decide +kernel
theorem dc_M_round_201 : decode co_M_round 201 = .ok (.lxor, 1) := by decide +kernel
theorem dc_M_round_202 : decode co_M_round 202 = .ok (.aload_n 0, 1) := by decide +kernel
theorem dc_M_round_203 : decode co_M_round 203 = .ok (.getfield 54, 3) := by decide +kernel
theorem dc_M_round_206 : decode co_M_round 206 = .ok (.iload_n 3, 1) := by decide +kernel
theorem dc_M_round_207 : decode co_M_round 207 = .ok (.iload_n 2, 1) := by decide +kernel
theorem dc_M_round_208 : decode co_M_round 208 = .ok (.iconst 2, 1) := by decide +kernel
theorem dc_M_round_209 : decode co_M_round 209 = .ok (.iadd, 1) := by decide +kernel
theorem dc_M_round_210 : decode co_M_round 210 = .ok (.iconst 5, 1) := by decide +kernel
theorem dc_M_round_211 : decode co_M_round 211 = .ok (.irem, 1) := by decide +kernel
theorem dc_M_round_212 : decode co_M_round 212 = .ok (.iadd, 1) := by decide +kernel
theorem dc_M_round_213 : decode co_M_round 213 = .ok (.laload, 1) := by decide +kernel
theorem dc_M_round_214 : decode co_M_round 214 = .ok (.land, 1) := by decide +kernel
theorem dc_M_round_215 : decode co_M_round 215 = .ok (.lxor, 1) := by decide +kernel
theorem dc_M_round_216 : decode co_M_round 216 = .ok (.lastore, 1) := by decide +kernel
theorem dc_M_round_217 : decode co_M_round 217 = .ok (.iinc 2 1, 3) := by decide +kernel
theorem dc_M_round_220 : decode co_M_round 220 = .ok (.goto (-57), 3) := by decide +kernel
theorem dc_M_round_223 : decode co_M_round 223 = .ok (.aload_n 0, 1) := by decide +kernel
theorem dc_M_round_224 : decode co_M_round 224 = .ok (.getfield 51, 3) := by decide +kernel
theorem dc_M_round_227 : decode co_M_round 227 = .ok (.iconst 0, 1) := by decide +kernel
theorem dc_M_round_228 : decode co_M_round 228 = .ok (.aload_n 0, 1) := by decide +kernel
theorem dc_M_round_229 : decode co_M_round 229 = .ok (.getfield 51, 3) := by decide +kernel
theorem dc_M_round_232 : decode co_M_round 232 = .ok (.iconst 0, 1) := by decide +kernel
theorem dc_M_round_233 : decode co_M_round 233 = .ok (.laload, 1) := by decide +kernel
theorem dc_M_round_234 : decode co_M_round 234 = .ok (.aload_n 0, 1) := by decide +kernel
theorem dc_M_round_235 : decode co_M_round 235 = .ok (.getfield 63, 3) := by decide +kernel
theorem dc_M_round_238 : decode co_M_round 238 = .ok (.iload_n 1, 1) := by decide +kernel
theorem dc_M_round_239 : decode co_M_round 239 = .ok (.laload, 1) := by decide +kernel
theorem dc_M_round_240 : decode co_M_round 240 = .ok (.lxor, 1) := by decide +kernel
theorem dc_M_round_241 : decode co_M_round 241 = .ok (.lastore, 1) := by decide +kernel
theorem dc_M_round_242 : decode co_M_round 242 = .ok (.return_, 1) := by decide +kernel
theorem dc_M_hashCodeNow_0 : decode co_M_hashCodeNow 0 = .ok (.aload_n 0, 1) := by decide +kernel
theorem dc_M_hashCodeNow_1 : decode co_M_hashCodeNow 1 = .ok (.getfield 81, 3) := by decide +kernel
theorem dc_M_hashCodeNow_4 : decode co_M_hashCodeNow 4 = .ok (.sipush 136, 3) := by decide +kernel
theorem dc_M_hashCodeNow_7 : decode co_M_hashCodeNow 7 = .ok (.idiv, 1) := by decide +kernel
theorem dc_M_hashCodeNow_8 : decode co_M_hashCodeNow 8 = .ok (.iconst 1, 1) := by decide +kernel
theorem dc_M_hashCodeNow_9 : decode co_M_hashCodeNow 9 = .ok (.iadd, 1) := by decide +kernel
theorem dc_M_hashCodeNow_10 : decode co_M_hashCodeNow 10 = .ok (.istore_n 1, 1) := by decide +kernel
theorem dc_M_hashCodeNow_11 : decode co_M_hashCodeNow 11 = .ok (.iconst 0, 1) := by decide +kernel
theorem dc_M_hashCodeNow_12 : decode co_M_hashCodeNow 12 = .ok (.istore_n 2, 1) := by decide +kernel
theorem dc_M_hashCodeNow_13 : decode co_M_hashCodeNow 13 = .ok (.iload_n 2, 1) := by decide +kernel
theorem dc_M_hashCodeNow_14 : decode co_M_hashCodeNow 14 = .ok (.sipush 136, 3) := by decide +kernel
theorem dc_M_hashCodeNow_17 : decode co_M_hashCodeNow 17 = .ok (.iload_n 1, 1) := by decide +kernel
theorem dc_M_hashCodeNow_18 : decode co_M_hashCodeNow 18 = .ok (.imul, 1) := by decide +kernel
theorem dc_M_hashCodeNow_19 : decode co_M_hashCodeNow 19 = .ok (.if_icmp .ge 45, 3) := by decide +kernel
theorem dc_M_hashCodeNow_22 : decode co_M_hashCodeNow 22 = .ok (.aload_n 0, 1) := by decide +kernel
theorem dc_M_hashCodeNow_23 : decode co_M_hashCodeNow 23 = .ok (.getfield 66, 3) := by decide +kernel
theorem dc_M_hashCodeNow_26 : decode co_M_hashCodeNow 26 = .ok (.iload_n 2, 1) := by decide +kernel
theorem dc_M_hashCodeNow_27 : decode co_M_hashCodeNow 27 = .ok (.iload_n 2, 1) := by decide +kernel
theorem dc_M_hashCodeNow_28 : decode co_M_hashCodeNow 28 = .ok (.aload_n 0, 1) := by decide +kernel
theorem dc_M_hashCodeNow_29 : decode co_M_hashCodeNow 29 = .ok (.getfield 81, 3) := by decide +kernel
theorem dc_M_hashCodeNow_32 : decode co_M_hashCodeNow 32 = .ok (.if_icmp .ge 12, 3) := by decide +kernel
theorem dc_M_hashCodeNow_35 : decode co_M_hashCodeNow 35 = .ok (.aload_n 0, 1) := by decide +kernel
theorem dc_M_hashCodeNow_36 : decode co_M_hashCodeNow 36 = .ok (.getfield 36, 3) := by decide +kernel
theorem dc_M_hashCodeNow_39 : decode co_M_hashCodeNow 39 = .ok (.iload_n 2, 1) := by decide +kernel
theorem dc_M_hashCodeNow_40 : decode co_M_hashCodeNow 40 = .ok (.iaload, 1) := by decide +kernel
theorem dc_M_hashCodeNow_41 : decode co_M_hashCodeNow 41 = .ok (.goto 16, 3) := by decide +kernel
theorem dc_M_hashCodeNow_44 : decode co_M_hashCodeNow 44 = .ok (.iload_n 2, 1) := by decide +kernel
theorem dc_M_hashCodeNow_45 : decode co_M_hashCodeNow 45 = .ok (.aload_n 0, 1) := by decide +kernel
theorem dc_M_hashCodeNow_46 : decode co_M_hashCodeNow 46 = .ok (.getfield 81, 3) := by decide +kernel
theorem dc_M_hashCodeNow_49 : decode co_M_hashCodeNow 49 = .ok (.if_icmp .ne 7, 3) := by decide +kernel
theorem dc_M_hashCodeNow_52 : decode co_M_hashCodeNow 52 = .ok (.iconst 1, 1) := by decide +kernel
theorem dc_M_hashCodeNow_53 : decode co_M_hashCodeNow 53 = .ok (.goto 4, 3) := by decide +kernel
theorem dc_M_hashCodeNow_56 : decode co_M_hashCodeNow 56 = .ok (.iconst 0, 1) := by decide +kernel
theorem dc_M_hashCodeNow_57 : decode co_M_hashCodeNow 57 = .ok (.iastore, 1) := by decide +kernel
theorem dc_M_hashCodeNow_58 : decode co_M_hashCodeNow 58 = .ok (.iinc 2 1, 3) := by decide +kernel
theorem dc_M_hashCodeNow_61 : decode co_M_hashCodeNow 61 = .ok (.goto (-48), 3) := by decide +kernel
theorem dc_M_hashCodeNow_64 : decode co_M_hashCodeNow 64 = .ok (.aload_n 0, 1) := by decide +kernel
theorem dc_M_hashCodeNow_65 : decode co_M_hashCodeNow 65 = .ok (.getfield 66, 3) := by decide +kernel
theorem dc_M_hashCodeNow_68 : decode co_M_hashCodeNow 68 = .ok (.sipush 136, 3) := by decide +kernel
theorem dc_M_hashCodeNow_71 : decode co_M_hashCodeNow 71 = .ok (.iload_n 1, 1) := by decide +kernel
theorem dc_M_hashCodeNow_72 : decode co_M_hashCodeNow 72 = .ok (.imul, 1) := by decide +kernel
theorem dc_M_hashCodeNow_73 : decode co_M_hashCodeNow 73 = .ok (.iconst 1, 1) := by decide +kernel
theorem dc_M_hashCodeNow_74 : decode co_M_hashCodeNow 74 = .ok (.isub, 1) := by decide +kernel
theorem dc_M_hashCodeNow_75 : decode co_M_hashCodeNow 75 = .ok (.aload_n 0, 1) := by decide +kernel
theorem dc_M_hashCodeNow_76 : decode co_M_hashCodeNow 76 = .ok (.getfield 66, 3) := by decide +kernel
theorem dc_M_hashCodeNow_79 : decode co_M_hashCodeNow 79 = .ok (.sipush 136, 3) := by decide +kernel
theorem dc_M_hashCodeNow_82 : decode co_M_hashCodeNow 82 = .ok (.iload_n 1, 1) := by decide +kernel
theorem dc_M_hashCodeNow_83 : decode co_M_hashCodeNow 83 = .ok (.imul, 1) := by decide +kernel
theorem dc_M_hashCodeNow_84 : decode co_M_hashCodeNow 84 = .ok (.iconst 1, 1) := by decide +kernel
theorem dc_M_hashCodeNow_85 : decode co_M_hashCodeNow 85 = .ok (.isub, 1) := by decide +kernel
theorem dc_M_hashCodeNow_86 : decode co_M_hashCodeNow 86 = .ok (.iaload, 1) := by decide +kernel
theorem dc_M_hashCodeNow_87 : decode co_M_hashCodeNow 87 = .ok (.sipush 128, 3) := by decide +kernel
theorem dc_M_hashCodeNow_90 : decode co_M_hashCodeNow 90 = .ok (.iadd, 1) := by decide +kernel
theorem dc_M_hashCodeNow_91 : decode co_M_hashCodeNow 91 = .ok (.iastore, 1) := by decide +kernel
theorem dc_M_hashCodeNow_92 : decode co_M_hashCodeNow 92 = .ok (.iconst 0, 1) := by decide +kernel
theorem dc_M_hashCodeNow_93 : decode co_M_hashCodeNow 93 = .ok (.istore_n 2, 1) := by decide +kernel
theorem dc_M_hashCodeNow_94 : decode co_M_hashCodeNow 94 = .ok (.iload_n 2, 1) := by decide +kernel
theorem dc_M_hashCodeNow_95 : decode co_M_hashCodeNow 95 = .ok (.bipush 25, 2) := by decide +kernel
theorem dc_M_hashCodeNow_97 : decode co_M_hashCodeNow 97 = .ok (.if_icmp .ge 16, 3) := by decide +kernel
theorem dc_M_hashCodeNow_100 : decode co_M_hashCodeNow 100 = .ok (.aload_n 0, 1) := by decide +kernel
theorem dc_M_hashCodeNow_101 : decode co_M_hashCodeNow 101 = .ok (.getfield 51, 3) := by decide +kernel
theorem dc_M_hashCodeNow_104 : decode co_M_hashCodeNow 104 = .ok (.iload_n 2, 1) := by decide +kernel
theorem dc_M_hashCodeNow_105 : decode co_M_hashCodeNow 105 = .ok (.lconst 0, 1) := by decide +kernel
theorem dc_M_hashCodeNow_106 : decode co_M_hashCodeNow 106 = .ok (.lastore, 1) := by decide +kernel
theorem dc_M_hashCodeNow_107 : decode co_M_hashCodeNow 107 = .ok (.iinc 2 1, 3) := by decide +kernel
theorem dc_M_hashCodeNow_110 : decode co_M_hashCodeNow 110 = .ok (.goto (-16), 3) := by decide +kernel
theorem dc_M_hashCodeNow_113 : decode co_M_hashCodeNow 113 = .ok (.iconst 0, 1) := by decide +kernel
theorem dc_M_hashCodeNow_114 : decode co_M_hashCodeNow 114 = .ok (.istore_n 2, 1) := by decide +kernel
theorem dc_M_hashCodeNow_115 : decode co_M_hashCodeNow 115 = .ok (.iload_n 2, 1) := by decide +kernel
theorem dc_M_hashCodeNow_116 : decode co_M_hashCodeNow 116 = .ok (.iload_n 1, 1) := by decide +kernel
theorem dc_M_hashCodeNow_117 : decode co_M_hashCodeNow 117 = .ok (.if_icmp .ge 83, 3) := by decide +kernel
theorem dc_M_hashCodeNow_120 : decode co_M_hashCodeNow 120 = .ok (.iconst 0, 1) := by decide +kernel
theorem dc_M_hashCodeNow_121 : decode co_M_hashCodeNow 121 = .ok (.istore_n 3, 1) := by decide +kernel
theorem dc_M_hashCodeNow_122 : decode co_M_hashCodeNow 122 = .ok (.iload_n 3, 1) := by decide +kernel
theorem dc_M_hashCodeNow_123 : decode co_M_hashCodeNow 123 = .ok (.sipush 136, 3) := by decide +kernel
theorem dc_M_hashCodeNow_126 : decode co_M_hashCodeNow 126 = .ok (.if_icmp .ge 49, 3) := by decide +kernel
theorem dc_M_hashCodeNow_129 : decode co_M_hashCodeNow 129 = .ok (.aload_n 0, 1) := by decide +kernel
theorem dc_M_hashCodeNow_130 : decode co_M_hashCodeNow 130 = .ok (.getfield 51, 3) := by decide +kernel
theorem dc_M_hashCodeNow_133 : decode co_M_hashCodeNow 133 = .ok (.iload_n 3, 1) := by decide +kernel
theorem dc_M_hashCodeNow_134 : decode co_M_hashCodeNow 134 = .ok (.bipush 8, 2) := by decide +kernel
theorem dc_M_hashCodeNow_136 : decode co_M_hashCodeNow 136 = .ok (.idiv, 1) := by decide +kernel
theorem dc_M_hashCodeNow_137 : decode co_M_hashCodeNow 137 = .ok (.aload_n 0, 1) := by decide +kernel
theorem dc_M_hashCodeNow_138 : decode co_M_hashCodeNow 138 = .ok (.getfield 51, 3) := by decide +kernel
theorem dc_M_hashCodeNow_141 : decode co_M_hashCodeNow 141 = .ok (.iload_n 3, 1) := by decide +kernel
theorem dc_M_hashCodeNow_142 : decode co_M_hashCodeNow 142 = .ok (.bipush 8, 2) := by decide +kernel
theorem dc_M_hashCodeNow_144 : decode co_M_hashCodeNow 144 = .ok (.idiv, 1) := by decide +kernel
theorem dc_M_hashCodeNow_145 : decode co_M_hashCodeNow 145 = .ok (.laload, 1) := by decide +kernel
theorem dc_M_hashCodeNow_146 : decode co_M_hashCodeNow 146 = .ok (.aload_n 0, 1) := by decide +kernel
theorem dc_M_hashCodeNow_147 : decode co_M_hashCodeNow 147 = .ok (.getfield 66, 3) := by decide +kernel
theorem dc_M_hashCodeNow_150 : decode co_M_hashCodeNow 150 = .ok (.sipush 136, 3) := by decide +kernel
theorem dc_M_hashCodeNow_153 : decode co_M_hashCodeNow 153 = .ok (.iload_n 2, 1) := by decide +kernel
theorem dc_M_hashCodeNow_154 : decode co_M_hashCodeNow 154 = .ok (.imul, 1) := by decide +kernel
theorem dc_M_hashCodeNow_155 : decode co_M_hashCodeNow 155 = .ok (.iload_n 3, 1) := by decide +kernel
theorem dc_M_hashCodeNow_156 : decode co_M_hashCodeNow 156 = .ok (.iadd, 1) := by decide +kernel
theorem dc_M_hashCodeNow_157 : decode co_M_hashCodeNow 157 = .ok (.iaload, 1) := by decide +kernel
theorem dc_M_hashCodeNow_158 : decode co_M_hashCodeNow 158 = .ok (.i2l, 1) := by decide +kernel
theorem dc_M_hashCodeNow_159 : decode co_M_hashCodeNow 159 = .ok (.bipush 8, 2) := by decide +kernel
theorem dc_M_hashCodeNow_161 : decode co_M_hashCodeNow 161 = .ok (.iload_n 3, 1) := by decide +kernel
theorem dc_M_hashCodeNow_162 : decode co_M_hashCodeNow 162 = .ok (.bipush 8, 2) := by decide +kernel
theorem dc_M_hashCodeNow_164 : decode co_M_hashCodeNow 164 = .ok (.irem, 1) := by decide +kernel
theorem dc_M_hashCodeNow_165 : decode co_M_hashCodeNow 165 = .ok (.imul, 1) := by decide +kernel
theorem dc_M_hashCodeNow_166 : decode co_M_hashCodeNow 166 = .ok (.lshl, 1) := by decide +kernel
theorem dc_M_hashCodeNow_167 : decode co_M_hashCodeNow 167 = .ok (.lxor, 1) := by decide +kernel
theorem dc_M_hashCodeNow_168 : decode co_M_hashCodeNow 168 = .ok (.lastore, 1) := by decide +kernel
theorem dc_M_hashCodeNow_169 : decode co_M_hashCodeNow 169 = .ok (.iinc 3 1, 3) := by decide +kernel
theorem dc_M_hashCodeNow_172 : decode co_M_hashCodeNow 172 = .ok (.goto (-50), 3) := by decide +kernel
theorem dc_M_hashCodeNow_175 : decode co_M_hashCodeNow 175 = .ok (.iconst 0, 1) := by decide +kernel
theorem dc_M_hashCodeNow_176 : decode co_M_hashCodeNow 176 = .ok (.istore_n 3, 1) := by decide +kernel
theorem dc_M_hashCodeNow_177 : decode co_M_hashCodeNow 177 = .ok (.iload_n 3, 1) := by decide +kernel
theorem dc_M_hashCodeNow_178 : decode co_M_hashCodeNow 178 = .ok (.bipush 24, 2) := by decide +kernel
theorem dc_M_hashCodeNow_180 : decode co_M_hashCodeNow 180 = .ok (.if_icmp .ge 14, 3) := by decide +kernel
theorem dc_M_hashCodeNow_183 : decode co_M_hashCodeNow 183 = .ok (.aload_n 0, 1) := by decide +kernel
theorem dc_M_hashCodeNow_184 : decode co_M_hashCodeNow 184 = .ok (.iload_n 3, 1) := by decide +kernel
theorem dc_M_hashCodeNow_185 : decode co_M_hashCodeNow 185 = .ok (.invokevirtual 85, 3) := by decide +kernel
theorem dc_M_hashCodeNow_188 : decode co_M_hashCodeNow 188 = .ok (.iinc 3 1, 3) := by decide +kernel
theorem dc_M_hashCodeNow_191 : decode co_M_hashCodeNow 191 = .ok (.goto (-14), 3) := by decide +kernel
theorem dc_M_hashCodeNow_194 : decode co_M_hashCodeNow 194 = .ok (.iinc 2 1, 3) := by decide +kernel
theorem dc_M_hashCodeNow_197 : decode co_M_hashCodeNow 197 = .ok (.goto (-82), 3) := by decide +kernel
theorem dc_M_hashCodeNow_200 : decode co_M_hashCodeNow 200 = .ok (.iconst 0, 1) := by decide +kernel
theorem dc_M_hashCodeNow_201 : decode co_M_hashCodeNow 201 = .ok (.istore_n 2, 1) := by decide +kernel
theorem dc_M_hashCodeNow_202 : decode co_M_hashCodeNow 202 = .ok (.iload_n 2, 1) := by decide +kernel
theorem dc_M_hashCodeNow_203 : decode co_M_hashCodeNow 203 = .ok (.bipush 32, 2) := by decide +kernel
theorem dc_M_hashCodeNow_205 : decode co_M_hashCodeNow 205 = .ok (.if_icmp .ge 37, 3) := by decide +kernel
theorem dc_M_hashCodeNow_208 : decode co_M_hashCodeNow 208 = .ok (.aload_n 0, 1) := by decide +kernel
theorem dc_M_hashCodeNow_209 : decode co_M_hashCodeNow 209 = .ok (.getfield 69, 3) := by decide +kernel
theorem dc_M_hashCodeNow_212 : decode co_M_hashCodeNow 212 = .ok (.iload_n 2, 1) := by decide +kernel
theorem dc_M_hashCodeNow_213 : decode co_M_hashCodeNow 213 = .ok (.aload_n 0, 1) := by decide +kernel
theorem dc_M_hashCodeNow_214 : decode co_M_hashCodeNow 214 = .ok (.getfield 51, 3) := by decide +kernel
theorem dc_M_hashCodeNow_217 : decode co_M_hashCodeNow 217 = .ok (.iload_n 2, 1) := by decide +kernel
theorem dc_M_hashCodeNow_218 : decode co_M_hashCodeNow 218 = .ok (.bipush 8, 2) := by decide +kernel
theorem dc_M_hashCodeNow_220 : decode co_M_hashCodeNow 220 = .ok (.idiv, 1) := by decide +kernel
theorem dc_M_hashCodeNow_221 : decode co_M_hashCodeNow 221 = .ok (.laload, 1) := by decide +kernel
theorem dc_M_hashCodeNow_222 : decode co_M_hashCodeNow 222 = .ok (.bipush 8, 2) := by decide +kernel
theorem dc_M_hashCodeNow_224 : decode co_M_hashCodeNow 224 = .ok (.iload_n 2, 1) := by decide +kernel
theorem dc_M_hashCodeNow_225 : decode co_M_hashCodeNow 225 = .ok (.bipush 8, 2) := by decide +kernel
theorem dc_M_hashCodeNow_227 : decode co_M_hashCodeNow 227 = .ok (.irem, 1) := by decide +kernel
theorem dc_M_hashCodeNow_228 : decode co_M_hashCodeNow 228 = .ok (.imul, 1) := by decide +kernel
theorem dc_M_hashCodeNow_229 : decode co_M_hashCodeNow 229 = .ok (.lshr, 1) := by decide +kernel
theorem dc_M_hashCodeNow_230 : decode co_M_hashCodeNow 230 = .ok (.ldc2_w 89, 3) := by decide +kernel
theorem dc_M_hashCodeNow_233 : decode co_M_hashCodeNow 233 = .ok (.land, 1) := by decide +kernel
theorem dc_M_hashCodeNow_234 : decode co_M_hashCodeNow 234 = .ok (.l2i, 1) := by decide +kernel
theorem dc_M_hashCodeNow_235 : decode co_M_hashCodeNow 235 = .ok (.iastore, 1) := by decide +kernel
theorem dc_M_hashCodeNow_236 : decode co_M_hashCodeNow 236 = .ok (.iinc 2 1, 3) := by decide +kernel
theorem dc_M_hashCodeNow_239 : decode co_M_hashCodeNow 239 = .ok (.goto (-37), 3) := by decide +kernel
theorem dc_M_hashCodeNow_242 : decode co_M_hashCodeNow 242 = .ok (.return_, 1) := by decide +kernel
theorem dc_M_put_0 : decode co_M_put 0 = .ok (.aload_n 0, 1) := by decide +kernel
theorem dc_M_put_1 : decode co_M_put 1 = .ok (.getfield 33, 3) := by decide +kernel
theorem dc_M_put_4 : decode co_M_put 4 = .ok (.aload_n 0, 1) := by decide +kernel
theorem dc_M_put_5 : decode co_M_put 5 = .ok (.getfield 91, 3) := by decide +kernel
theorem dc_M_put_8 : decode co_M_put 8 = .ok (.iload_n 1, 1) := by decide +kernel
theorem dc_M_put_9 : decode co_M_put 9 = .ok (.iastore, 1) := by decide +kernel
theorem dc_M_put_10 : decode co_M_put 10 = .ok (.aload_n 0, 1) := by decide +kernel
theorem dc_M_put_11 : decode co_M_put 11 = .ok (.dup, 1) := by decide +kernel
theorem dc_M_put_12 : decode co_M_put 12 = .ok (.getfield 91, 3) := by decide +kernel
theorem dc_M_put_15 : decode co_M_put 15 = .ok (.iconst 1, 1) := by decide +kernel
theorem dc_M_put_16 : decode co_M_put 16 = .ok (.iadd, 1) := by decide +kernel
theorem dc_M_put_17 : decode co_M_put 17 = .ok (.putfield 91, 3) := by decide +kernel
theorem dc_M_put_20 : decode co_M_put 20 = .ok (.return_, 1) := by decide +kernel
theorem dc_M_putRow_0 : decode co_M_putRow 0 = .ok (.iload_n 2, 1) := by decide +kernel
theorem dc_M_putRow_1 : decode co_M_putRow 1 = .ok (.iconst 1, 1) := by decide +kernel
theorem dc_M_putRow_2 : decode co_M_putRow 2 = .ok (.if_icmp .ne 11, 3) := by decide +kernel
theorem dc_M_putRow_5 : decode co_M_putRow 5 = .ok (.aload_n 1, 1) := by decide +kernel
theorem dc_M_putRow_6 : decode co_M_putRow 6 = .ok (.iconst 0, 1) := by decide +kernel
theorem dc_M_putRow_7 : decode co_M_putRow 7 = .ok (.iaload, 1) := by decide +kernel
theorem dc_M_putRow_8 : decode co_M_putRow 8 = .ok (.bipush 127, 2) := by decide +kernel
theorem dc_M_putRow_10 : decode co_M_putRow 10 = .ok (.if_icmp .le 12, 3) := by decide +kernel
theorem dc_M_putRow_13 : decode co_M_putRow 13 = .ok (.aload_n 0, 1) := by decide +kernel
theorem dc_M_putRow_14 : decode co_M_putRow 14 = .ok (.sipush 128, 3) := by decide +kernel
theorem dc_M_putRow_17 : decode co_M_putRow 17 = .ok (.iload_n 2, 1) := by decide +kernel
theorem dc_M_putRow_18 : decode co_M_putRow 18 = .ok (.iadd, 1) := by decide +kernel
theorem dc_M_putRow_19 : decode co_M_putRow 19 = .ok (.invokevirtual 94, 3) := by decide +kernel
theorem dc_M_putRow_22 : decode co_M_putRow 22 = .ok (.iconst 0, 1) := by decide +kernel
theorem dc_M_putRow_23 : decode co_M_putRow 23 = .ok (.istore_n 3, 1) := by decide +kernel
theorem dc_M_putRow_24 : decode co_M_putRow 24 = .ok (.iload_n 3, 1) := by decide +kernel
theorem dc_M_putRow_25 : decode co_M_putRow 25 = .ok (.iload_n 2, 1) := by decide +kernel
theorem dc_M_putRow_26 : decode co_M_putRow 26 = .ok (.if_icmp .ge 16, 3) := by decide +kernel
theorem dc_M_putRow_29 : decode co_M_putRow 29 = .ok (.aload_n 0, 1) := by decide +kernel
theorem dc_M_putRow_30 : decode co_M_putRow 30 = .ok (.aload_n 1, 1) := by decide +kernel
theorem dc_M_putRow_31 : decode co_M_putRow 31 = .ok (.iload_n 3, 1) := by decide +kernel
theorem dc_M_putRow_32 : decode co_M_putRow 32 = .ok (.iaload, 1) := by decide +kernel
theorem dc_M_putRow_33 : decode co_M_putRow 33 = .ok (.invokevirtual 94, 3) := by decide +kernel
theorem dc_M_putRow_36 : decode co_M_putRow 36 = .ok (.iinc 3 1, 3) := by decide +kernel
theorem dc_M_putRow_39 : decode co_M_putRow 39 = .ok (.goto (-15), 3) := by decide +kernel
theorem dc_M_putRow_42 : decode co_M_putRow 42 = .ok (.return_, 1) := by decide +kernel
theorem dc_M_finish_0 : decode co_M_finish 0 = .ok (.aload_n 0, 1) := by decide +kernel
theorem dc_M_finish_1 : decode co_M_finish 1 = .ok (.iconst 0, 1) := by decide +kernel
theorem dc_M_finish_2 : decode co_M_finish 2 = .ok (.putfield 81, 3) := by decide +kernel
theorem dc_M_finish_5 : decode co_M_finish 5 = .ok (.aload_n 0, 1) := by decide +kernel
theorem dc_M_finish_6 : decode co_M_finish 6 = .ok (.getfield 91, 3) := by decide +kernel
theorem dc_M_finish_9 : decode co_M_finish 9 = .ok (.bipush 55, 2) := by decide +kernel
theorem dc_M_finish_11 : decode co_M_finish 11 = .ok (.if_icmp .gt 25, 3) := by decide +kernel
theorem dc_M_finish_14 : decode co_M_finish 14 = .ok (.aload_n 0, 1) := by decide +kernel
theorem dc_M_finish_15 : decode co_M_finish 15 = .ok (.getfield 36, 3) := by decide +kernel
theorem dc_M_finish_18 : decode co_M_finish 18 = .ok (.iconst 0, 1) := by decide +kernel
theorem dc_M_finish_19 : decode co_M_finish 19 = .ok (.sipush 192, 3) := by decide +kernel
theorem dc_M_finish_22 : decode co_M_finish 22 = .ok (.aload_n 0, 1) := by decide +kernel
theorem dc_M_finish_23 : decode co_M_finish 23 = .ok (.getfield 91, 3) := by decide +kernel
theorem dc_M_finish_26 : decode co_M_finish 26 = .ok (.iadd, 1) := by decide +kernel
theorem dc_M_finish_27 : decode co_M_finish 27 = .ok (.iastore, 1) := by decide +kernel
theorem dc_M_finish_28 : decode co_M_finish 28 = .ok (.aload_n 0, 1) := by decide +kernel
theorem dc_M_finish_29 : decode co_M_finish 29 = .ok (.iconst 1, 1) := by decide +kernel
theorem dc_M_finish_30 : decode co_M_finish 30 = .ok (.putfield 81, 3) := by decide +kernel
theorem dc_M_finish_33 : decode co_M_finish 33 = .ok (.goto 82, 3) := by decide +kernel
theorem dc_M_finish_36 : decode co_M_finish 36 = .ok (.aload_n 0, 1) := by decide +kernel
theorem dc_M_finish_37 : decode co_M_finish 37 = .ok (.getfield 91, 3) := by decide +kernel
theorem dc_M_finish_40 : decode co_M_finish 40 = .ok (.sipush 256, 3) := by decide +kernel
theorem dc_M_finish_43 : decode co_M_finish 43 = .ok (.if_icmp .ge 30, 3) := by decide +kernel
theorem dc_M_finish_46 : decode co_M_finish 46 = .ok (.aload_n 0, 1) := by decide +kernel
theorem dc_M_finish_47 : decode co_M_finish 47 = .ok (.getfield 36, 3) := by decide +kernel
theorem dc_M_finish_50 : decode co_M_finish 50 = .ok (.iconst 0, 1) := by decide +kernel
theorem dc_M_finish_51 : decode co_M_finish 51 = .ok (.sipush 248, 3) := by decide +kernel
theorem dc_M_finish_54 : decode co_M_finish 54 = .ok (.iastore, 1) := by decide +kernel
theorem dc_M_finish_55 : decode co_M_finish 55 = .ok (.aload_n 0, 1) := by decide +kernel
theorem dc_M_finish_56 : decode co_M_finish 56 = .ok (.getfield 36, 3) := by decide +kernel
theorem dc_M_finish_59 : decode co_M_finish 59 = .ok (.iconst 1, 1) := by decide +kernel
theorem dc_M_finish_60 : decode co_M_finish 60 = .ok (.aload_n 0, 1) := by decide +kernel
theorem dc_M_finish_61 : decode co_M_finish 61 = .ok (.getfield 91, 3) := by decide +kernel
theorem dc_M_finish_64 : decode co_M_finish 64 = .ok (.iastore, 1) := by decide +kernel
theorem dc_M_finish_65 : decode co_M_finish 65 = .ok (.aload_n 0, 1) := by decide +kernel
theorem dc_M_finish_66 : decode co_M_finish 66 = .ok (.iconst 2, 1) := by decide +kernel
theorem dc_M_finish_67 : decode co_M_finish 67 = .ok (.putfield 81, 3) := by decide +kernel
theorem dc_M_finish_70 : decode co_M_finish 70 = .ok (.goto 45, 3) := by decide +kernel
theorem dc_M_finish_73 : decode co_M_finish 73 = .ok (.aload_n 0, 1) := by decide +kernel
theorem dc_M_finish_74 : decode co_M_finish 74 = .ok (.getfield 36, 3) := by decide +kernel
theorem dc_M_finish_77 : decode co_M_finish 77 = .ok (.iconst 0, 1) := by decide +kernel
theorem dc_M_finish_78 : decode co_M_finish 78 = .ok (.sipush 249, 3) := by decide +kernel
theorem dc_M_finish_81 : decode co_M_finish 81 = .ok (.iastore, 1) := by decide +kernel
theorem dc_M_finish_82 : decode co_M_finish 82 = .ok (.aload_n 0, 1) := by decide +kernel
theorem dc_M_finish_83 : decode co_M_finish 83 = .ok (.getfield 36, 3) := by decide +kernel
theorem dc_M_finish_86 : decode co_M_finish 86 = .ok (.iconst 1, 1) := by decide +kernel
theorem dc_M_finish_87 : decode co_M_finish 87 = .ok (.aload_n 0, 1) := by decide +kernel
theorem dc_M_finish_88 : decode co_M_finish 88 = .ok (.getfield 91, 3) := by decide +kernel
theorem dc_M_finish_91 : decode co_M_finish 91 = .ok (.sipush 256, 3) := by decide +kernel
theorem dc_M_finish_94 : decode co_M_finish 94 = .ok (.idiv, 1) := by decide +kernel
theorem dc_M_finish_95 : decode co_M_finish 95 = .ok (.iastore, 1) := by decide +kernel
theorem dc_M_finish_96 : decode co_M_finish 96 = .ok (.aload_n 0, 1) := by decide +kernel
theorem dc_M_finish_97 : decode co_M_finish 97 = .ok (.getfield 36, 3) := by decide +kernel
theorem dc_M_finish_100 : decode co_M_finish 100 = .ok (.iconst 2, 1) := by decide +kernel
theorem dc_M_finish_101 : decode co_M_finish 101 = .ok (.aload_n 0, 1) := by decide +kernel
theorem dc_M_finish_102 : decode co_M_finish 102 = .ok (.getfield 91, 3) := by decide +kernel
theorem dc_M_finish_105 : decode co_M_finish 105 = .ok (.sipush 256, 3) := by decide +kernel
theorem dc_M_finish_108 : decode co_M_finish 108 = .ok (.irem, 1) := by decide +kernel
theorem dc_M_finish_109 : decode co_M_finish 109 = .ok (.iastore, 1) := by decide +kernel
theorem dc_M_finish_110 : decode co_M_finish 110 = .ok (.aload_n 0, 1) := by decide +kernel
theorem dc_M_finish_111 : decode co_M_finish 111 = .ok (.iconst 3, 1) := by decide +kernel
theorem dc_M_finish_112 : decode co_M_finish 112 = .ok (.putfield 81, 3) := by decide +kernel
theorem dc_M_finish_115 : decode co_M_finish 115 = .ok (.iconst 0, 1) := by decide +kernel
theorem dc_M_finish_116 : decode co_M_finish 116 = .ok (.istore_n 1, 1) := by decide +kernel
theorem dc_M_finish_117 : decode co_M_finish 117 = .ok (.iload_n 1, 1) := by decide +kernel
theorem dc_M_finish_118 : decode co_M_finish 118 = .ok (.aload_n 0, 1) := by decide +kernel
theorem dc_M_finish_119 : decode co_M_finish 119 = .ok (.getfield 91, 3) := by decide +kernel
theorem dc_M_finish_122 : decode co_M_finish 122 = .ok (.if_icmp .ge 26, 3) := by decide +kernel
theorem dc_M_finish_125 : decode co_M_finish 125 = .ok (.aload_n 0, 1) := by decide +kernel
theorem dc_M_finish_126 : decode co_M_finish 126 = .ok (.getfield 36, 3) := by decide +kernel
theorem dc_M_finish_129 : decode co_M_finish 129 = .ok (.aload_n 0, 1) := by decide +kernel
theorem dc_M_finish_130 : decode co_M_finish 130 = .ok (.getfield 81, 3) := by decide +kernel
theorem dc_M_finish_133 : decode co_M_finish 133 = .ok (.iload_n 1, 1) := by decide +kernel
theorem dc_M_finish_134 : decode co_M_finish 134 = .ok (.iadd, 1) := by decide +kernel
theorem dc_M_finish_135 : decode co_M_finish 135 = .ok (.aload_n 0, 1) := by decide +kernel
theorem dc_M_finish_136 : decode co_M_finish 136 = .ok (.getfield 33, 3) := by decide +kernel
theorem dc_M_finish_139 : decode co_M_finish 139 = .ok (.iload_n 1, 1) := by decide +kernel
theorem dc_M_finish_140 : decode co_M_finish 140 = .ok (.iaload, 1) := by decide +kernel
theorem dc_M_finish_141 : decode co_M_finish 141 = .ok (.iastore, 1) := by decide +kernel
theorem dc_M_finish_142 : decode co_M_finish 142 = .ok (.iinc 1 1, 3) := by decide +kernel
theorem dc_M_finish_145 : decode co_M_finish 145 = .ok (.goto (-28), 3) := by decide +kernel
theorem dc_M_finish_148 : decode co_M_finish 148 = .ok (.aload_n 0, 1) := by decide +kernel
theorem dc_M_finish_149 : decode co_M_finish 149 = .ok (.aload_n 0, 1) := by decide +kernel
theorem dc_M_finish_150 : decode co_M_finish 150 = .ok (.getfield 81, 3) := by decide +kernel
theorem dc_M_finish_153 : decode co_M_finish 153 = .ok (.aload_n 0, 1) := by decide +kernel
theorem dc_M_finish_154 : decode co_M_finish 154 = .ok (.getfield 91, 3) := by decide +kernel
theorem dc_M_finish_157 : decode co_M_finish 157 = .ok (.iadd, 1) := by decide +kernel
theorem dc_M_finish_158 : decode co_M_finish 158 = .ok (.putfield 81, 3) := by decide +kernel
theorem dc_M_finish_161 : decode co_M_finish 161 = .ok (.return_, 1) := by decide +kernel
theorem dc_M_bytesOf_0 : decode co_M_bytesOf 0 = .ok (.iconst 0, 1) := by decide +kernel
theorem dc_M_bytesOf_1 : decode co_M_bytesOf 1 = .ok (.istore_n 2, 1) := by decide +kernel
theorem dc_M_bytesOf_2 : decode co_M_bytesOf 2 = .ok (.lload_n 0, 1) := by decide +kernel
theorem dc_M_bytesOf_3 : decode co_M_bytesOf 3 = .ok (.lstore_n 3, 1) := by decide +kernel
theorem dc_M_bytesOf_4 : decode co_M_bytesOf 4 = .ok (.lload_n 3, 1) := by decide +kernel
theorem dc_M_bytesOf_5 : decode co_M_bytesOf 5 = .ok (.lconst 0, 1) := by decide +kernel
theorem dc_M_bytesOf_6 : decode co_M_bytesOf 6 = .ok (.lcmp, 1) := by decide +kernel
theorem dc_M_bytesOf_7 : decode co_M_bytesOf 7 = .ok (.ifCond .le 15, 3) := by decide +kernel
theorem dc_M_bytesOf_10 : decode co_M_bytesOf 10 = .ok (.iinc 2 1, 3) := by decide +kernel
theorem dc_M_bytesOf_13 : decode co_M_bytesOf 13 = .ok (.lload_n 3, 1) := by decide +kernel
theorem dc_M_bytesOf_14 : decode co_M_bytesOf 14 = .ok (.ldc2_w 97, 3) := by decide +kernel
theorem dc_M_bytesOf_17 : decode co_M_bytesOf 17 = .ok (.ldiv, 1) := by decide +kernel
theorem dc_M_bytesOf_18 : decode co_M_bytesOf 18 = .ok (.lstore_n 3, 1) := by decide +kernel
theorem dc_M_bytesOf_19 : decode co_M_bytesOf 19 = .ok (.goto (-15), 3) := by decide +kernel
theorem dc_M_bytesOf_22 : decode co_M_bytesOf 22 = .ok (.iload_n 2, 1) := by decide +kernel
theorem dc_M_bytesOf_23 : decode co_M_bytesOf 23 = .ok (.ireturn, 1) := by decide +kernel
theorem dc_M_putNumber_0 : decode co_M_putNumber 0 = .ok (.lload_n 2, 1) := by decide +kernel
theorem dc_M_putNumber_1 : decode co_M_putNumber 1 = .ok (.invokestatic 99, 3) := by decide +kernel
theorem dc_M_putNumber_4 : decode co_M_putNumber 4 = .ok (.istore 4, 2) := by decide +kernel
theorem dc_M_putNumber_6 : decode co_M_putNumber 6 = .ok (.iload_n 1, 1) := by decide +kernel
theorem dc_M_putNumber_7 : decode co_M_putNumber 7 = .ok (.istore 5, 2) := by decide +kernel
theorem dc_M_putNumber_9 : decode co_M_putNumber 9 = .ok (.iload 4, 2) := by decide +kernel
theorem dc_M_putNumber_11 : decode co_M_putNumber 11 = .ok (.iconst 1, 1) := by decide +kernel
theorem dc_M_putNumber_12 : decode co_M_putNumber 12 = .ok (.if_icmp .ne 11, 3) := by decide +kernel
theorem dc_M_putNumber_15 : decode co_M_putNumber 15 = .ok (.lload_n 2, 1) := by decide +kernel
theorem dc_M_putNumber_16 : decode co_M_putNumber 16 = .ok (.ldc2_w 103, 3) := by decide +kernel
theorem dc_M_putNumber_19 : decode co_M_putNumber 19 = .ok (.lcmp, 1) := by decide +kernel
theorem dc_M_putNumber_20 : decode co_M_putNumber 20 = .ok (.ifCond .le 19, 3) := by decide +kernel
theorem dc_M_putNumber_23 : decode co_M_putNumber 23 = .ok (.aload_n 0, 1) := by decide +kernel
theorem dc_M_putNumber_24 : decode co_M_putNumber 24 = .ok (.getfield 42, 3) := by decide +kernel
theorem dc_M_putNumber_27 : decode co_M_putNumber 27 = .ok (.iload 5, 2) := by decide +kernel
theorem dc_M_putNumber_29 : decode co_M_putNumber 29 = .ok (.sipush 128, 3) := by decide +kernel
theorem dc_M_putNumber_32 : decode co_M_putNumber 32 = .ok (.iload 4, 2) := by decide +kernel
theorem dc_M_putNumber_34 : decode co_M_putNumber 34 = .ok (.iadd, 1) := by decide +kernel
theorem dc_M_putNumber_35 : decode co_M_putNumber 35 = .ok (.iastore, 1) := by decide +kernel
theorem dc_M_putNumber_36 : decode co_M_putNumber 36 = .ok (.iinc 5 1, 3) := by decide +kernel
theorem dc_M_putNumber_39 : decode co_M_putNumber 39 = .ok (.iload 4, 2) := by decide +kernel
theorem dc_M_putNumber_41 : decode co_M_putNumber 41 = .ok (.iconst 1, 1) := by decide +kernel
theorem dc_M_putNumber_42 : decode co_M_putNumber 42 = .ok (.isub, 1) := by decide +kernel
theorem dc_M_putNumber_43 : decode co_M_putNumber 43 = .ok (.istore 6, 2) := by decide +kernel
theorem dc_M_putNumber_45 : decode co_M_putNumber 45 = .ok (.iload 6, 2) := by decide +kernel
theorem dc_M_putNumber_47 : decode co_M_putNumber 47 = .ok (.ifCond .lt 31, 3) := by decide +kernel
theorem dc_M_putNumber_50 : decode co_M_putNumber 50 = .ok (.aload_n 0, 1) := by decide +kernel
theorem dc_M_putNumber_51 : decode co_M_putNumber 51 = .ok (.getfield 42, 3) := by decide +kernel
theorem dc_M_putNumber_54 : decode co_M_putNumber 54 = .ok (.iload 5, 2) := by decide +kernel
theorem dc_M_putNumber_56 : decode co_M_putNumber 56 = .ok (.lload_n 2, 1) := by decide +kernel
theorem dc_M_putNumber_57 : decode co_M_putNumber 57 = .ok (.bipush 8, 2) := by decide +kernel
theorem dc_M_putNumber_59 : decode co_M_putNumber 59 = .ok (.iload 6, 2) := by decide +kernel
theorem dc_M_putNumber_61 : decode co_M_putNumber 61 = .ok (.imul, 1) := by decide +kernel
theorem dc_M_putNumber_62 : decode co_M_putNumber 62 = .ok (.lshr, 1) := by decide +kernel
theorem dc_M_putNumber_63 : decode co_M_putNumber 63 = .ok (.ldc2_w 89, 3) := by decide +kernel
theorem dc_M_putNumber_66 : decode co_M_putNumber 66 = .ok (.land, 1) := by decide +kernel
theorem dc_M_putNumber_67 : decode co_M_putNumber 67 = .ok (.l2i, 1) := by decide +kernel
theorem dc_M_putNumber_68 : decode co_M_putNumber 68 = .ok (.iastore, 1) := by decide +kernel
theorem dc_M_putNumber_69 : decode co_M_putNumber 69 = .ok (.iinc 5 1, 3) := by decide +kernel
theorem dc_M_putNumber_72 : decode co_M_putNumber 72 = .ok (.iinc 6 (-1), 3) := by decide +kernel
theorem dc_M_putNumber_75 : decode co_M_putNumber 75 = .ok (.goto (-30), 3) := by decide +kernel
theorem dc_M_putNumber_78 : decode co_M_putNumber 78 = .ok (.iload 5, 2) := by decide +kernel
theorem dc_M_putNumber_80 : decode co_M_putNumber 80 = .ok (.ireturn, 1) := by decide +kernel
theorem dc_M_digit_0 : decode co_M_digit 0 = .ok (.iload_n 0, 1) := by decide +kernel
theorem dc_M_digit_1 : decode co_M_digit 1 = .ok (.bipush 12, 2) := by decide +kernel
theorem dc_M_digit_3 : decode co_M_digit 3 = .ok (.iconst 4, 1) := by decide +kernel
