theorem dc_Law_law_0 : decode co_Law_law 0 = .ok (.new 7, 3) := by decide +kernel
theorem dc_Law_law_3 : decode co_Law_law 3 = .ok (.dup, 1) := by decide +kernel
theorem dc_Law_law_4 : decode co_Law_law 4 = .ok (.invokespecial 9, 3) := by decide +kernel
theorem dc_Law_law_7 : decode co_Law_law 7 = .ok (.astore_n 1, 1) := by decide +kernel
theorem dc_Law_law_8 : decode co_Law_law 8 = .ok (.new 10, 3) := by decide +kernel
theorem dc_Law_law_11 : decode co_Law_law 11 = .ok (.dup, 1) := by decide +kernel
theorem dc_Law_law_12 : decode co_Law_law 12 = .ok (.invokespecial 12, 3) := by decide +kernel
theorem dc_Law_law_15 : decode co_Law_law 15 = .ok (.astore_n 2, 1) := by decide +kernel
theorem dc_Law_law_16 : decode co_Law_law 16 = .ok (.iconst 0, 1) := by decide +kernel
theorem dc_Law_law_17 : decode co_Law_law 17 = .ok (.istore_n 3, 1) := by decide +kernel
theorem dc_Law_law_18 : decode co_Law_law 18 = .ok (.iload_n 3, 1) := by decide +kernel
theorem dc_Law_law_19 : decode co_Law_law 19 = .ok (.aload_n 0, 1) := by decide +kernel
theorem dc_Law_law_20 : decode co_Law_law 20 = .ok (.arraylength, 1) := by decide +kernel
theorem dc_Law_law_21 : decode co_Law_law 21 = .ok (.bipush 8, 2) := by decide +kernel
theorem dc_Law_law_23 : decode co_Law_law 23 = .ok (.isub, 1) := by decide +kernel
theorem dc_Law_law_24 : decode co_Law_law 24 = .ok (.if_icmp .gt 653, 3) := by decide +kernel
theorem dc_Law_law_27 : decode co_Law_law 27 = .ok (.aload_n 0, 1) := by decide +kernel
theorem dc_Law_law_28 : decode co_Law_law 28 = .ok (.iload_n 3, 1) := by decide +kernel
theorem dc_Law_law_29 : decode co_Law_law 29 = .ok (.iaload, 1) := by decide +kernel
theorem dc_Law_law_30 : decode co_Law_law 30 = .ok (.bipush 31, 2) := by decide +kernel
theorem dc_Law_law_32 : decode co_Law_law 32 = .ok (.iand, 1) := by decide +kernel
theorem dc_Law_law_33 : decode co_Law_law 33 = .ok (.tableswitch 638 0 17 #[87, 110, 173, 300, 323, 346, 370, 383, 407, 430, 443, 466, 479, 502, 535, 578, 591, 614], 87) := by decide +kernel
theorem dc_Law_law_120 : decode co_Law_law 120 = .ok (.aload_n 1, 1) := by decide +kernel
theorem dc_Law_law_121 : decode co_Law_law 121 = .ok (.aload_n 0, 1) := by decide +kernel
theorem dc_Law_law_122 : decode co_Law_law 122 = .ok (.iload_n 3, 1) := by decide +kernel
theorem dc_Law_law_123 : decode co_Law_law 123 = .ok (.iconst 1, 1) := by decide +kernel
theorem dc_Law_law_124 : decode co_Law_law 124 = .ok (.iadd, 1) := by decide +kernel
theorem dc_Law_law_125 : decode co_Law_law 125 = .ok (.iaload, 1) := by decide +kernel
theorem dc_Law_law_126 : decode co_Law_law 126 = .ok (.invokevirtual 13, 3) := by decide +kernel
theorem dc_Law_law_129 : decode co_Law_law 129 = .ok (.aload_n 2, 1) := by decide +kernel
theorem dc_Law_law_130 : decode co_Law_law 130 = .ok (.aload_n 0, 1) := by decide +kernel
theorem dc_Law_law_131 : decode co_Law_law 131 = .ok (.iload_n 3, 1) := by decide +kernel
theorem dc_Law_law_132 : decode co_Law_law 132 = .ok (.iconst 1, 1) := by decide +kernel
theorem dc_Law_law_133 : decode co_Law_law 133 = .ok (.iadd, 1) := by decide +kernel
theorem dc_Law_law_134 : decode co_Law_law 134 = .ok (.iaload, 1) := by decide +kernel
theorem dc_Law_law_135 : decode co_Law_law 135 = .ok (.invokevirtual 17, 3) := by decide +kernel
theorem dc_Law_law_138 : decode co_Law_law 138 = .ok (.if_icmp .eq 533, 3) := by decide +kernel
theorem dc_Law_law_141 : decode co_Law_law 141 = .ok (.iconst 0, 1) := by decide +kernel
theorem dc_Law_law_142 : decode co_Law_law 142 = .ok (.ireturn, 1) := by decide +kernel
theorem dc_Law_law_143 : decode co_Law_law 143 = .ok (.aload_n 1, 1) := by decide +kernel
theorem dc_Law_law_144 : decode co_Law_law 144 = .ok (.aload_n 0, 1) := by decide +kernel
theorem dc_Law_law_145 : decode co_Law_law 145 = .ok (.iload_n 3, 1) := by decide +kernel
theorem dc_Law_law_146 : decode co_Law_law 146 = .ok (.iconst 1, 1) := by decide +kernel
theorem dc_Law_law_147 : decode co_Law_law 147 = .ok (.iadd, 1) := by decide +kernel
theorem dc_Law_law_148 : decode co_Law_law 148 = .ok (.iaload, 1) := by decide +kernel
theorem dc_Law_law_149 : decode co_Law_law 149 = .ok (.aload_n 0, 1) := by decide +kernel
theorem dc_Law_law_150 : decode co_Law_law 150 = .ok (.iload_n 3, 1) := by decide +kernel
theorem dc_Law_law_151 : decode co_Law_law 151 = .ok (.iconst 2, 1) := by decide +kernel
theorem dc_Law_law_152 : decode co_Law_law 152 = .ok (.iadd, 1) := by decide +kernel
theorem dc_Law_law_153 : decode co_Law_law 153 = .ok (.iaload, 1) := by decide +kernel
theorem dc_Law_law_154 : decode co_Law_law 154 = .ok (.i2l, 1) := by decide +kernel
theorem dc_Law_law_155 : decode co_Law_law 155 = .ok (.bipush 32, 2) := by decide +kernel
theorem dc_Law_law_157 : decode co_Law_law 157 = .ok (.lshl, 1) := by decide +kernel
theorem dc_Law_law_158 : decode co_Law_law 158 = .ok (.aload_n 0, 1) := by decide +kernel
theorem dc_Law_law_159 : decode co_Law_law 159 = .ok (.iload_n 3, 1) := by decide +kernel
theorem dc_Law_law_160 : decode co_Law_law 160 = .ok (.iconst 3, 1) := by decide +kernel
theorem dc_Law_law_161 : decode co_Law_law 161 = .ok (.iadd, 1) := by decide +kernel
theorem dc_Law_law_162 : decode co_Law_law 162 = .ok (.iaload, 1) := by decide +kernel
theorem dc_Law_law_163 : decode co_Law_law 163 = .ok (.i2l, 1) := by decide +kernel
theorem dc_Law_law_164 : decode co_Law_law 164 = .ok (.ldc2_w 18, 3) := by decide +kernel
theorem dc_Law_law_167 : decode co_Law_law 167 = .ok (.land, 1) := by decide +kernel
theorem dc_Law_law_168 : decode co_Law_law 168 = .ok (.lor, 1) := by decide +kernel
theorem dc_Law_law_169 : decode co_Law_law 169 = .ok (.invokevirtual 20, 3) := by decide +kernel
theorem dc_Law_law_172 : decode co_Law_law 172 = .ok (.aload_n 2, 1) := by decide +kernel
theorem dc_Law_law_173 : decode co_Law_law 173 = .ok (.aload_n 0, 1) := by decide +kernel
theorem dc_Law_law_174 : decode co_Law_law 174 = .ok (.iload_n 3, 1) := by decide +kernel
theorem dc_Law_law_175 : decode co_Law_law 175 = .ok (.iconst 1, 1) := by decide +kernel
theorem dc_Law_law_176 : decode co_Law_law 176 = .ok (.iadd, 1) := by decide +kernel
theorem dc_Law_law_177 : decode co_Law_law 177 = .ok (.iaload, 1) := by decide +kernel
theorem dc_Law_law_178 : decode co_Law_law 178 = .ok (.aload_n 0, 1) := by decide +kernel
theorem dc_Law_law_179 : decode co_Law_law 179 = .ok (.iload_n 3, 1) := by decide +kernel
theorem dc_Law_law_180 : decode co_Law_law 180 = .ok (.iconst 2, 1) := by decide +kernel
theorem dc_Law_law_181 : decode co_Law_law 181 = .ok (.iadd, 1) := by decide +kernel
theorem dc_Law_law_182 : decode co_Law_law 182 = .ok (.iaload, 1) := by decide +kernel
theorem dc_Law_law_183 : decode co_Law_law 183 = .ok (.i2l, 1) := by decide +kernel
theorem dc_Law_law_184 : decode co_Law_law 184 = .ok (.bipush 32, 2) := by decide +kernel
theorem dc_Law_law_186 : decode co_Law_law 186 = .ok (.lshl, 1) := by decide +kernel
theorem dc_Law_law_187 : decode co_Law_law 187 = .ok (.aload_n 0, 1) := by decide +kernel
theorem dc_Law_law_188 : decode co_Law_law 188 = .ok (.iload_n 3, 1) := by decide +kernel
theorem dc_Law_law_189 : decode co_Law_law 189 = .ok (.iconst 3, 1) := by decide +kernel
theorem dc_Law_law_190 : decode co_Law_law 190 = .ok (.iadd, 1) := by decide +kernel
theorem dc_Law_law_191 : decode co_Law_law 191 = .ok (.iaload, 1) := by decide +kernel
theorem dc_Law_law_192 : decode co_Law_law 192 = .ok (.i2l, 1) := by decide +kernel
theorem dc_Law_law_193 : decode co_Law_law 193 = .ok (.ldc2_w 18, 3) := by decide +kernel
theorem dc_Law_law_196 : decode co_Law_law 196 = .ok (.land, 1) := by decide +kernel
theorem dc_Law_law_197 : decode co_Law_law 197 = .ok (.lor, 1) := by decide +kernel
theorem dc_Law_law_198 : decode co_Law_law 198 = .ok (.invokevirtual 24, 3) := by decide +kernel
theorem dc_Law_law_201 : decode co_Law_law 201 = .ok (.if_icmp .eq 470, 3) := by decide +kernel
theorem dc_Law_law_204 : decode co_Law_law 204 = .ok (.iconst 0, 1) := by decide +kernel
theorem dc_Law_law_205 : decode co_Law_law 205 = .ok (.ireturn, 1) := by decide +kernel
theorem dc_Law_law_206 : decode co_Law_law 206 = .ok (.aload_n 1, 1) := by decide +kernel
theorem dc_Law_law_207 : decode co_Law_law 207 = .ok (.aload_n 0, 1) := by decide +kernel
theorem dc_Law_law_208 : decode co_Law_law 208 = .ok (.iload_n 3, 1) := by decide +kernel
theorem dc_Law_law_209 : decode co_Law_law 209 = .ok (.iconst 1, 1) := by decide +kernel
theorem dc_Law_law_210 : decode co_Law_law 210 = .ok (.iadd, 1) := by decide +kernel
theorem dc_Law_law_211 : decode co_Law_law 211 = .ok (.iaload, 1) := by decide +kernel
theorem dc_Law_law_212 : decode co_Law_law 212 = .ok (.aload_n 0, 1) := by decide +kernel
theorem dc_Law_law_213 : decode co_Law_law 213 = .ok (.iload_n 3, 1) := by decide +kernel
theorem dc_Law_law_214 : decode co_Law_law 214 = .ok (.iconst 2, 1) := by decide +kernel
theorem dc_Law_law_215 : decode co_Law_law 215 = .ok (.iadd, 1) := by decide +kernel
theorem dc_Law_law_216 : decode co_Law_law 216 = .ok (.iaload, 1) := by decide +kernel
theorem dc_Law_law_217 : decode co_Law_law 217 = .ok (.aload_n 0, 1) := by decide +kernel
theorem dc_Law_law_218 : decode co_Law_law 218 = .ok (.iload_n 3, 1) := by decide +kernel
theorem dc_Law_law_219 : decode co_Law_law 219 = .ok (.iconst 3, 1) := by decide +kernel
theorem dc_Law_law_220 : decode co_Law_law 220 = .ok (.iadd, 1) := by decide +kernel
theorem dc_Law_law_221 : decode co_Law_law 221 = .ok (.iaload, 1) := by decide +kernel
theorem dc_Law_law_222 : decode co_Law_law 222 = .ok (.i2l, 1) := by decide +kernel
theorem dc_Law_law_223 : decode co_Law_law 223 = .ok (.bipush 32, 2) := by decide +kernel
theorem dc_Law_law_225 : decode co_Law_law 225 = .ok (.lshl, 1) := by decide +kernel
theorem dc_Law_law_226 : decode co_Law_law 226 = .ok (.aload_n 0, 1) := by decide +kernel
theorem dc_Law_law_227 : decode co_Law_law 227 = .ok (.iload_n 3, 1) := by decide +kernel
theorem dc_Law_law_228 : decode co_Law_law 228 = .ok (.iconst 4, 1) := by decide +kernel
theorem dc_Law_law_229 : decode co_Law_law 229 = .ok (.iadd, 1) := by decide +kernel
theorem dc_Law_law_230 : decode co_Law_law 230 = .ok (.iaload, 1) := by decide +kernel
theorem dc_Law_law_231 : decode co_Law_law 231 = .ok (.i2l, 1) := by decide +kernel
theorem dc_Law_law_232 : decode co_Law_law 232 = .ok (.ldc2_w 18, 3) := by decide +kernel
theorem dc_Law_law_235 : decode co_Law_law 235 = .ok (.land, 1) := by decide +kernel
theorem dc_Law_law_236 : decode co_Law_law 236 = .ok (.lor, 1) := by decide +kernel
theorem dc_Law_law_237 : decode co_Law_law 237 = .ok (.aload_n 0, 1) := by decide +kernel
theorem dc_Law_law_238 : decode co_Law_law 238 = .ok (.iload_n 3, 1) := by decide +kernel
theorem dc_Law_law_239 : decode co_Law_law 239 = .ok (.iconst 5, 1) := by decide +kernel
theorem dc_Law_law_240 : decode co_Law_law 240 = .ok (.iadd, 1) := by decide +kernel
theorem dc_Law_law_241 : decode co_Law_law 241 = .ok (.iaload, 1) := by decide +kernel
theorem dc_Law_law_242 : decode co_Law_law 242 = .ok (.i2l, 1) := by decide +kernel
theorem dc_Law_law_243 : decode co_Law_law 243 = .ok (.bipush 32, 2) := by decide +kernel
theorem dc_Law_law_245 : decode co_Law_law 245 = .ok (.lshl, 1) := by decide +kernel
theorem dc_Law_law_246 : decode co_Law_law 246 = .ok (.aload_n 0, 1) := by decide +kernel
theorem dc_Law_law_247 : decode co_Law_law 247 = .ok (.iload_n 3, 1) := by decide +kernel
theorem dc_Law_law_248 : decode co_Law_law 248 = .ok (.bipush 6, 2) := by decide +kernel
theorem dc_Law_law_250 : decode co_Law_law 250 = .ok (.iadd, 1) := by decide +kernel
theorem dc_Law_law_251 : decode co_Law_law 251 = .ok (.iaload, 1) := by decide +kernel
theorem dc_Law_law_252 : decode co_Law_law 252 = .ok (.i2l, 1) := by decide +kernel
theorem dc_Law_law_253 : decode co_Law_law 253 = .ok (.ldc2_w 18, 3) := by decide +kernel
theorem dc_Law_law_256 : decode co_Law_law 256 = .ok (.land, 1) := by decide +kernel
theorem dc_Law_law_257 : decode co_Law_law 257 = .ok (.lor, 1) := by decide +kernel
theorem dc_Law_law_258 : decode co_Law_law 258 = .ok (.aload_n 0, 1) := by decide +kernel
theorem dc_Law_law_259 : decode co_Law_law 259 = .ok (.iload_n 3, 1) := by decide +kernel
theorem dc_Law_law_260 : decode co_Law_law 260 = .ok (.bipush 7, 2) := by decide +kernel
theorem dc_Law_law_262 : decode co_Law_law 262 = .ok (.iadd, 1) := by decide +kernel
theorem dc_Law_law_263 : decode co_Law_law 263 = .ok (.iaload, 1) := by decide +kernel
theorem dc_Law_law_264 : decode co_Law_law 264 = .ok (.invokevirtual 25, 3) := by decide +kernel
theorem dc_Law_law_267 : decode co_Law_law 267 = .ok (.aload_n 2, 1) := by decide +kernel
theorem dc_Law_law_268 : decode co_Law_law 268 = .ok (.aload_n 0, 1) := by decide +kernel
theorem dc_Law_law_269 : decode co_Law_law 269 = .ok (.iload_n 3, 1) := by decide +kernel
theorem dc_Law_law_270 : decode co_Law_law 270 = .ok (.iconst 1, 1) := by decide +kernel
theorem dc_Law_law_271 : decode co_Law_law 271 = .ok (.iadd, 1) := by decide +kernel
theorem dc_Law_law_272 : decode co_Law_law 272 = .ok (.iaload, 1) := by decide +kernel
theorem dc_Law_law_273 : decode co_Law_law 273 = .ok (.aload_n 0, 1) := by decide +kernel
theorem dc_Law_law_274 : decode co_Law_law 274 = .ok (.iload_n 3, 1) := by decide +kernel
theorem dc_Law_law_275 : decode co_Law_law 275 = .ok (.iconst 2, 1) := by decide +kernel
theorem dc_Law_law_276 : decode co_Law_law 276 = .ok (.iadd, 1) := by decide +kernel
theorem dc_Law_law_277 : decode co_Law_law 277 = .ok (.iaload, 1) := by decide +kernel
theorem dc_Law_law_278 : decode co_Law_law 278 = .ok (.aload_n 0, 1) := by decide +kernel
theorem dc_Law_law_279 : decode co_Law_law 279 = .ok (.iload_n 3, 1) := by decide +kernel
theorem dc_Law_law_280 : decode co_Law_law 280 = .ok (.iconst 3, 1) := by decide +kernel
theorem dc_Law_law_281 : decode co_Law_law 281 = .ok (.iadd, 1) := by decide +kernel
theorem dc_Law_law_282 : decode co_Law_law 282 = .ok (.iaload, 1) := by decide +kernel
theorem dc_Law_law_283 : decode co_Law_law 283 = .ok (.i2l, 1) := by decide +kernel
theorem dc_Law_law_284 : decode co_Law_law 284 = .ok (.bipush 32, 2) := by decide +kernel
theorem dc_Law_law_286 : decode co_Law_law 286 = .ok (.lshl, 1) := by decide +kernel
theorem dc_Law_law_287 : decode co_Law_law 287 = .ok (.aload_n 0, 1) := by decide +kernel
theorem dc_Law_law_288 : decode co_Law_law 288 = .ok (.iload_n 3, 1) := by decide +kernel
theorem dc_Law_law_289 : decode co_Law_law 289 = .ok (.iconst 4, 1) := by decide +kernel
theorem dc_Law_law_290 : decode co_Law_law 290 = .ok (.iadd, 1) := by decide +kernel
theorem dc_Law_law_291 : decode co_Law_law 291 = .ok (.iaload, 1) := by decide +kernel
theorem dc_Law_law_292 : decode co_Law_law 292 = .ok (.i2l, 1) := by decide +kernel
theorem dc_Law_law_293 : decode co_Law_law 293 = .ok (.ldc2_w 18, 3) := by decide +kernel
theorem dc_Law_law_296 : decode co_Law_law 296 = .ok (.land, 1) := by decide +kernel
theorem dc_Law_law_297 : decode co_Law_law 297 = .ok (.lor, 1) := by decide +kernel
theorem dc_Law_law_298 : decode co_Law_law 298 = .ok (.aload_n 0, 1) := by decide +kernel
theorem dc_Law_law_299 : decode co_Law_law 299 = .ok (.iload_n 3, 1) := by decide +kernel
theorem dc_Law_law_300 : decode co_Law_law 300 = .ok (.iconst 5, 1) := by decide +kernel
theorem dc_Law_law_301 : decode co_Law_law 301 = .ok (.iadd, 1) := by decide +kernel
theorem dc_Law_law_302 : decode co_Law_law 302 = .ok (.iaload, 1) := by decide +kernel
theorem dc_Law_law_303 : decode co_Law_law 303 = .ok (.i2l, 1) := by decide +kernel
theorem dc_Law_law_304 : decode co_Law_law 304 = .ok (.bipush 32, 2) := by decide +kernel
theorem dc_Law_law_306 : decode co_Law_law 306 = .ok (.lshl, 1) := by decide +kernel
theorem dc_Law_law_307 : decode co_Law_law 307 = .ok (.aload_n 0, 1) := by decide +kernel
theorem dc_Law_law_308 : decode co_Law_law 308 = .ok (.iload_n 3, 1) := by decide +kernel
theorem dc_Law_law_309 : decode co_Law_law 309 = .ok (.bipush 6, 2) := by decide +kernel
theorem dc_Law_law_311 : decode co_Law_law 311 = .ok (.iadd, 1) := by decide +kernel
theorem dc_Law_law_312 : decode co_Law_law 312 = .ok (.iaload, 1) := by decide +kernel
theorem dc_Law_law_313 : decode co_Law_law 313 = .ok (.i2l, 1) := by decide +kernel
theorem dc_Law_law_314 : decode co_Law_law 314 = .ok (.ldc2_w 18, 3) := by decide +kernel
theorem dc_Law_law_317 : decode co_Law_law 317 = .ok (.land, 1) := by decide +kernel
theorem dc_Law_law_318 : decode co_Law_law 318 = .ok (.lor, 1) := by decide +kernel
theorem dc_Law_law_319 : decode co_Law_law 319 = .ok (.aload_n 0, 1) := by decide +kernel
theorem dc_Law_law_320 : decode co_Law_law 320 = .ok (.iload_n 3, 1) := by decide +kernel
theorem dc_Law_law_321 : decode co_Law_law 321 = .ok (.bipush 7, 2) := by decide +kernel
theorem dc_Law_law_323 : decode co_Law_law 323 = .ok (.iadd, 1) := by decide +kernel
theorem dc_Law_law_324 : decode co_Law_law 324 = .ok (.iaload, 1) := by decide +kernel
theorem dc_Law_law_325 : decode co_Law_law 325 = .ok (.invokevirtual 29, 3) := by decide +kernel
theorem dc_Law_law_328 : decode co_Law_law 328 = .ok (.if_icmp .eq 343, 3) := by decide +kernel
theorem dc_Law_law_331 : decode co_Law_law 331 = .ok (.iconst 0, 1) := by decide +kernel
theorem dc_Law_law_332 : decode co_Law_law 332 = .ok (.ireturn, 1) := by decide +kernel
theorem dc_Law_law_333 : decode co_Law_law 333 = .ok (.aload_n 1, 1) := by decide +kernel
theorem dc_Law_law_334 : decode co_Law_law 334 = .ok (.aload_n 0, 1) := by decide +kernel
theorem dc_Law_law_335 : decode co_Law_law 335 = .ok (.iload_n 3, 1) := by decide +kernel
theorem dc_Law_law_336 : decode co_Law_law 336 = .ok (.iconst 1, 1) := by decide +kernel
theorem dc_Law_law_337 : decode co_Law_law 337 = .ok (.iadd, 1) := by decide +kernel
theorem dc_Law_law_338 : decode co_Law_law 338 = .ok (.iaload, 1) := by decide +kernel
theorem dc_Law_law_339 : decode co_Law_law 339 = .ok (.invokevirtual 30, 3) := by decide +kernel
theorem dc_Law_law_342 : decode co_Law_law 342 = .ok (.aload_n 2, 1) := by decide +kernel
theorem dc_Law_law_343 : decode co_Law_law 343 = .ok (.aload_n 0, 1) := by decide +kernel
theorem dc_Law_law_344 : decode co_Law_law 344 = .ok (.iload_n 3, 1) := by decide +kernel
theorem dc_Law_law_345 : decode co_Law_law 345 = .ok (.iconst 1, 1) := by decide +kernel
theorem dc_Law_law_346 : decode co_Law_law 346 = .ok (.iadd, 1) := by decide +kernel
theorem dc_Law_law_347 : decode co_Law_law 347 = .ok (.iaload, 1) := by decide +kernel
theorem dc_Law_law_348 : decode co_Law_law 348 = .ok (.invokevirtual 33, 3) := by decide +kernel
theorem dc_Law_law_351 : decode co_Law_law 351 = .ok (.if_icmp .eq 320, 3) := by decide +kernel
theorem dc_Law_law_354 : decode co_Law_law 354 = .ok (.iconst 0, 1) := by decide +kernel
theorem dc_Law_law_355 : decode co_Law_law 355 = .ok (.ireturn, 1) := by decide +kernel
theorem dc_Law_law_356 : decode co_Law_law 356 = .ok (.aload_n 1, 1) := by decide +kernel
theorem dc_Law_law_357 : decode co_Law_law 357 = .ok (.aload_n 0, 1) := by decide +kernel
theorem dc_Law_law_358 : decode co_Law_law 358 = .ok (.iload_n 3, 1) := by decide +kernel
theorem dc_Law_law_359 : decode co_Law_law 359 = .ok (.iconst 1, 1) := by decide +kernel
theorem dc_Law_law_360 : decode co_Law_law 360 = .ok (.iadd, 1) := by decide +kernel
theorem dc_Law_law_361 : decode co_Law_law 361 = .ok (.iaload, 1) := by decide +kernel
theorem dc_Law_law_362 : decode co_Law_law 362 = .ok (.invokevirtual 34, 3) := by decide +kernel
theorem dc_Law_law_365 : decode co_Law_law 365 = .ok (.aload_n 2, 1) := by decide +kernel
theorem dc_Law_law_366 : decode co_Law_law 366 = .ok (.aload_n 0, 1) := by decide +kernel
theorem dc_Law_law_367 : decode co_Law_law 367 = .ok (.iload_n 3, 1) := by decide +kernel
theorem dc_Law_law_368 : decode co_Law_law 368 = .ok (.iconst 1, 1) := by decide +kernel
theorem dc_Law_law_369 : decode co_Law_law 369 = .ok (.iadd, 1) := by decide +kernel
theorem dc_Law_law_370 : decode co_Law_law 370 = .ok (.iaload, 1) := by decide +kernel
theorem dc_Law_law_371 : decode co_Law_law 371 = .ok (.invokevirtual 38, 3) := by decide +kernel
theorem dc_Law_law_374 : decode co_Law_law 374 = .ok (.if_icmp .eq 297, 3) := by decide +kernel
theorem dc_Law_law_377 : decode co_Law_law 377 = .ok (.iconst 0, 1) := by decide +kernel
theorem dc_Law_law_378 : decode co_Law_law 378 = .ok (.ireturn, 1) := by decide +kernel
theorem dc_Law_law_379 : decode co_Law_law 379 = .ok (.aload_n 1, 1) := by decide +kernel
theorem dc_Law_law_380 : decode co_Law_law 380 = .ok (.aload_n 0, 1) := by decide +kernel
theorem dc_Law_law_381 : decode co_Law_law 381 = .ok (.iload_n 3, 1) := by decide +kernel
theorem dc_Law_law_382 : decode co_Law_law 382 = .ok (.iconst 1, 1) := by decide +kernel
theorem dc_Law_law_383 : decode co_Law_law 383 = .ok (.iadd, 1) := by decide +kernel
theorem dc_Law_law_384 : decode co_Law_law 384 = .ok (.iaload, 1) := by decide +kernel
theorem dc_Law_law_385 : decode co_Law_law 385 = .ok (.invokevirtual 39, 3) := by decide +kernel
theorem dc_Law_law_388 : decode co_Law_law 388 = .ok (.aload_n 2, 1) := by decide +kernel
theorem dc_Law_law_389 : decode co_Law_law 389 = .ok (.aload_n 0, 1) := by decide +kernel
theorem dc_Law_law_390 : decode co_Law_law 390 = .ok (.iload_n 3, 1) := by decide +kernel
theorem dc_Law_law_391 : decode co_Law_law 391 = .ok (.iconst 1, 1) := by decide +kernel
theorem dc_Law_law_392 : decode co_Law_law 392 = .ok (.iadd, 1) := by decide +kernel
theorem dc_Law_law_393 : decode co_Law_law 393 = .ok (.iaload, 1) := by decide +kernel
theorem dc_Law_law_394 : decode co_Law_law 394 = .ok (.invokevirtual 43, 3) := by decide +kernel
theorem dc_Law_law_397 : decode co_Law_law 397 = .ok (.lcmp, 1) := by decide +kernel
theorem dc_Law_law_398 : decode co_Law_law 398 = .ok (.ifCond .eq 273, 3) := by decide +kernel
theorem dc_Law_law_401 : decode co_Law_law 401 = .ok (.iconst 0, 1) := by decide +kernel
theorem dc_Law_law_402 : decode co_Law_law 402 = .ok (.ireturn, 1) := by decide +kernel
theorem dc_Law_law_403 : decode co_Law_law 403 = .ok (.aload_n 1, 1) := by decide +kernel
theorem dc_Law_law_404 : decode co_Law_law 404 = .ok (.invokevirtual 44, 3) := by decide +kernel
theorem dc_Law_law_407 : decode co_Law_law 407 = .ok (.aload_n 2, 1) := by decide +kernel
theorem dc_Law_law_408 : decode co_Law_law 408 = .ok (.invokevirtual 48, 3) := by decide +kernel
theorem dc_Law_law_411 : decode co_Law_law 411 = .ok (.if_icmp .eq 260, 3) := by decide +kernel
theorem dc_Law_law_414 : decode co_Law_law 414 = .ok (.iconst 0, 1) := by decide +kernel
theorem dc_Law_law_415 : decode co_Law_law 415 = .ok (.ireturn, 1) := by decide +kernel
theorem dc_Law_law_416 : decode co_Law_law 416 = .ok (.aload_n 1, 1) := by decide +kernel
theorem dc_Law_law_417 : decode co_Law_law 417 = .ok (.aload_n 0, 1) := by decide +kernel
theorem dc_Law_law_418 : decode co_Law_law 418 = .ok (.iload_n 3, 1) := by decide +kernel
theorem dc_Law_law_419 : decode co_Law_law 419 = .ok (.iconst 1, 1) := by decide +kernel
theorem dc_Law_law_420 : decode co_Law_law 420 = .ok (.iadd, 1) := by decide +kernel
theorem dc_Law_law_421 : decode co_Law_law 421 = .ok (.iaload, 1) := by decide +kernel
theorem dc_Law_law_422 : decode co_Law_law 422 = .ok (.invokevirtual 49, 3) := by decide +kernel
theorem dc_Law_law_425 : decode co_Law_law 425 = .ok (.aload_n 2, 1) := by decide +kernel
theorem dc_Law_law_426 : decode co_Law_law 426 = .ok (.aload_n 0, 1) := by decide +kernel
theorem dc_Law_law_427 : decode co_Law_law 427 = .ok (.iload_n 3, 1) := by decide +kernel
theorem dc_Law_law_428 : decode co_Law_law 428 = .ok (.iconst 1, 1) := by decide +kernel
theorem dc_Law_law_429 : decode co_Law_law 429 = .ok (.iadd, 1) := by decide +kernel
theorem dc_Law_law_430 : decode co_Law_law 430 = .ok (.iaload, 1) := by decide +kernel
theorem dc_Law_law_431 : decode co_Law_law 431 = .ok (.invokevirtual 52, 3) := by decide +kernel
theorem dc_Law_law_434 : decode co_Law_law 434 = .ok (.lcmp, 1) := by decide +kernel
theorem dc_Law_law_435 : decode co_Law_law 435 = .ok (.ifCond .eq 236, 3) := by decide +kernel
theorem dc_Law_law_438 : decode co_Law_law 438 = .ok (.iconst 0, 1) := by decide +kernel
theorem dc_Law_law_439 : decode co_Law_law 439 = .ok (.ireturn, 1) := by decide +kernel
theorem dc_Law_law_440 : decode co_Law_law 440 = .ok (.aload_n 1, 1) := by decide +kernel
theorem dc_Law_law_441 : decode co_Law_law 441 = .ok (.aload_n 0, 1) := by decide +kernel
theorem dc_Law_law_442 : decode co_Law_law 442 = .ok (.iload_n 3, 1) := by decide +kernel
theorem dc_Law_law_443 : decode co_Law_law 443 = .ok (.iconst 1, 1) := by decide +kernel
theorem dc_Law_law_444 : decode co_Law_law 444 = .ok (.iadd, 1) := by decide +kernel
theorem dc_Law_law_445 : decode co_Law_law 445 = .ok (.iaload, 1) := by decide +kernel
theorem dc_Law_law_446 : decode co_Law_law 446 = .ok (.invokevirtual 53, 3) := by decide +kernel
theorem dc_Law_law_449 : decode co_Law_law 449 = .ok (.aload_n 2, 1) := by decide +kernel
theorem dc_Law_law_450 : decode co_Law_law 450 = .ok (.aload_n 0, 1) := by decide +kernel
theorem dc_Law_law_451 : decode co_Law_law 451 = .ok (.iload_n 3, 1) := by decide +kernel
theorem dc_Law_law_452 : decode co_Law_law 452 = .ok (.iconst 1, 1) := by decide +kernel
theorem dc_Law_law_453 : decode co_Law_law 453 = .ok (.iadd, 1) := by decide +kernel
theorem dc_Law_law_454 : decode co_Law_law 454 = .ok (.iaload, 1) := by decide +kernel
theorem dc_Law_law_455 : decode co_Law_law 455 = .ok (.invokevirtual 56, 3) := by decide +kernel
theorem dc_Law_law_458 : decode co_Law_law 458 = .ok (.if_icmp .eq 213, 3) := by decide +kernel
theorem dc_Law_law_461 : decode co_Law_law 461 = .ok (.iconst 0, 1) := by decide +kernel
theorem dc_Law_law_462 : decode co_Law_law 462 = .ok (.ireturn, 1) := by decide +kernel
theorem dc_Law_law_463 : decode co_Law_law 463 = .ok (.aload_n 1, 1) := by decide +kernel
theorem dc_Law_law_464 : decode co_Law_law 464 = .ok (.invokevirtual 57, 3) := by decide +kernel
theorem dc_Law_law_467 : decode co_Law_law 467 = .ok (.aload_n 2, 1) := by decide +kernel
theorem dc_Law_law_468 : decode co_Law_law 468 = .ok (.invokevirtual 60, 3) := by decide +kernel
theorem dc_Law_law_471 : decode co_Law_law 471 = .ok (.if_icmp .eq 200, 3) := by decide +kernel
theorem dc_Law_law_474 : decode co_Law_law 474 = .ok (.iconst 0, 1) := by decide +kernel
theorem dc_Law_law_475 : decode co_Law_law 475 = .ok (.ireturn, 1) := by decide +kernel
theorem dc_Law_law_476 : decode co_Law_law 476 = .ok (.aload_n 1, 1) := by decide +kernel
theorem dc_Law_law_477 : decode co_Law_law 477 = .ok (.aload_n 0, 1) := by decide +kernel
theorem dc_Law_law_478 : decode co_Law_law 478 = .ok (.iload_n 3, 1) := by decide +kernel
theorem dc_Law_law_479 : decode co_Law_law 479 = .ok (.iconst 1, 1) := by decide +kernel
theorem dc_Law_law_480 : decode co_Law_law 480 = .ok (.iadd, 1) := by decide +kernel
theorem dc_Law_law_481 : decode co_Law_law 481 = .ok (.iaload, 1) := by decide +kernel
theorem dc_Law_law_482 : decode co_Law_law 482 = .ok (.invokevirtual 61, 3) := by decide +kernel
theorem dc_Law_law_485 : decode co_Law_law 485 = .ok (.aload_n 2, 1) := by decide +kernel
theorem dc_Law_law_486 : decode co_Law_law 486 = .ok (.aload_n 0, 1) := by decide +kernel
theorem dc_Law_law_487 : decode co_Law_law 487 = .ok (.iload_n 3, 1) := by decide +kernel
theorem dc_Law_law_488 : decode co_Law_law 488 = .ok (.iconst 1, 1) := by decide +kernel
theorem dc_Law_law_489 : decode co_Law_law 489 = .ok (.iadd, 1) := by decide +kernel
theorem dc_Law_law_490 : decode co_Law_law 490 = .ok (.iaload, 1) := by decide +kernel
theorem dc_Law_law_491 : decode co_Law_law 491 = .ok (.invokevirtual 64, 3) := by decide +kernel
theorem dc_Law_law_494 : decode co_Law_law 494 = .ok (.if_icmp .eq 177, 3) := by decide +kernel
theorem dc_Law_law_497 : decode co_Law_law 497 = .ok (.iconst 0, 1) := by decide +kernel
theorem dc_Law_law_498 : decode co_Law_law 498 = .ok (.ireturn, 1) := by decide +kernel
theorem dc_Law_law_499 : decode co_Law_law 499 = .ok (.aload_n 1, 1) := by decide +kernel
theorem dc_Law_law_500 : decode co_Law_law 500 = .ok (.invokevirtual 65, 3) := by decide +kernel
theorem dc_Law_law_503 : decode co_Law_law 503 = .ok (.aload_n 2, 1) := by decide +kernel
theorem dc_Law_law_504 : decode co_Law_law 504 = .ok (.invokevirtual 68, 3) := by decide +kernel
theorem dc_Law_law_507 : decode co_Law_law 507 = .ok (.if_icmp .eq 164, 3) := by decide +kernel
theorem dc_Law_law_510 : decode co_Law_law 510 = .ok (.iconst 0, 1) := by decide +kernel
theorem dc_Law_law_511 : decode co_Law_law 511 = .ok (.ireturn, 1) := by decide +kernel
theorem dc_Law_law_512 : decode co_Law_law 512 = .ok (.aload_n 1, 1) := by decide +kernel
theorem dc_Law_law_513 : decode co_Law_law 513 = .ok (.aload_n 0, 1) := by decide +kernel
theorem dc_Law_law_514 : decode co_Law_law 514 = .ok (.iload_n 3, 1) := by decide +kernel
theorem dc_Law_law_515 : decode co_Law_law 515 = .ok (.iconst 1, 1) := by decide +kernel
theorem dc_Law_law_516 : decode co_Law_law 516 = .ok (.iadd, 1) := by decide +kernel
theorem dc_Law_law_517 : decode co_Law_law 517 = .ok (.iaload, 1) := by decide +kernel
theorem dc_Law_law_518 : decode co_Law_law 518 = .ok (.invokevirtual 69, 3) := by decide +kernel
theorem dc_Law_law_521 : decode co_Law_law 521 = .ok (.aload_n 2, 1) := by decide +kernel
theorem dc_Law_law_522 : decode co_Law_law 522 = .ok (.aload_n 0, 1) := by decide +kernel
theorem dc_Law_law_523 : decode co_Law_law 523 = .ok (.iload_n 3, 1) := by decide +kernel
theorem dc_Law_law_524 : decode co_Law_law 524 = .ok (.iconst 1, 1) := by decide +kernel
theorem dc_Law_law_525 : decode co_Law_law 525 = .ok (.iadd, 1) := by decide +kernel
theorem dc_Law_law_526 : decode co_Law_law 526 = .ok (.iaload, 1) := by decide +kernel
theorem dc_Law_law_527 : decode co_Law_law 527 = .ok (.invokevirtual 72, 3) := by decide +kernel
theorem dc_Law_law_530 : decode co_Law_law 530 = .ok (.if_icmp .eq 141, 3) := by decide +kernel
theorem dc_Law_law_533 : decode co_Law_law 533 = .ok (.iconst 0, 1) := by decide +kernel
theorem dc_Law_law_534 : decode co_Law_law 534 = .ok (.ireturn, 1) := by decide +kernel
theorem dc_Law_law_535 : decode co_Law_law 535 = .ok (.aload_n 1, 1) := by decide +kernel
theorem dc_Law_law_536 : decode co_Law_law 536 = .ok (.aload_n 0, 1) := by decide +kernel
theorem dc_Law_law_537 : decode co_Law_law 537 = .ok (.iload_n 3, 1) := by decide +kernel
theorem dc_Law_law_538 : decode co_Law_law 538 = .ok (.iconst 1, 1) := by decide +kernel
theorem dc_Law_law_539 : decode co_Law_law 539 = .ok (.iadd, 1) := by decide +kernel
theorem dc_Law_law_540 : decode co_Law_law 540 = .ok (.iaload, 1) := by decide +kernel
theorem dc_Law_law_541 : decode co_Law_law 541 = .ok (.aload_n 0, 1) := by decide +kernel
theorem dc_Law_law_542 : decode co_Law_law 542 = .ok (.iload_n 3, 1) := by decide +kernel
theorem dc_Law_law_543 : decode co_Law_law 543 = .ok (.iconst 2, 1) := by decide +kernel
theorem dc_Law_law_544 : decode co_Law_law 544 = .ok (.iadd, 1) := by decide +kernel
theorem dc_Law_law_545 : decode co_Law_law 545 = .ok (.iaload, 1) := by decide +kernel
theorem dc_Law_law_546 : decode co_Law_law 546 = .ok (.invokevirtual 73, 3) := by decide +kernel
theorem dc_Law_law_549 : decode co_Law_law 549 = .ok (.aload_n 2, 1) := by decide +kernel
theorem dc_Law_law_550 : decode co_Law_law 550 = .ok (.aload_n 0, 1) := by decide +kernel
theorem dc_Law_law_551 : decode co_Law_law 551 = .ok (.iload_n 3, 1) := by decide +kernel
theorem dc_Law_law_552 : decode co_Law_law 552 = .ok (.iconst 1, 1) := by decide +kernel
theorem dc_Law_law_553 : decode co_Law_law 553 = .ok (.iadd, 1) := by decide +kernel
theorem dc_Law_law_554 : decode co_Law_law 554 = .ok (.iaload, 1) := by decide +kernel
theorem dc_Law_law_555 : decode co_Law_law 555 = .ok (.aload_n 0, 1) := by decide +kernel
theorem dc_Law_law_556 : decode co_Law_law 556 = .ok (.iload_n 3, 1) := by decide +kernel
theorem dc_Law_law_557 : decode co_Law_law 557 = .ok (.iconst 2, 1) := by decide +kernel
theorem dc_Law_law_558 : decode co_Law_law 558 = .ok (.iadd, 1) := by decide +kernel
theorem dc_Law_law_559 : decode co_Law_law 559 = .ok (.iaload, 1) := by decide +kernel
theorem dc_Law_law_560 : decode co_Law_law 560 = .ok (.invokevirtual 77, 3) := by decide +kernel
theorem dc_Law_law_563 : decode co_Law_law 563 = .ok (.if_icmp .eq 108, 3) := by decide +kernel
theorem dc_Law_law_566 : decode co_Law_law 566 = .ok (.iconst 0, 1) := by decide +kernel
theorem dc_Law_law_567 : decode co_Law_law 567 = .ok (.ireturn, 1) := by decide +kernel
theorem dc_Law_law_568 : decode co_Law_law 568 = .ok (.aload_n 1, 1) := by decide +kernel
theorem dc_Law_law_569 : decode co_Law_law 569 = .ok (.aload_n 0, 1) := by decide +kernel
theorem dc_Law_law_570 : decode co_Law_law 570 = .ok (.iload_n 3, 1) := by decide +kernel
theorem dc_Law_law_571 : decode co_Law_law 571 = .ok (.iconst 1, 1) := by decide +kernel
theorem dc_Law_law_572 : decode co_Law_law 572 = .ok (.iadd, 1) := by decide +kernel
theorem dc_Law_law_573 : decode co_Law_law 573 = .ok (.iaload, 1) := by decide +kernel
theorem dc_Law_law_574 : decode co_Law_law 574 = .ok (.aload_n 0, 1) := by decide +kernel
theorem dc_Law_law_575 : decode co_Law_law 575 = .ok (.iload_n 3, 1) := by decide +kernel
theorem dc_Law_law_576 : decode co_Law_law 576 = .ok (.iconst 2, 1) := by decide +kernel
theorem dc_Law_law_577 : decode co_Law_law 577 = .ok (.iadd, 1) := by decide +kernel
theorem dc_Law_law_578 : decode co_Law_law 578 = .ok (.iaload, 1) := by decide +kernel
theorem dc_Law_law_579 : decode co_Law_law 579 = .ok (.aload_n 0, 1) := by decide +kernel
theorem dc_Law_law_580 : decode co_Law_law 580 = .ok (.iload_n 3, 1) := by decide +kernel
theorem dc_Law_law_581 : decode co_Law_law 581 = .ok (.iconst 3, 1) := by decide +kernel
theorem dc_Law_law_582 : decode co_Law_law 582 = .ok (.iadd, 1) := by decide +kernel
theorem dc_Law_law_583 : decode co_Law_law 583 = .ok (.iaload, 1) := by decide +kernel
theorem dc_Law_law_584 : decode co_Law_law 584 = .ok (.invokevirtual 78, 3) := by decide +kernel
theorem dc_Law_law_587 : decode co_Law_law 587 = .ok (.aload_n 2, 1) := by decide +kernel
theorem dc_Law_law_588 : decode co_Law_law 588 = .ok (.aload_n 0, 1) := by decide +kernel
theorem dc_Law_law_589 : decode co_Law_law 589 = .ok (.iload_n 3, 1) := by decide +kernel
theorem dc_Law_law_590 : decode co_Law_law 590 = .ok (.iconst 1, 1) := by decide +kernel
theorem dc_Law_law_591 : decode co_Law_law 591 = .ok (.iadd, 1) := by decide +kernel
theorem dc_Law_law_592 : decode co_Law_law 592 = .ok (.iaload, 1) := by decide +kernel
theorem dc_Law_law_593 : decode co_Law_law 593 = .ok (.aload_n 0, 1) := by decide +kernel
theorem dc_Law_law_594 : decode co_Law_law 594 = .ok (.iload_n 3, 1) := by decide +kernel
theorem dc_Law_law_595 : decode co_Law_law 595 = .ok (.iconst 2, 1) := by decide +kernel
theorem dc_Law_law_596 : decode co_Law_law 596 = .ok (.iadd, 1) := by decide +kernel
theorem dc_Law_law_597 : decode co_Law_law 597 = .ok (.iaload, 1) := by decide +kernel
theorem dc_Law_law_598 : decode co_Law_law 598 = .ok (.aload_n 0, 1) := by decide +kernel
theorem dc_Law_law_599 : decode co_Law_law 599 = .ok (.iload_n 3, 1) := by decide +kernel
theorem dc_Law_law_600 : decode co_Law_law 600 = .ok (.iconst 3, 1) := by decide +kernel
theorem dc_Law_law_601 : decode co_Law_law 601 = .ok (.iadd, 1) := by decide +kernel
theorem dc_Law_law_602 : decode co_Law_law 602 = .ok (.iaload, 1) := by decide +kernel
theorem dc_Law_law_603 : decode co_Law_law 603 = .ok (.invokevirtual 82, 3) := by decide +kernel
theorem dc_Law_law_606 : decode co_Law_law 606 = .ok (.if_icmp .eq 65, 3) := by decide +kernel
theorem dc_Law_law_609 : decode co_Law_law 609 = .ok (.iconst 0, 1) := by decide +kernel
theorem dc_Law_law_610 : decode co_Law_law 610 = .ok (.ireturn, 1) := by decide +kernel
theorem dc_Law_law_611 : decode co_Law_law 611 = .ok (.aload_n 1, 1) := by decide +kernel
theorem dc_Law_law_612 : decode co_Law_law 612 = .ok (.invokevirtual 83, 3) := by decide +kernel
theorem dc_Law_law_615 : decode co_Law_law 615 = .ok (.aload_n 2, 1) := by decide +kernel
theorem dc_Law_law_616 : decode co_Law_law 616 = .ok (.invokevirtual 86, 3) := by decide +kernel
theorem dc_Law_law_619 : decode co_Law_law 619 = .ok (.if_icmp .eq 52, 3) := by decide +kernel
theorem dc_Law_law_622 : decode co_Law_law 622 = .ok (.iconst 0, 1) := by decide +kernel
theorem dc_Law_law_623 : decode co_Law_law 623 = .ok (.ireturn, 1) := by decide +kernel
theorem dc_Law_law_624 : decode co_Law_law 624 = .ok (.aload_n 1, 1) := by decide +kernel
theorem dc_Law_law_625 : decode co_Law_law 625 = .ok (.aload_n 0, 1) := by decide +kernel
theorem dc_Law_law_626 : decode co_Law_law 626 = .ok (.iload_n 3, 1) := by decide +kernel
theorem dc_Law_law_627 : decode co_Law_law 627 = .ok (.iconst 1, 1) := by decide +kernel
theorem dc_Law_law_628 : decode co_Law_law 628 = .ok (.iadd, 1) := by decide +kernel
theorem dc_Law_law_629 : decode co_Law_law 629 = .ok (.iaload, 1) := by decide +kernel
theorem dc_Law_law_630 : decode co_Law_law 630 = .ok (.invokevirtual 87, 3) := by decide +kernel
theorem dc_Law_law_633 : decode co_Law_law 633 = .ok (.aload_n 2, 1) := by decide +kernel
theorem dc_Law_law_634 : decode co_Law_law 634 = .ok (.aload_n 0, 1) := by decide +kernel
theorem dc_Law_law_635 : decode co_Law_law 635 = .ok (.iload_n 3, 1) := by decide +kernel
theorem dc_Law_law_636 : decode co_Law_law 636 = .ok (.iconst 1, 1) := by decide +kernel
theorem dc_Law_law_637 : decode co_Law_law 637 = .ok (.iadd, 1) := by decide +kernel
theorem dc_Law_law_638 : decode co_Law_law 638 = .ok (.iaload, 1) := by decide +kernel
theorem dc_Law_law_639 : decode co_Law_law 639 = .ok (.invokevirtual 90, 3) := by decide +kernel
theorem dc_Law_law_642 : decode co_Law_law 642 = .ok (.if_icmp .eq 29, 3) := by decide +kernel
theorem dc_Law_law_645 : decode co_Law_law 645 = .ok (.iconst 0, 1) := by decide +kernel
theorem dc_Law_law_646 : decode co_Law_law 646 = .ok (.ireturn, 1) := by decide +kernel
theorem dc_Law_law_647 : decode co_Law_law 647 = .ok (.aload_n 1, 1) := by decide +kernel
theorem dc_Law_law_648 : decode co_Law_law 648 = .ok (.aload_n 0, 1) := by decide +kernel
theorem dc_Law_law_649 : decode co_Law_law 649 = .ok (.iload_n 3, 1) := by decide +kernel
theorem dc_Law_law_650 : decode co_Law_law 650 = .ok (.iconst 1, 1) := by decide +kernel
theorem dc_Law_law_651 : decode co_Law_law 651 = .ok (.iadd, 1) := by decide +kernel
theorem dc_Law_law_652 : decode co_Law_law 652 = .ok (.iaload, 1) := by decide +kernel
theorem dc_Law_law_653 : decode co_Law_law 653 = .ok (.invokevirtual 91, 3) := by decide +kernel
theorem dc_Law_law_656 : decode co_Law_law 656 = .ok (.aload_n 2, 1) := by decide +kernel
theorem dc_Law_law_657 : decode co_Law_law 657 = .ok (.aload_n 0, 1) := by decide +kernel
theorem dc_Law_law_658 : decode co_Law_law 658 = .ok (.iload_n 3, 1) := by decide +kernel
theorem dc_Law_law_659 : decode co_Law_law 659 = .ok (.iconst 1, 1) := by decide +kernel
theorem dc_Law_law_660 : decode co_Law_law 660 = .ok (.iadd, 1) := by decide +kernel
theorem dc_Law_law_661 : decode co_Law_law 661 = .ok (.iaload, 1) := by decide +kernel
theorem dc_Law_law_662 : decode co_Law_law 662 = .ok (.invokevirtual 94, 3) := by decide +kernel
theorem dc_Law_law_665 : decode co_Law_law 665 = .ok (.lcmp, 1) := by decide +kernel
theorem dc_Law_law_666 : decode co_Law_law 666 = .ok (.ifCond .eq 5, 3) := by decide +kernel
theorem dc_Law_law_669 : decode co_Law_law 669 = .ok (.iconst 0, 1) := by decide +kernel
theorem dc_Law_law_670 : decode co_Law_law 670 = .ok (.ireturn, 1) := by decide +kernel
theorem dc_Law_law_671 : decode co_Law_law 671 = .ok (.iinc 3 8, 3) := by decide +kernel
theorem dc_Law_law_674 : decode co_Law_law 674 = .ok (.goto (-656), 3) := by decide +kernel
theorem dc_Law_law_677 : decode co_Law_law 677 = .ok (.iconst 1, 1) := by decide +kernel
theorem dc_Law_law_678 : decode co_Law_law 678 = .ok (.ireturn, 1) := by decide +kernel
