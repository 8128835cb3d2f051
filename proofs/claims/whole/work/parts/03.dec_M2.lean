theorem dc_M_send_177 : decode co_M_send 177 = .ok (.iload 8, 2) := by decide +kernel
theorem dc_M_send_179 : decode co_M_send 179 = .ok (.iadd, 1) := by decide +kernel
theorem dc_M_send_180 : decode co_M_send 180 = .ok (.bipush 12, 2) := by decide +kernel
theorem dc_M_send_182 : decode co_M_send 182 = .ok (.if_icmp .le 6, 3) := by decide +kernel
theorem dc_M_send_185 : decode co_M_send 185 = .ok (.bipush (-4), 2) := by decide +kernel
theorem dc_M_send_187 : decode co_M_send 187 = .ok (.ireturn, 1) := by decide +kernel
theorem dc_M_send_188 : decode co_M_send 188 = .ok (.aload_n 0, 1) := by decide +kernel
theorem dc_M_send_189 : decode co_M_send 189 = .ok (.iload_n 1, 1) := by decide +kernel
theorem dc_M_send_190 : decode co_M_send 190 = .ok (.invokevirtual 174, 3) := by decide +kernel
theorem dc_M_send_193 : decode co_M_send 193 = .ok (.istore 11, 2) := by decide +kernel
theorem dc_M_send_195 : decode co_M_send 195 = .ok (.aload_n 0, 1) := by decide +kernel
theorem dc_M_send_196 : decode co_M_send 196 = .ok (.getfield 13, 3) := by decide +kernel
theorem dc_M_send_199 : decode co_M_send 199 = .ok (.iload 11, 2) := by decide +kernel
theorem dc_M_send_201 : decode co_M_send 201 = .ok (.dup2, 1) := by decide +kernel
theorem dc_M_send_202 : decode co_M_send 202 = .ok (.iaload, 1) := by decide +kernel
theorem dc_M_send_203 : decode co_M_send 203 = .ok (.iconst 1, 1) := by decide +kernel
theorem dc_M_send_204 : decode co_M_send 204 = .ok (.iadd, 1) := by decide +kernel
theorem dc_M_send_205 : decode co_M_send 205 = .ok (.iastore, 1) := by decide +kernel
theorem dc_M_send_206 : decode co_M_send 206 = .ok (.aload_n 0, 1) := by decide +kernel
theorem dc_M_send_207 : decode co_M_send 207 = .ok (.getfield 16, 3) := by decide +kernel
theorem dc_M_send_210 : decode co_M_send 210 = .ok (.iload 11, 2) := by decide +kernel
theorem dc_M_send_212 : decode co_M_send 212 = .ok (.aload_n 0, 1) := by decide +kernel
theorem dc_M_send_213 : decode co_M_send 213 = .ok (.getfield 16, 3) := by decide +kernel
theorem dc_M_send_216 : decode co_M_send 216 = .ok (.iload 11, 2) := by decide +kernel
theorem dc_M_send_218 : decode co_M_send 218 = .ok (.laload, 1) := by decide +kernel
theorem dc_M_send_219 : decode co_M_send 219 = .ok (.lload_n 3, 1) := by decide +kernel
theorem dc_M_send_220 : decode co_M_send 220 = .ok (.lsub, 1) := by decide +kernel
theorem dc_M_send_221 : decode co_M_send 221 = .ok (.lload 5, 2) := by decide +kernel
theorem dc_M_send_223 : decode co_M_send 223 = .ok (.lsub, 1) := by decide +kernel
theorem dc_M_send_224 : decode co_M_send 224 = .ok (.lastore, 1) := by decide +kernel
theorem dc_M_send_225 : decode co_M_send 225 = .ok (.lload_n 3, 1) := by decide +kernel
theorem dc_M_send_226 : decode co_M_send 226 = .ok (.lconst 0, 1) := by decide +kernel
theorem dc_M_send_227 : decode co_M_send 227 = .ok (.lcmp, 1) := by decide +kernel
theorem dc_M_send_228 : decode co_M_send 228 = .ok (.ifCond .le 26, 3) := by decide +kernel
theorem dc_M_send_231 : decode co_M_send 231 = .ok (.aload_n 0, 1) := by decide +kernel
theorem dc_M_send_232 : decode co_M_send 232 = .ok (.iload_n 2, 1) := by decide +kernel
theorem dc_M_send_233 : decode co_M_send 233 = .ok (.invokevirtual 174, 3) := by decide +kernel
theorem dc_M_send_236 : decode co_M_send 236 = .ok (.istore 12, 2) := by decide +kernel
theorem dc_M_send_238 : decode co_M_send 238 = .ok (.aload_n 0, 1) := by decide +kernel
theorem dc_M_send_239 : decode co_M_send 239 = .ok (.getfield 16, 3) := by decide +kernel
theorem dc_M_send_242 : decode co_M_send 242 = .ok (.iload 12, 2) := by decide +kernel
theorem dc_M_send_244 : decode co_M_send 244 = .ok (.aload_n 0, 1) := by decide +kernel
theorem dc_M_send_245 : decode co_M_send 245 = .ok (.getfield 16, 3) := by decide +kernel
theorem dc_M_send_248 : decode co_M_send 248 = .ok (.iload 12, 2) := by decide +kernel
theorem dc_M_send_250 : decode co_M_send 250 = .ok (.laload, 1) := by decide +kernel
theorem dc_M_send_251 : decode co_M_send 251 = .ok (.lload_n 3, 1) := by decide +kernel
theorem dc_M_send_252 : decode co_M_send 252 = .ok (.ladd, 1) := by decide +kernel
theorem dc_M_send_253 : decode co_M_send 253 = .ok (.lastore, 1) := by decide +kernel
theorem dc_M_send_254 : decode co_M_send 254 = .ok (.lload 5, 2) := by decide +kernel
theorem dc_M_send_256 : decode co_M_send 256 = .ok (.lconst 0, 1) := by decide +kernel
theorem dc_M_send_257 : decode co_M_send 257 = .ok (.lcmp, 1) := by decide +kernel
theorem dc_M_send_258 : decode co_M_send 258 = .ok (.ifCond .le 30, 3) := by decide +kernel
theorem dc_M_send_261 : decode co_M_send 261 = .ok (.aload_n 0, 1) := by decide +kernel
theorem dc_M_send_262 : decode co_M_send 262 = .ok (.aload_n 0, 1) := by decide +kernel
theorem dc_M_send_263 : decode co_M_send 263 = .ok (.getfield 169, 3) := by decide +kernel
theorem dc_M_send_266 : decode co_M_send 266 = .ok (.invokevirtual 174, 3) := by decide +kernel
theorem dc_M_send_269 : decode co_M_send 269 = .ok (.istore 12, 2) := by decide +kernel
theorem dc_M_send_271 : decode co_M_send 271 = .ok (.aload_n 0, 1) := by decide +kernel
theorem dc_M_send_272 : decode co_M_send 272 = .ok (.getfield 16, 3) := by decide +kernel
theorem dc_M_send_275 : decode co_M_send 275 = .ok (.iload 12, 2) := by decide +kernel
theorem dc_M_send_277 : decode co_M_send 277 = .ok (.aload_n 0, 1) := by decide +kernel
theorem dc_M_send_278 : decode co_M_send 278 = .ok (.getfield 16, 3) := by decide +kernel
theorem dc_M_send_281 : decode co_M_send 281 = .ok (.iload 12, 2) := by decide +kernel
theorem dc_M_send_283 : decode co_M_send 283 = .ok (.laload, 1) := by decide +kernel
theorem dc_M_send_284 : decode co_M_send 284 = .ok (.lload 5, 2) := by decide +kernel
theorem dc_M_send_286 : decode co_M_send 286 = .ok (.ladd, 1) := by decide +kernel
theorem dc_M_send_287 : decode co_M_send 287 = .ok (.lastore, 1) := by decide +kernel
theorem dc_M_send_288 : decode co_M_send 288 = .ok (.aload_n 0, 1) := by decide +kernel
theorem dc_M_send_289 : decode co_M_send 289 = .ok (.iconst 0, 1) := by decide +kernel
theorem dc_M_send_290 : decode co_M_send 290 = .ok (.putfield 150, 3) := by decide +kernel
theorem dc_M_send_293 : decode co_M_send 293 = .ok (.aload_n 0, 1) := by decide +kernel
theorem dc_M_send_294 : decode co_M_send 294 = .ok (.getfield 113, 3) := by decide +kernel
theorem dc_M_send_297 : decode co_M_send 297 = .ok (.ireturn, 1) := by decide +kernel
theorem dc_M_close_0 : decode co_M_close 0 = .ok (.iload_n 1, 1) := by decide +kernel
theorem dc_M_close_1 : decode co_M_close 1 = .ok (.invokestatic 165, 3) := by decide +kernel
theorem dc_M_close_4 : decode co_M_close 4 = .ok (.ifCond .eq 11, 3) := by decide +kernel
theorem dc_M_close_7 : decode co_M_close 7 = .ok (.aload_n 0, 1) := by decide +kernel
theorem dc_M_close_8 : decode co_M_close 8 = .ok (.iload_n 1, 1) := by decide +kernel
theorem dc_M_close_9 : decode co_M_close 9 = .ok (.invokevirtual 161, 3) := by decide +kernel
theorem dc_M_close_12 : decode co_M_close 12 = .ok (.goto 4, 3) := by decide +kernel
theorem dc_M_close_15 : decode co_M_close 15 = .ok (.iconst (-1), 1) := by decide +kernel
theorem dc_M_close_16 : decode co_M_close 16 = .ok (.istore_n 2, 1) := by decide +kernel
theorem dc_M_close_17 : decode co_M_close 17 = .ok (.iload_n 2, 1) := by decide +kernel
theorem dc_M_close_18 : decode co_M_close 18 = .ok (.ifCond .ge 5, 3) := by decide +kernel
theorem dc_M_close_21 : decode co_M_close 21 = .ok (.iconst 0, 1) := by decide +kernel
theorem dc_M_close_22 : decode co_M_close 22 = .ok (.ireturn, 1) := by decide +kernel
theorem dc_M_close_23 : decode co_M_close 23 = .ok (.aload_n 0, 1) := by decide +kernel
theorem dc_M_close_24 : decode co_M_close 24 = .ok (.dup, 1) := by decide +kernel
theorem dc_M_close_25 : decode co_M_close 25 = .ok (.getfield 113, 3) := by decide +kernel
theorem dc_M_close_28 : decode co_M_close 28 = .ok (.iconst 1, 1) := by decide +kernel
theorem dc_M_close_29 : decode co_M_close 29 = .ok (.isub, 1) := by decide +kernel
theorem dc_M_close_30 : decode co_M_close 30 = .ok (.putfield 113, 3) := by decide +kernel
theorem dc_M_close_33 : decode co_M_close 33 = .ok (.iload_n 2, 1) := by decide +kernel
theorem dc_M_close_34 : decode co_M_close 34 = .ok (.istore_n 3, 1) := by decide +kernel
theorem dc_M_close_35 : decode co_M_close 35 = .ok (.iload_n 3, 1) := by decide +kernel
theorem dc_M_close_36 : decode co_M_close 36 = .ok (.aload_n 0, 1) := by decide +kernel
theorem dc_M_close_37 : decode co_M_close 37 = .ok (.getfield 113, 3) := by decide +kernel
theorem dc_M_close_40 : decode co_M_close 40 = .ok (.if_icmp .ge 51, 3) := by decide +kernel
theorem dc_M_close_43 : decode co_M_close 43 = .ok (.aload_n 0, 1) := by decide +kernel
theorem dc_M_close_44 : decode co_M_close 44 = .ok (.getfield 7, 3) := by decide +kernel
theorem dc_M_close_47 : decode co_M_close 47 = .ok (.iload_n 3, 1) := by decide +kernel
theorem dc_M_close_48 : decode co_M_close 48 = .ok (.aload_n 0, 1) := by decide +kernel
theorem dc_M_close_49 : decode co_M_close 49 = .ok (.getfield 7, 3) := by decide +kernel
theorem dc_M_close_52 : decode co_M_close 52 = .ok (.iload_n 3, 1) := by decide +kernel
theorem dc_M_close_53 : decode co_M_close 53 = .ok (.iconst 1, 1) := by decide +kernel
theorem dc_M_close_54 : decode co_M_close 54 = .ok (.iadd, 1) := by decide +kernel
theorem dc_M_close_55 : decode co_M_close 55 = .ok (.iaload, 1) := by decide +kernel
theorem dc_M_close_56 : decode co_M_close 56 = .ok (.iastore, 1) := by decide +kernel
theorem dc_M_close_57 : decode co_M_close 57 = .ok (.aload_n 0, 1) := by decide +kernel
theorem dc_M_close_58 : decode co_M_close 58 = .ok (.getfield 13, 3) := by decide +kernel
theorem dc_M_close_61 : decode co_M_close 61 = .ok (.iload_n 3, 1) := by decide +kernel
theorem dc_M_close_62 : decode co_M_close 62 = .ok (.aload_n 0, 1) := by decide +kernel
theorem dc_M_close_63 : decode co_M_close 63 = .ok (.getfield 13, 3) := by decide +kernel
theorem dc_M_close_66 : decode co_M_close 66 = .ok (.iload_n 3, 1) := by decide +kernel
theorem dc_M_close_67 : decode co_M_close 67 = .ok (.iconst 1, 1) := by decide +kernel
theorem dc_M_close_68 : decode co_M_close 68 = .ok (.iadd, 1) := by decide +kernel
theorem dc_M_close_69 : decode co_M_close 69 = .ok (.iaload, 1) := by decide +kernel
theorem dc_M_close_70 : decode co_M_close 70 = .ok (.iastore, 1) := by decide +kernel
theorem dc_M_close_71 : decode co_M_close 71 = .ok (.aload_n 0, 1) := by decide +kernel
theorem dc_M_close_72 : decode co_M_close 72 = .ok (.getfield 16, 3) := by decide +kernel
theorem dc_M_close_75 : decode co_M_close 75 = .ok (.iload_n 3, 1) := by decide +kernel
theorem dc_M_close_76 : decode co_M_close 76 = .ok (.aload_n 0, 1) := by decide +kernel
theorem dc_M_close_77 : decode co_M_close 77 = .ok (.getfield 16, 3) := by decide +kernel
theorem dc_M_close_80 : decode co_M_close 80 = .ok (.iload_n 3, 1) := by decide +kernel
theorem dc_M_close_81 : decode co_M_close 81 = .ok (.iconst 1, 1) := by decide +kernel
theorem dc_M_close_82 : decode co_M_close 82 = .ok (.iadd, 1) := by decide +kernel
theorem dc_M_close_83 : decode co_M_close 83 = .ok (.laload, 1) := by decide +kernel
theorem dc_M_close_84 : decode co_M_close 84 = .ok (.lastore, 1) := by decide +kernel
theorem dc_M_close_85 : decode co_M_close 85 = .ok (.iinc 3 1, 3) := by decide +kernel
theorem dc_M_close_88 : decode co_M_close 88 = .ok (.goto (-53), 3) := by decide +kernel
theorem dc_M_close_91 : decode co_M_close 91 = .ok (.aload_n 0, 1) := by decide +kernel
theorem dc_M_close_92 : decode co_M_close 92 = .ok (.iconst 0, 1) := by decide +kernel
theorem dc_M_close_93 : decode co_M_close 93 = .ok (.putfield 150, 3) := by decide +kernel
theorem dc_M_close_96 : decode co_M_close 96 = .ok (.iconst 1, 1) := by decide +kernel
theorem dc_M_close_97 : decode co_M_close 97 = .ok (.ireturn, 1) := by decide +kernel
theorem dc_M_nonce_0 : decode co_M_nonce 0 = .ok (.aload_n 0, 1) := by decide +kernel
theorem dc_M_nonce_1 : decode co_M_nonce 1 = .ok (.iload_n 1, 1) := by decide +kernel
theorem dc_M_nonce_2 : decode co_M_nonce 2 = .ok (.invokevirtual 161, 3) := by decide +kernel
theorem dc_M_nonce_5 : decode co_M_nonce 5 = .ok (.istore_n 2, 1) := by decide +kernel
theorem dc_M_nonce_6 : decode co_M_nonce 6 = .ok (.iload_n 2, 1) := by decide +kernel
theorem dc_M_nonce_7 : decode co_M_nonce 7 = .ok (.ifCond .ge 7, 3) := by decide +kernel
theorem dc_M_nonce_10 : decode co_M_nonce 10 = .ok (.iconst 0, 1) := by decide +kernel
theorem dc_M_nonce_11 : decode co_M_nonce 11 = .ok (.goto 9, 3) := by decide +kernel
theorem dc_M_nonce_14 : decode co_M_nonce 14 = .ok (.aload_n 0, 1) := by decide +kernel
theorem dc_M_nonce_15 : decode co_M_nonce 15 = .ok (.getfield 13, 3) := by decide +kernel
theorem dc_M_nonce_18 : decode co_M_nonce 18 = .ok (.iload_n 2, 1) := by decide +kernel
theorem dc_M_nonce_19 : decode co_M_nonce 19 = .ok (.iaload, 1) := by decide +kernel
theorem dc_M_nonce_20 : decode co_M_nonce 20 = .ok (.ireturn, 1) := by decide +kernel
theorem dc_M_balance_0 : decode co_M_balance 0 = .ok (.aload_n 0, 1) := by decide +kernel
theorem dc_M_balance_1 : decode co_M_balance 1 = .ok (.iload_n 1, 1) := by decide +kernel
theorem dc_M_balance_2 : decode co_M_balance 2 = .ok (.invokevirtual 161, 3) := by decide +kernel
theorem dc_M_balance_5 : decode co_M_balance 5 = .ok (.istore_n 2, 1) := by decide +kernel
theorem dc_M_balance_6 : decode co_M_balance 6 = .ok (.iload_n 2, 1) := by decide +kernel
theorem dc_M_balance_7 : decode co_M_balance 7 = .ok (.ifCond .ge 7, 3) := by decide +kernel
theorem dc_M_balance_10 : decode co_M_balance 10 = .ok (.lconst 0, 1) := by decide +kernel
theorem dc_M_balance_11 : decode co_M_balance 11 = .ok (.goto 9, 3) := by decide +kernel
theorem dc_M_balance_14 : decode co_M_balance 14 = .ok (.aload_n 0, 1) := by decide +kernel
theorem dc_M_balance_15 : decode co_M_balance 15 = .ok (.getfield 16, 3) := by decide +kernel
theorem dc_M_balance_18 : decode co_M_balance 18 = .ok (.iload_n 2, 1) := by decide +kernel
theorem dc_M_balance_19 : decode co_M_balance 19 = .ok (.laload, 1) := by decide +kernel
theorem dc_M_balance_20 : decode co_M_balance 20 = .ok (.lreturn, 1) := by decide +kernel
theorem dc_M_accounts_0 : decode co_M_accounts 0 = .ok (.aload_n 0, 1) := by decide +kernel
theorem dc_M_accounts_1 : decode co_M_accounts 1 = .ok (.getfield 113, 3) := by decide +kernel
theorem dc_M_accounts_4 : decode co_M_accounts 4 = .ok (.ireturn, 1) := by decide +kernel
theorem dc_M_root_0 : decode co_M_root 0 = .ok (.iload_n 1, 1) := by decide +kernel
theorem dc_M_root_1 : decode co_M_root 1 = .ok (.ifCond .lt 8, 3) := by decide +kernel
theorem dc_M_root_4 : decode co_M_root 4 = .ok (.iload_n 1, 1) := by decide +kernel
theorem dc_M_root_5 : decode co_M_root 5 = .ok (.iconst 3, 1) := by decide +kernel
theorem dc_M_root_6 : decode co_M_root 6 = .ok (.if_icmp .le 5, 3) := by decide +kernel
theorem dc_M_root_9 : decode co_M_root 9 = .ok (.lconst 0, 1) := by decide +kernel
theorem dc_M_root_10 : decode co_M_root 10 = .ok (.lreturn, 1) := by decide +kernel
theorem dc_M_root_11 : decode co_M_root 11 = .ok (.aload_n 0, 1) := by decide +kernel
theorem dc_M_root_12 : decode co_M_root 12 = .ok (.invokevirtual 188, 3) := by decide +kernel
theorem dc_M_root_15 : decode co_M_root 15 = .ok (.lconst 0, 1) := by decide +kernel
theorem dc_M_root_16 : decode co_M_root 16 = .ok (.lstore_n 2, 1) := by decide +kernel
theorem dc_M_root_17 : decode co_M_root 17 = .ok (.iconst 0, 1) := by decide +kernel
theorem dc_M_root_18 : decode co_M_root 18 = .ok (.istore 4, 2) := by decide +kernel
theorem dc_M_root_20 : decode co_M_root 20 = .ok (.iload 4, 2) := by decide +kernel
theorem dc_M_root_22 : decode co_M_root 22 = .ok (.bipush 8, 2) := by decide +kernel
theorem dc_M_root_24 : decode co_M_root 24 = .ok (.if_icmp .ge 28, 3) := by decide +kernel
theorem dc_M_root_27 : decode co_M_root 27 = .ok (.lload_n 2, 1) := by decide +kernel
theorem dc_M_root_28 : decode co_M_root 28 = .ok (.bipush 8, 2) := by decide +kernel
theorem dc_M_root_30 : decode co_M_root 30 = .ok (.lshl, 1) := by decide +kernel
theorem dc_M_root_31 : decode co_M_root 31 = .ok (.aload_n 0, 1) := by decide +kernel
theorem dc_M_root_32 : decode co_M_root 32 = .ok (.getfield 72, 3) := by decide +kernel
theorem dc_M_root_35 : decode co_M_root 35 = .ok (.bipush 8, 2) := by decide +kernel
theorem dc_M_root_37 : decode co_M_root 37 = .ok (.iload_n 1, 1) := by decide +kernel
theorem dc_M_root_38 : decode co_M_root 38 = .ok (.imul, 1) := by decide +kernel
theorem dc_M_root_39 : decode co_M_root 39 = .ok (.iload 4, 2) := by decide +kernel
theorem dc_M_root_41 : decode co_M_root 41 = .ok (.iadd, 1) := by decide +kernel
theorem dc_M_root_42 : decode co_M_root 42 = .ok (.iaload, 1) := by decide +kernel
theorem dc_M_root_43 : decode co_M_root 43 = .ok (.i2l, 1) := by decide +kernel
theorem dc_M_root_44 : decode co_M_root 44 = .ok (.lor, 1) := by decide +kernel
theorem dc_M_root_45 : decode co_M_root 45 = .ok (.lstore_n 2, 1) := by decide +kernel
theorem dc_M_root_46 : decode co_M_root 46 = .ok (.iinc 4 1, 3) := by decide +kernel
theorem dc_M_root_49 : decode co_M_root 49 = .ok (.goto (-29), 3) := by decide +kernel
theorem dc_M_root_52 : decode co_M_root 52 = .ok (.lload_n 2, 1) := by decide +kernel
theorem dc_M_root_53 : decode co_M_root 53 = .ok (.lreturn, 1) := by decide +kernel
theorem dc_M_markBelow_0 : decode co_M_markBelow 0 = .ok (.aload_n 0, 1) := by decide +kernel
theorem dc_M_markBelow_1 : decode co_M_markBelow 1 = .ok (.iload_n 1, 1) := by decide +kernel
theorem dc_M_markBelow_2 : decode co_M_markBelow 2 = .ok (.iload_n 2, 1) := by decide +kernel
theorem dc_M_markBelow_3 : decode co_M_markBelow 3 = .ok (.invokevirtual 123, 3) := by decide +kernel
theorem dc_M_markBelow_6 : decode co_M_markBelow 6 = .ok (.istore_n 3, 1) := by decide +kernel
theorem dc_M_markBelow_7 : decode co_M_markBelow 7 = .ok (.aload_n 0, 1) := by decide +kernel
theorem dc_M_markBelow_8 : decode co_M_markBelow 8 = .ok (.iload_n 1, 1) := by decide +kernel
theorem dc_M_markBelow_9 : decode co_M_markBelow 9 = .ok (.iload_n 2, 1) := by decide +kernel
theorem dc_M_markBelow_10 : decode co_M_markBelow 10 = .ok (.invokevirtual 120, 3) := by decide +kernel
theorem dc_M_markBelow_13 : decode co_M_markBelow 13 = .ok (.iconst 1, 1) := by decide +kernel
theorem dc_M_markBelow_14 : decode co_M_markBelow 14 = .ok (.if_icmp .le 23, 3) := by decide +kernel
theorem dc_M_markBelow_17 : decode co_M_markBelow 17 = .ok (.iload_n 3, 1) := by decide +kernel
theorem dc_M_markBelow_18 : decode co_M_markBelow 18 = .ok (.iload_n 2, 1) := by decide +kernel
theorem dc_M_markBelow_19 : decode co_M_markBelow 19 = .ok (.if_icmp .le 18, 3) := by decide +kernel
theorem dc_M_markBelow_22 : decode co_M_markBelow 22 = .ok (.aload_n 0, 1) := by decide +kernel
theorem dc_M_markBelow_23 : decode co_M_markBelow 23 = .ok (.getfield 30, 3) := by decide +kernel
theorem dc_M_markBelow_26 : decode co_M_markBelow 26 = .ok (.bipush 12, 2) := by decide +kernel
theorem dc_M_markBelow_28 : decode co_M_markBelow 28 = .ok (.iload_n 3, 1) := by decide +kernel
theorem dc_M_markBelow_29 : decode co_M_markBelow 29 = .ok (.imul, 1) := by decide +kernel
theorem dc_M_markBelow_30 : decode co_M_markBelow 30 = .ok (.iload_n 1, 1) := by decide +kernel
theorem dc_M_markBelow_31 : decode co_M_markBelow 31 = .ok (.iadd, 1) := by decide +kernel
theorem dc_M_markBelow_32 : decode co_M_markBelow 32 = .ok (.iconst 1, 1) := by decide +kernel
theorem dc_M_markBelow_33 : decode co_M_markBelow 33 = .ok (.bastore, 1) := by decide +kernel
theorem dc_M_markBelow_34 : decode co_M_markBelow 34 = .ok (.goto 120, 3) := by decide +kernel
theorem dc_M_markBelow_37 : decode co_M_markBelow 37 = .ok (.aload_n 0, 1) := by decide +kernel
theorem dc_M_markBelow_38 : decode co_M_markBelow 38 = .ok (.iload_n 1, 1) := by decide +kernel
theorem dc_M_markBelow_39 : decode co_M_markBelow 39 = .ok (.iload_n 2, 1) := by decide +kernel
theorem dc_M_markBelow_40 : decode co_M_markBelow 40 = .ok (.invokevirtual 120, 3) := by decide +kernel
theorem dc_M_markBelow_43 : decode co_M_markBelow 43 = .ok (.iconst 1, 1) := by decide +kernel
theorem dc_M_markBelow_44 : decode co_M_markBelow 44 = .ok (.if_icmp .le 110, 3) := by decide +kernel
theorem dc_M_markBelow_47 : decode co_M_markBelow 47 = .ok (.iconst 0, 1) := by decide +kernel
theorem dc_M_markBelow_48 : decode co_M_markBelow 48 = .ok (.istore 4, 2) := by decide +kernel
theorem dc_M_markBelow_50 : decode co_M_markBelow 50 = .ok (.iload 4, 2) := by decide +kernel
theorem dc_M_markBelow_52 : decode co_M_markBelow 52 = .ok (.aload_n 0, 1) := by decide +kernel
theorem dc_M_markBelow_53 : decode co_M_markBelow 53 = .ok (.getfield 113, 3) := by decide +kernel
theorem dc_M_markBelow_56 : decode co_M_markBelow 56 = .ok (.if_icmp .ge 98, 3) := by decide +kernel
theorem dc_M_markBelow_59 : decode co_M_markBelow 59 = .ok (.aload_n 0, 1) := by decide +kernel
theorem dc_M_markBelow_60 : decode co_M_markBelow 60 = .ok (.getfield 7, 3) := by decide +kernel
theorem dc_M_markBelow_63 : decode co_M_markBelow 63 = .ok (.iload_n 1, 1) := by decide +kernel
theorem dc_M_markBelow_64 : decode co_M_markBelow 64 = .ok (.iaload, 1) := by decide +kernel
theorem dc_M_markBelow_65 : decode co_M_markBelow 65 = .ok (.aload_n 0, 1) := by decide +kernel
theorem dc_M_markBelow_66 : decode co_M_markBelow 66 = .ok (.getfield 7, 3) := by decide +kernel
theorem dc_M_markBelow_69 : decode co_M_markBelow 69 = .ok (.iload 4, 2) := by decide +kernel
theorem dc_M_markBelow_71 : decode co_M_markBelow 71 = .ok (.iaload, 1) := by decide +kernel
theorem dc_M_markBelow_72 : decode co_M_markBelow 72 = .ok (.iload_n 2, 1) := by decide +kernel
theorem dc_M_markBelow_73 : decode co_M_markBelow 73 = .ok (.invokestatic 116, 3) := by decide +kernel
theorem dc_M_markBelow_76 : decode co_M_markBelow 76 = .ok (.ifCond .eq 26, 3) := by decide +kernel
theorem dc_M_markBelow_79 : decode co_M_markBelow 79 = .ok (.aload_n 0, 1) := by decide +kernel
theorem dc_M_markBelow_80 : decode co_M_markBelow 80 = .ok (.aload_n 0, 1) := by decide +kernel
theorem dc_M_markBelow_81 : decode co_M_markBelow 81 = .ok (.getfield 7, 3) := by decide +kernel
theorem dc_M_markBelow_84 : decode co_M_markBelow 84 = .ok (.iload 4, 2) := by decide +kernel
theorem dc_M_markBelow_86 : decode co_M_markBelow 86 = .ok (.iaload, 1) := by decide +kernel
theorem dc_M_markBelow_87 : decode co_M_markBelow 87 = .ok (.iload_n 2, 1) := by decide +kernel
theorem dc_M_markBelow_88 : decode co_M_markBelow 88 = .ok (.iconst 1, 1) := by decide +kernel
theorem dc_M_markBelow_89 : decode co_M_markBelow 89 = .ok (.iadd, 1) := by decide +kernel
theorem dc_M_markBelow_90 : decode co_M_markBelow 90 = .ok (.invokevirtual 138, 3) := by decide +kernel
theorem dc_M_markBelow_93 : decode co_M_markBelow 93 = .ok (.iload 4, 2) := by decide +kernel
theorem dc_M_markBelow_95 : decode co_M_markBelow 95 = .ok (.if_icmp .ne 7, 3) := by decide +kernel
theorem dc_M_markBelow_98 : decode co_M_markBelow 98 = .ok (.iconst 1, 1) := by decide +kernel
theorem dc_M_markBelow_99 : decode co_M_markBelow 99 = .ok (.goto 4, 3) := by decide +kernel
theorem dc_M_markBelow_102 : decode co_M_markBelow 102 = .ok (.iconst 0, 1) := by decide +kernel
theorem dc_M_markBelow_103 : decode co_M_markBelow 103 = .ok (.istore 5, 2) := by decide +kernel
theorem dc_M_markBelow_105 : decode co_M_markBelow 105 = .ok (.aload_n 0, 1) := by decide +kernel
theorem dc_M_markBelow_106 : decode co_M_markBelow 106 = .ok (.getfield 30, 3) := by decide +kernel
theorem dc_M_markBelow_109 : decode co_M_markBelow 109 = .ok (.bipush 12, 2) := by decide +kernel
theorem dc_M_markBelow_111 : decode co_M_markBelow 111 = .ok (.iload_n 2, 1) := by decide +kernel
theorem dc_M_markBelow_112 : decode co_M_markBelow 112 = .ok (.imul, 1) := by decide +kernel
theorem dc_M_markBelow_113 : decode co_M_markBelow 113 = .ok (.bipush 12, 2) := by decide +kernel
theorem dc_M_markBelow_115 : decode co_M_markBelow 115 = .ok (.iadd, 1) := by decide +kernel
theorem dc_M_markBelow_116 : decode co_M_markBelow 116 = .ok (.iload 4, 2) := by decide +kernel
theorem dc_M_markBelow_118 : decode co_M_markBelow 118 = .ok (.iadd, 1) := by decide +kernel
theorem dc_M_markBelow_119 : decode co_M_markBelow 119 = .ok (.aload_n 0, 1) := by decide +kernel
theorem dc_M_markBelow_120 : decode co_M_markBelow 120 = .ok (.getfield 30, 3) := by decide +kernel
theorem dc_M_markBelow_123 : decode co_M_markBelow 123 = .ok (.bipush 12, 2) := by decide +kernel
theorem dc_M_markBelow_125 : decode co_M_markBelow 125 = .ok (.iload_n 2, 1) := by decide +kernel
theorem dc_M_markBelow_126 : decode co_M_markBelow 126 = .ok (.imul, 1) := by decide +kernel
theorem dc_M_markBelow_127 : decode co_M_markBelow 127 = .ok (.bipush 12, 2) := by decide +kernel
theorem dc_M_markBelow_129 : decode co_M_markBelow 129 = .ok (.iadd, 1) := by decide +kernel
theorem dc_M_markBelow_130 : decode co_M_markBelow 130 = .ok (.iload 4, 2) := by decide +kernel
theorem dc_M_markBelow_132 : decode co_M_markBelow 132 = .ok (.iadd, 1) := by decide +kernel
theorem dc_M_markBelow_133 : decode co_M_markBelow 133 = .ok (.baload, 1) := by decide +kernel
theorem dc_M_markBelow_134 : decode co_M_markBelow 134 = .ok (.ifCond .ne 8, 3) := by decide +kernel
theorem dc_M_markBelow_137 : decode co_M_markBelow 137 = .ok (.iload 5, 2) := by decide +kernel
theorem dc_M_markBelow_139 : decode co_M_markBelow 139 = .ok (.ifCond .eq 7, 3) := by decide +kernel
theorem dc_M_markBelow_142 : decode co_M_markBelow 142 = .ok (.iconst 1, 1) := by decide +kernel
theorem dc_M_markBelow_143 : decode co_M_markBelow 143 = .ok (.goto 4, 3) := by decide +kernel
theorem dc_M_markBelow_146 : decode co_M_markBelow 146 = .ok (.iconst 0, 1) := by decide +kernel
theorem dc_M_markBelow_147 : decode co_M_markBelow 147 = .ok (.bastore, 1) := by decide +kernel
theorem dc_M_markBelow_148 : decode co_M_markBelow 148 = .ok (.iinc 4 1, 3) := by decide +kernel
theorem dc_M_markBelow_151 : decode co_M_markBelow 151 = .ok (.goto (-101), 3) := by decide +kernel
theorem dc_M_markBelow_154 : decode co_M_markBelow 154 = .ok (.return_, 1) := by decide +kernel
theorem dc_M_nodes_0 : decode co_M_nodes 0 = .ok (.iload_n 1, 1) := by decide +kernel
theorem dc_M_nodes_1 : decode co_M_nodes 1 = .ok (.ifCond .lt 8, 3) := by decide +kernel
theorem dc_M_nodes_4 : decode co_M_nodes 4 = .ok (.iload_n 1, 1) := by decide +kernel
theorem dc_M_nodes_5 : decode co_M_nodes 5 = .ok (.iconst 2, 1) := by decide +kernel
theorem dc_M_nodes_6 : decode co_M_nodes 6 = .ok (.if_icmp .le 5, 3) := by decide +kernel
theorem dc_M_nodes_9 : decode co_M_nodes 9 = .ok (.iconst (-1), 1) := by decide +kernel
theorem dc_M_nodes_10 : decode co_M_nodes 10 = .ok (.ireturn, 1) := by decide +kernel
theorem dc_M_nodes_11 : decode co_M_nodes 11 = .ok (.iconst 0, 1) := by decide +kernel
theorem dc_M_nodes_12 : decode co_M_nodes 12 = .ok (.istore_n 2, 1) := by decide +kernel
theorem dc_M_nodes_13 : decode co_M_nodes 13 = .ok (.iload_n 2, 1) := by decide +kernel
theorem dc_M_nodes_14 : decode co_M_nodes 14 = .ok (.bipush 60, 2) := by decide +kernel
theorem dc_M_nodes_16 : decode co_M_nodes 16 = .ok (.if_icmp .ge 31, 3) := by decide +kernel
theorem dc_M_nodes_19 : decode co_M_nodes 19 = .ok (.aload_n 0, 1) := by decide +kernel
theorem dc_M_nodes_20 : decode co_M_nodes 20 = .ok (.getfield 30, 3) := by decide +kernel
theorem dc_M_nodes_23 : decode co_M_nodes 23 = .ok (.iload_n 2, 1) := by decide +kernel
theorem dc_M_nodes_24 : decode co_M_nodes 24 = .ok (.iload_n 2, 1) := by decide +kernel
theorem dc_M_nodes_25 : decode co_M_nodes 25 = .ok (.ifCond .ne 14, 3) := by decide +kernel
theorem dc_M_nodes_28 : decode co_M_nodes 28 = .ok (.aload_n 0, 1) := by decide +kernel
theorem dc_M_nodes_29 : decode co_M_nodes 29 = .ok (.getfield 113, 3) := by decide +kernel
theorem dc_M_nodes_32 : decode co_M_nodes 32 = .ok (.ifCond .le 7, 3) := by decide +kernel
theorem dc_M_nodes_35 : decode co_M_nodes 35 = .ok (.iconst 1, 1) := by decide +kernel
theorem dc_M_nodes_36 : decode co_M_nodes 36 = .ok (.goto 4, 3) := by decide +kernel
theorem dc_M_nodes_39 : decode co_M_nodes 39 = .ok (.iconst 0, 1) := by decide +kernel
theorem dc_M_nodes_40 : decode co_M_nodes 40 = .ok (.bastore, 1) := by decide +kernel
theorem dc_M_nodes_41 : decode co_M_nodes 41 = .ok (.iinc 2 1, 3) := by decide +kernel
theorem dc_M_nodes_44 : decode co_M_nodes 44 = .ok (.goto (-31), 3) := by decide +kernel
theorem dc_M_nodes_47 : decode co_M_nodes 47 = .ok (.iconst 0, 1) := by decide +kernel
theorem dc_M_nodes_48 : decode co_M_nodes 48 = .ok (.istore_n 2, 1) := by decide +kernel
theorem dc_M_nodes_49 : decode co_M_nodes 49 = .ok (.iconst 0, 1) := by decide +kernel
theorem dc_M_nodes_50 : decode co_M_nodes 50 = .ok (.istore_n 3, 1) := by decide +kernel
theorem dc_M_nodes_51 : decode co_M_nodes 51 = .ok (.iload_n 3, 1) := by decide +kernel
theorem dc_M_nodes_52 : decode co_M_nodes 52 = .ok (.iconst 5, 1) := by decide +kernel
theorem dc_M_nodes_53 : decode co_M_nodes 53 = .ok (.if_icmp .ge 96, 3) := by decide +kernel
theorem dc_M_nodes_56 : decode co_M_nodes 56 = .ok (.iconst 0, 1) := by decide +kernel
theorem dc_M_nodes_57 : decode co_M_nodes 57 = .ok (.istore 4, 2) := by decide +kernel
theorem dc_M_nodes_59 : decode co_M_nodes 59 = .ok (.iload 4, 2) := by decide +kernel
theorem dc_M_nodes_61 : decode co_M_nodes 61 = .ok (.aload_n 0, 1) := by decide +kernel
theorem dc_M_nodes_62 : decode co_M_nodes 62 = .ok (.getfield 113, 3) := by decide +kernel
theorem dc_M_nodes_65 : decode co_M_nodes 65 = .ok (.if_icmp .ge 78, 3) := by decide +kernel
theorem dc_M_nodes_68 : decode co_M_nodes 68 = .ok (.aload_n 0, 1) := by decide +kernel
theorem dc_M_nodes_69 : decode co_M_nodes 69 = .ok (.getfield 30, 3) := by decide +kernel
theorem dc_M_nodes_72 : decode co_M_nodes 72 = .ok (.bipush 12, 2) := by decide +kernel
theorem dc_M_nodes_74 : decode co_M_nodes 74 = .ok (.iload_n 3, 1) := by decide +kernel
theorem dc_M_nodes_75 : decode co_M_nodes 75 = .ok (.imul, 1) := by decide +kernel
theorem dc_M_nodes_76 : decode co_M_nodes 76 = .ok (.iload 4, 2) := by decide +kernel
theorem dc_M_nodes_78 : decode co_M_nodes 78 = .ok (.iadd, 1) := by decide +kernel
theorem dc_M_nodes_79 : decode co_M_nodes 79 = .ok (.baload, 1) := by decide +kernel
theorem dc_M_nodes_80 : decode co_M_nodes 80 = .ok (.ifCond .eq 57, 3) := by decide +kernel
theorem dc_M_nodes_83 : decode co_M_nodes 83 = .ok (.aload_n 0, 1) := by decide +kernel
theorem dc_M_nodes_84 : decode co_M_nodes 84 = .ok (.iload 4, 2) := by decide +kernel
theorem dc_M_nodes_86 : decode co_M_nodes 86 = .ok (.iload_n 3, 1) := by decide +kernel
theorem dc_M_nodes_87 : decode co_M_nodes 87 = .ok (.invokevirtual 120, 3) := by decide +kernel
theorem dc_M_nodes_90 : decode co_M_nodes 90 = .ok (.iconst 1, 1) := by decide +kernel
theorem dc_M_nodes_91 : decode co_M_nodes 91 = .ok (.if_icmp .ne 7, 3) := by decide +kernel
theorem dc_M_nodes_94 : decode co_M_nodes 94 = .ok (.iconst 0, 1) := by decide +kernel
theorem dc_M_nodes_95 : decode co_M_nodes 95 = .ok (.goto 19, 3) := by decide +kernel
theorem dc_M_nodes_98 : decode co_M_nodes 98 = .ok (.aload_n 0, 1) := by decide +kernel
theorem dc_M_nodes_99 : decode co_M_nodes 99 = .ok (.iload 4, 2) := by decide +kernel
theorem dc_M_nodes_101 : decode co_M_nodes 101 = .ok (.iload_n 3, 1) := by decide +kernel
theorem dc_M_nodes_102 : decode co_M_nodes 102 = .ok (.invokevirtual 123, 3) := by decide +kernel
theorem dc_M_nodes_105 : decode co_M_nodes 105 = .ok (.iload_n 3, 1) := by decide +kernel
theorem dc_M_nodes_106 : decode co_M_nodes 106 = .ok (.if_icmp .le 7, 3) := by decide +kernel
theorem dc_M_nodes_109 : decode co_M_nodes 109 = .ok (.iconst 1, 1) := by decide +kernel
theorem dc_M_nodes_110 : decode co_M_nodes 110 = .ok (.goto 4, 3) := by decide +kernel
theorem dc_M_nodes_113 : decode co_M_nodes 113 = .ok (.iconst 2, 1) := by decide +kernel
theorem dc_M_nodes_114 : decode co_M_nodes 114 = .ok (.istore 5, 2) := by decide +kernel
theorem dc_M_nodes_116 : decode co_M_nodes 116 = .ok (.iload 5, 2) := by decide +kernel
theorem dc_M_nodes_118 : decode co_M_nodes 118 = .ok (.iload_n 1, 1) := by decide +kernel
theorem dc_M_nodes_119 : decode co_M_nodes 119 = .ok (.if_icmp .ne 9, 3) := by decide +kernel
theorem dc_M_nodes_122 : decode co_M_nodes 122 = .ok (.iload_n 2, 1) := by decide +kernel
theorem dc_M_nodes_123 : decode co_M_nodes 123 = .ok (.iconst 1, 1) := by decide +kernel
theorem dc_M_nodes_124 : decode co_M_nodes 124 = .ok (.iadd, 1) := by decide +kernel
theorem dc_M_nodes_125 : decode co_M_nodes 125 = .ok (.goto 4, 3) := by decide +kernel
theorem dc_M_nodes_128 : decode co_M_nodes 128 = .ok (.iload_n 2, 1) := by decide +kernel
theorem dc_M_nodes_129 : decode co_M_nodes 129 = .ok (.istore_n 2, 1) := by decide +kernel
theorem dc_M_nodes_130 : decode co_M_nodes 130 = .ok (.aload_n 0, 1) := by decide +kernel
theorem dc_M_nodes_131 : decode co_M_nodes 131 = .ok (.iload 4, 2) := by decide +kernel
theorem dc_M_nodes_133 : decode co_M_nodes 133 = .ok (.iload_n 3, 1) := by decide +kernel
theorem dc_M_nodes_134 : decode co_M_nodes 134 = .ok (.invokevirtual 191, 3) := by decide +kernel
theorem dc_M_nodes_137 : decode co_M_nodes 137 = .ok (.iinc 4 1, 3) := by decide +kernel
theorem dc_M_nodes_140 : decode co_M_nodes 140 = .ok (.goto (-81), 3) := by decide +kernel
theorem dc_M_nodes_143 : decode co_M_nodes 143 = .ok (.iinc 3 1, 3) := by decide +kernel
theorem dc_M_nodes_146 : decode co_M_nodes 146 = .ok (.goto (-95), 3) := by decide +kernel
theorem dc_M_nodes_149 : decode co_M_nodes 149 = .ok (.iload_n 2, 1) := by decide +kernel
theorem dc_M_nodes_150 : decode co_M_nodes 150 = .ok (.ireturn, 1) := by decide +kernel
theorem dc_M_size_0 : decode co_M_size 0 = .ok (.aload_n 0, 1) := by decide +kernel
theorem dc_M_size_1 : decode co_M_size 1 = .ok (.invokevirtual 188, 3) := by decide +kernel
theorem dc_M_size_4 : decode co_M_size 4 = .ok (.aload_n 0, 1) := by decide +kernel
theorem dc_M_size_5 : decode co_M_size 5 = .ok (.invokevirtual 157, 3) := by decide +kernel
theorem dc_M_size_8 : decode co_M_size 8 = .ok (.aload_n 0, 1) := by decide +kernel
theorem dc_M_size_9 : decode co_M_size 9 = .ok (.getfield 81, 3) := by decide +kernel
theorem dc_M_size_12 : decode co_M_size 12 = .ok (.ireturn, 1) := by decide +kernel
theorem dc_M_keepPart_0 : decode co_M_keepPart 0 = .ok (.iconst 0, 1) := by decide +kernel
theorem dc_M_keepPart_1 : decode co_M_keepPart 1 = .ok (.istore_n 1, 1) := by decide +kernel
theorem dc_M_keepPart_2 : decode co_M_keepPart 2 = .ok (.iload_n 1, 1) := by decide +kernel
theorem dc_M_keepPart_3 : decode co_M_keepPart 3 = .ok (.aload_n 0, 1) := by decide +kernel
theorem dc_M_keepPart_4 : decode co_M_keepPart 4 = .ok (.getfield 81, 3) := by decide +kernel
theorem dc_M_keepPart_7 : decode co_M_keepPart 7 = .ok (.if_icmp .ge 30, 3) := by decide +kernel
theorem dc_M_keepPart_10 : decode co_M_keepPart 10 = .ok (.aload_n 0, 1) := by decide +kernel
theorem dc_M_keepPart_11 : decode co_M_keepPart 11 = .ok (.getfield 48, 3) := by decide +kernel
theorem dc_M_keepPart_14 : decode co_M_keepPart 14 = .ok (.sipush 600, 3) := by decide +kernel
theorem dc_M_keepPart_17 : decode co_M_keepPart 17 = .ok (.aload_n 0, 1) := by decide +kernel
theorem dc_M_keepPart_18 : decode co_M_keepPart 18 = .ok (.getfield 194, 3) := by decide +kernel
theorem dc_M_keepPart_21 : decode co_M_keepPart 21 = .ok (.imul, 1) := by decide +kernel
theorem dc_M_keepPart_22 : decode co_M_keepPart 22 = .ok (.iload_n 1, 1) := by decide +kernel
theorem dc_M_keepPart_23 : decode co_M_keepPart 23 = .ok (.iadd, 1) := by decide +kernel
theorem dc_M_keepPart_24 : decode co_M_keepPart 24 = .ok (.aload_n 0, 1) := by decide +kernel
theorem dc_M_keepPart_25 : decode co_M_keepPart 25 = .ok (.getfield 36, 3) := by decide +kernel
theorem dc_M_keepPart_28 : decode co_M_keepPart 28 = .ok (.iload_n 1, 1) := by decide +kernel
theorem dc_M_keepPart_29 : decode co_M_keepPart 29 = .ok (.iaload, 1) := by decide +kernel
theorem dc_M_keepPart_30 : decode co_M_keepPart 30 = .ok (.iastore, 1) := by decide +kernel
theorem dc_M_keepPart_31 : decode co_M_keepPart 31 = .ok (.iinc 1 1, 3) := by decide +kernel
theorem dc_M_keepPart_34 : decode co_M_keepPart 34 = .ok (.goto (-32), 3) := by decide +kernel
theorem dc_M_keepPart_37 : decode co_M_keepPart 37 = .ok (.aload_n 0, 1) := by decide +kernel
theorem dc_M_keepPart_38 : decode co_M_keepPart 38 = .ok (.getfield 45, 3) := by decide +kernel
theorem dc_M_keepPart_41 : decode co_M_keepPart 41 = .ok (.aload_n 0, 1) := by decide +kernel
theorem dc_M_keepPart_42 : decode co_M_keepPart 42 = .ok (.getfield 194, 3) := by decide +kernel
theorem dc_M_keepPart_45 : decode co_M_keepPart 45 = .ok (.aload_n 0, 1) := by decide +kernel
theorem dc_M_keepPart_46 : decode co_M_keepPart 46 = .ok (.getfield 81, 3) := by decide +kernel
theorem dc_M_keepPart_49 : decode co_M_keepPart 49 = .ok (.iastore, 1) := by decide +kernel
theorem dc_M_keepPart_50 : decode co_M_keepPart 50 = .ok (.aload_n 0, 1) := by decide +kernel
theorem dc_M_keepPart_51 : decode co_M_keepPart 51 = .ok (.dup, 1) := by decide +kernel
theorem dc_M_keepPart_52 : decode co_M_keepPart 52 = .ok (.getfield 194, 3) := by decide +kernel
theorem dc_M_keepPart_55 : decode co_M_keepPart 55 = .ok (.iconst 1, 1) := by decide +kernel
theorem dc_M_keepPart_56 : decode co_M_keepPart 56 = .ok (.iadd, 1) := by decide +kernel
theorem dc_M_keepPart_57 : decode co_M_keepPart 57 = .ok (.putfield 194, 3) := by decide +kernel
theorem dc_M_keepPart_60 : decode co_M_keepPart 60 = .ok (.return_, 1) := by decide +kernel
theorem dc_M_prove_0 : decode co_M_prove 0 = .ok (.iload_n 1, 1) := by decide +kernel
theorem dc_M_prove_1 : decode co_M_prove 1 = .ok (.invokestatic 165, 3) := by decide +kernel
theorem dc_M_prove_4 : decode co_M_prove 4 = .ok (.ifCond .ne 5, 3) := by decide +kernel
theorem dc_M_prove_7 : decode co_M_prove 7 = .ok (.iconst (-1), 1) := by decide +kernel
theorem dc_M_prove_8 : decode co_M_prove 8 = .ok (.ireturn, 1) := by decide +kernel
theorem dc_M_prove_9 : decode co_M_prove 9 = .ok (.aload_n 0, 1) := by decide +kernel
theorem dc_M_prove_10 : decode co_M_prove 10 = .ok (.invokevirtual 188, 3) := by decide +kernel
theorem dc_M_prove_13 : decode co_M_prove 13 = .ok (.aload_n 0, 1) := by decide +kernel
theorem dc_M_prove_14 : decode co_M_prove 14 = .ok (.iconst 0, 1) := by decide +kernel
theorem dc_M_prove_15 : decode co_M_prove 15 = .ok (.putfield 194, 3) := by decide +kernel
theorem dc_M_prove_18 : decode co_M_prove 18 = .ok (.aload_n 0, 1) := by decide +kernel
theorem dc_M_prove_19 : decode co_M_prove 19 = .ok (.invokevirtual 157, 3) := by decide +kernel
theorem dc_M_prove_22 : decode co_M_prove 22 = .ok (.aload_n 0, 1) := by decide +kernel
theorem dc_M_prove_23 : decode co_M_prove 23 = .ok (.invokevirtual 197, 3) := by decide +kernel
theorem dc_M_prove_26 : decode co_M_prove 26 = .ok (.aload_n 0, 1) := by decide +kernel
theorem dc_M_prove_27 : decode co_M_prove 27 = .ok (.getfield 113, 3) := by decide +kernel
theorem dc_M_prove_30 : decode co_M_prove 30 = .ok (.ifCond .le 7, 3) := by decide +kernel
theorem dc_M_prove_33 : decode co_M_prove 33 = .ok (.iconst 0, 1) := by decide +kernel
theorem dc_M_prove_34 : decode co_M_prove 34 = .ok (.goto 4, 3) := by decide +kernel
theorem dc_M_prove_37 : decode co_M_prove 37 = .ok (.iconst (-1), 1) := by decide +kernel
theorem dc_M_prove_38 : decode co_M_prove 38 = .ok (.istore_n 2, 1) := by decide +kernel
theorem dc_M_prove_39 : decode co_M_prove 39 = .ok (.iconst 0, 1) := by decide +kernel
theorem dc_M_prove_40 : decode co_M_prove 40 = .ok (.istore_n 3, 1) := by decide +kernel
theorem dc_M_prove_41 : decode co_M_prove 41 = .ok (.iload_n 2, 1) := by decide +kernel
theorem dc_M_prove_42 : decode co_M_prove 42 = .ok (.ifCond .lt 79, 3) := by decide +kernel
theorem dc_M_prove_45 : decode co_M_prove 45 = .ok (.aload_n 0, 1) := by decide +kernel
theorem dc_M_prove_46 : decode co_M_prove 46 = .ok (.iload_n 2, 1) := by decide +kernel
theorem dc_M_prove_47 : decode co_M_prove 47 = .ok (.iload_n 3, 1) := by decide +kernel
theorem dc_M_prove_48 : decode co_M_prove 48 = .ok (.invokevirtual 123, 3) := by decide +kernel
theorem dc_M_prove_51 : decode co_M_prove 51 = .ok (.istore 4, 2) := by decide +kernel
theorem dc_M_prove_53 : decode co_M_prove 53 = .ok (.aload_n 0, 1) := by decide +kernel
theorem dc_M_prove_54 : decode co_M_prove 54 = .ok (.iload_n 2, 1) := by decide +kernel
theorem dc_M_prove_55 : decode co_M_prove 55 = .ok (.iload_n 3, 1) := by decide +kernel
theorem dc_M_prove_56 : decode co_M_prove 56 = .ok (.invokevirtual 120, 3) := by decide +kernel
theorem dc_M_prove_59 : decode co_M_prove 59 = .ok (.iconst 1, 1) := by decide +kernel
theorem dc_M_prove_60 : decode co_M_prove 60 = .ok (.if_icmp .ne 8, 3) := by decide +kernel
theorem dc_M_prove_63 : decode co_M_prove 63 = .ok (.iconst (-1), 1) := by decide +kernel
theorem dc_M_prove_64 : decode co_M_prove 64 = .ok (.istore_n 2, 1) := by decide +kernel
theorem dc_M_prove_65 : decode co_M_prove 65 = .ok (.goto 53, 3) := by decide +kernel
theorem dc_M_prove_68 : decode co_M_prove 68 = .ok (.iload 4, 2) := by decide +kernel
theorem dc_M_prove_70 : decode co_M_prove 70 = .ok (.iload_n 3, 1) := by decide +kernel
theorem dc_M_prove_71 : decode co_M_prove 71 = .ok (.if_icmp .le 8, 3) := by decide +kernel
theorem dc_M_prove_74 : decode co_M_prove 74 = .ok (.iload 4, 2) := by decide +kernel
theorem dc_M_prove_76 : decode co_M_prove 76 = .ok (.goto 6, 3) := by decide +kernel
theorem dc_M_prove_79 : decode co_M_prove 79 = .ok (.iload_n 3, 1) := by decide +kernel
theorem dc_M_prove_80 : decode co_M_prove 80 = .ok (.iconst 1, 1) := by decide +kernel
theorem dc_M_prove_81 : decode co_M_prove 81 = .ok (.iadd, 1) := by decide +kernel
theorem dc_M_prove_82 : decode co_M_prove 82 = .ok (.istore_n 3, 1) := by decide +kernel
theorem dc_M_prove_83 : decode co_M_prove 83 = .ok (.aload_n 0, 1) := by decide +kernel
theorem dc_M_prove_84 : decode co_M_prove 84 = .ok (.iload_n 1, 1) := by decide +kernel
theorem dc_M_prove_85 : decode co_M_prove 85 = .ok (.iload_n 3, 1) := by decide +kernel
theorem dc_M_prove_86 : decode co_M_prove 86 = .ok (.invokevirtual 138, 3) := by decide +kernel
theorem dc_M_prove_89 : decode co_M_prove 89 = .ok (.istore_n 2, 1) := by decide +kernel
theorem dc_M_prove_90 : decode co_M_prove 90 = .ok (.iload_n 2, 1) := by decide +kernel
theorem dc_M_prove_91 : decode co_M_prove 91 = .ok (.ifCond .lt 27, 3) := by decide +kernel
theorem dc_M_prove_94 : decode co_M_prove 94 = .ok (.aload_n 0, 1) := by decide +kernel
theorem dc_M_prove_95 : decode co_M_prove 95 = .ok (.getfield 26, 3) := by decide +kernel
theorem dc_M_prove_98 : decode co_M_prove 98 = .ok (.bipush 12, 2) := by decide +kernel
theorem dc_M_prove_100 : decode co_M_prove 100 = .ok (.iload_n 3, 1) := by decide +kernel
theorem dc_M_prove_101 : decode co_M_prove 101 = .ok (.imul, 1) := by decide +kernel
theorem dc_M_prove_102 : decode co_M_prove 102 = .ok (.iload_n 2, 1) := by decide +kernel
theorem dc_M_prove_103 : decode co_M_prove 103 = .ok (.iadd, 1) := by decide +kernel
theorem dc_M_prove_104 : decode co_M_prove 104 = .ok (.baload, 1) := by decide +kernel
theorem dc_M_prove_105 : decode co_M_prove 105 = .ok (.ifCond .eq 13, 3) := by decide +kernel
theorem dc_M_prove_108 : decode co_M_prove 108 = .ok (.aload_n 0, 1) := by decide +kernel
theorem dc_M_prove_109 : decode co_M_prove 109 = .ok (.iload_n 2, 1) := by decide +kernel
theorem dc_M_prove_110 : decode co_M_prove 110 = .ok (.iload_n 3, 1) := by decide +kernel
theorem dc_M_prove_111 : decode co_M_prove 111 = .ok (.invokevirtual 147, 3) := by decide +kernel
theorem dc_M_prove_114 : decode co_M_prove 114 = .ok (.aload_n 0, 1) := by decide +kernel
theorem dc_M_prove_115 : decode co_M_prove 115 = .ok (.invokevirtual 197, 3) := by decide +kernel
theorem dc_M_prove_118 : decode co_M_prove 118 = .ok (.goto (-77), 3) := by decide +kernel
theorem dc_M_prove_121 : decode co_M_prove 121 = .ok (.aload_n 0, 1) := by decide +kernel
theorem dc_M_prove_122 : decode co_M_prove 122 = .ok (.getfield 194, 3) := by decide +kernel
theorem dc_M_prove_125 : decode co_M_prove 125 = .ok (.ireturn, 1) := by decide +kernel
theorem dc_M_parts_0 : decode co_M_parts 0 = .ok (.aload_n 0, 1) := by decide +kernel
theorem dc_M_parts_1 : decode co_M_parts 1 = .ok (.getfield 194, 3) := by decide +kernel
theorem dc_M_parts_4 : decode co_M_parts 4 = .ok (.ireturn, 1) := by decide +kernel
theorem dc_M_isByte_0 : decode co_M_isByte 0 = .ok (.iload_n 1, 1) := by decide +kernel
theorem dc_M_isByte_1 : decode co_M_isByte 1 = .ok (.ifCond .lt 29, 3) := by decide +kernel
theorem dc_M_isByte_4 : decode co_M_isByte 4 = .ok (.iload_n 1, 1) := by decide +kernel
theorem dc_M_isByte_5 : decode co_M_isByte 5 = .ok (.aload_n 0, 1) := by decide +kernel
theorem dc_M_isByte_6 : decode co_M_isByte 6 = .ok (.getfield 194, 3) := by decide +kernel
theorem dc_M_isByte_9 : decode co_M_isByte 9 = .ok (.if_icmp .ge 21, 3) := by decide +kernel
theorem dc_M_isByte_12 : decode co_M_isByte 12 = .ok (.iload_n 2, 1) := by decide +kernel
theorem dc_M_isByte_13 : decode co_M_isByte 13 = .ok (.ifCond .lt 17, 3) := by decide +kernel
theorem dc_M_isByte_16 : decode co_M_isByte 16 = .ok (.iload_n 2, 1) := by decide +kernel
theorem dc_M_isByte_17 : decode co_M_isByte 17 = .ok (.aload_n 0, 1) := by decide +kernel
theorem dc_M_isByte_18 : decode co_M_isByte 18 = .ok (.getfield 45, 3) := by decide +kernel
theorem dc_M_isByte_21 : decode co_M_isByte 21 = .ok (.iload_n 1, 1) := by decide +kernel
theorem dc_M_isByte_22 : decode co_M_isByte 22 = .ok (.iaload, 1) := by decide +kernel
theorem dc_M_isByte_23 : decode co_M_isByte 23 = .ok (.if_icmp .ge 7, 3) := by decide +kernel
theorem dc_M_isByte_26 : decode co_M_isByte 26 = .ok (.iconst 1, 1) := by decide +kernel
theorem dc_M_isByte_27 : decode co_M_isByte 27 = .ok (.goto 4, 3) := by decide +kernel
theorem dc_M_isByte_30 : decode co_M_isByte 30 = .ok (.iconst 0, 1) := by decide +kernel
theorem dc_M_isByte_31 : decode co_M_isByte 31 = .ok (.ireturn, 1) := by decide +kernel
theorem dc_M_length_0 : decode co_M_length 0 = .ok (.iload_n 1, 1) := by decide +kernel
theorem dc_M_length_1 : decode co_M_length 1 = .ok (.ifCond .lt 20, 3) := by decide +kernel
theorem dc_M_length_4 : decode co_M_length 4 = .ok (.iload_n 1, 1) := by decide +kernel
theorem dc_M_length_5 : decode co_M_length 5 = .ok (.aload_n 0, 1) := by decide +kernel
theorem dc_M_length_6 : decode co_M_length 6 = .ok (.getfield 194, 3) := by decide +kernel
theorem dc_M_length_9 : decode co_M_length 9 = .ok (.if_icmp .ge 12, 3) := by decide +kernel
theorem dc_M_length_12 : decode co_M_length 12 = .ok (.aload_n 0, 1) := by decide +kernel
theorem dc_M_length_13 : decode co_M_length 13 = .ok (.getfield 45, 3) := by decide +kernel
theorem dc_M_length_16 : decode co_M_length 16 = .ok (.iload_n 1, 1) := by decide +kernel
theorem dc_M_length_17 : decode co_M_length 17 = .ok (.iaload, 1) := by decide +kernel
theorem dc_M_length_18 : decode co_M_length 18 = .ok (.goto 4, 3) := by decide +kernel
theorem dc_M_length_21 : decode co_M_length 21 = .ok (.iconst (-1), 1) := by decide +kernel
theorem dc_M_length_22 : decode co_M_length 22 = .ok (.ireturn, 1) := by decide +kernel
theorem dc_M_part_0 : decode co_M_part 0 = .ok (.aload_n 0, 1) := by decide +kernel
theorem dc_M_part_1 : decode co_M_part 1 = .ok (.iload_n 1, 1) := by decide +kernel
theorem dc_M_part_2 : decode co_M_part 2 = .ok (.iload_n 2, 1) := by decide +kernel
theorem dc_M_part_3 : decode co_M_part 3 = .ok (.invokevirtual 200, 3) := by decide +kernel
theorem dc_M_part_6 : decode co_M_part 6 = .ok (.ifCond .eq 18, 3) := by decide +kernel
theorem dc_M_part_9 : decode co_M_part 9 = .ok (.aload_n 0, 1) := by decide +kernel
theorem dc_M_part_10 : decode co_M_part 10 = .ok (.getfield 48, 3) := by decide +kernel
theorem dc_M_part_13 : decode co_M_part 13 = .ok (.sipush 600, 3) := by decide +kernel
theorem dc_M_part_16 : decode co_M_part 16 = .ok (.iload_n 1, 1) := by decide +kernel
theorem dc_M_part_17 : decode co_M_part 17 = .ok (.imul, 1) := by decide +kernel
theorem dc_M_part_18 : decode co_M_part 18 = .ok (.iload_n 2, 1) := by decide +kernel
theorem dc_M_part_19 : decode co_M_part 19 = .ok (.iadd, 1) := by decide +kernel
theorem dc_M_part_20 : decode co_M_part 20 = .ok (.iaload, 1) := by decide +kernel
theorem dc_M_part_21 : decode co_M_part 21 = .ok (.goto 4, 3) := by decide +kernel
theorem dc_M_part_24 : decode co_M_part 24 = .ok (.iconst (-1), 1) := by decide +kernel
theorem dc_M_part_25 : decode co_M_part 25 = .ok (.ireturn, 1) := by decide +kernel
theorem dc_M_alter_0 : decode co_M_alter 0 = .ok (.aload_n 0, 1) := by decide +kernel
theorem dc_M_alter_1 : decode co_M_alter 1 = .ok (.iload_n 1, 1) := by decide +kernel
theorem dc_M_alter_2 : decode co_M_alter 2 = .ok (.iload_n 2, 1) := by decide +kernel
theorem dc_M_alter_3 : decode co_M_alter 3 = .ok (.invokevirtual 200, 3) := by decide +kernel
theorem dc_M_alter_6 : decode co_M_alter 6 = .ok (.ifCond .eq 14, 3) := by decide +kernel
theorem dc_M_alter_9 : decode co_M_alter 9 = .ok (.iload_n 3, 1) := by decide +kernel
theorem dc_M_alter_10 : decode co_M_alter 10 = .ok (.ifCond .lt 10, 3) := by decide +kernel
theorem dc_M_alter_13 : decode co_M_alter 13 = .ok (.iload_n 3, 1) := by decide +kernel
theorem dc_M_alter_14 : decode co_M_alter 14 = .ok (.sipush 255, 3) := by decide +kernel
theorem dc_M_alter_17 : decode co_M_alter 17 = .ok (.if_icmp .le 5, 3) := by decide +kernel
theorem dc_M_alter_20 : decode co_M_alter 20 = .ok (.iconst 0, 1) := by decide +kernel
theorem dc_M_alter_21 : decode co_M_alter 21 = .ok (.ireturn, 1) := by decide +kernel
theorem dc_M_alter_22 : decode co_M_alter 22 = .ok (.aload_n 0, 1) := by decide +kernel
theorem dc_M_alter_23 : decode co_M_alter 23 = .ok (.getfield 48, 3) := by decide +kernel
theorem dc_M_alter_26 : decode co_M_alter 26 = .ok (.sipush 600, 3) := by decide +kernel
theorem dc_M_alter_29 : decode co_M_alter 29 = .ok (.iload_n 1, 1) := by decide +kernel
theorem dc_M_alter_30 : decode co_M_alter 30 = .ok (.imul, 1) := by decide +kernel
theorem dc_M_alter_31 : decode co_M_alter 31 = .ok (.iload_n 2, 1) := by decide +kernel
theorem dc_M_alter_32 : decode co_M_alter 32 = .ok (.iadd, 1) := by decide +kernel
theorem dc_M_alter_33 : decode co_M_alter 33 = .ok (.iaload, 1) := by decide +kernel
theorem dc_M_alter_34 : decode co_M_alter 34 = .ok (.iload_n 3, 1) := by decide +kernel
theorem dc_M_alter_35 : decode co_M_alter 35 = .ok (.if_icmp .eq 7, 3) := by decide +kernel
theorem dc_M_alter_38 : decode co_M_alter 38 = .ok (.iconst 1, 1) := by decide +kernel
theorem dc_M_alter_39 : decode co_M_alter 39 = .ok (.goto 4, 3) := by decide +kernel
theorem dc_M_alter_42 : decode co_M_alter 42 = .ok (.iconst 0, 1) := by decide +kernel
theorem dc_M_alter_43 : decode co_M_alter 43 = .ok (.istore 4, 2) := by decide +kernel
theorem dc_M_alter_45 : decode co_M_alter 45 = .ok (.aload_n 0, 1) := by decide +kernel
theorem dc_M_alter_46 : decode co_M_alter 46 = .ok (.getfield 48, 3) := by decide +kernel
theorem dc_M_alter_49 : decode co_M_alter 49 = .ok (.sipush 600, 3) := by decide +kernel
theorem dc_M_alter_52 : decode co_M_alter 52 = .ok (.iload_n 1, 1) := by decide +kernel
theorem dc_M_alter_53 : decode co_M_alter 53 = .ok (.imul, 1) := by decide +kernel
theorem dc_M_alter_54 : decode co_M_alter 54 = .ok (.iload_n 2, 1) := by decide +kernel
theorem dc_M_alter_55 : decode co_M_alter 55 = .ok (.iadd, 1) := by decide +kernel
theorem dc_M_alter_56 : decode co_M_alter 56 = .ok (.iload_n 3, 1) := by decide +kernel
theorem dc_M_alter_57 : decode co_M_alter 57 = .ok (.iastore, 1) := by decide +kernel
theorem dc_M_alter_58 : decode co_M_alter 58 = .ok (.iload 4, 2) := by decide +kernel
theorem dc_M_alter_60 : decode co_M_alter 60 = .ok (.ireturn, 1) := by decide +kernel
theorem dc_M_shorten_0 : decode co_M_shorten 0 = .ok (.aload_n 0, 1) := by decide +kernel
theorem dc_M_shorten_1 : decode co_M_shorten 1 = .ok (.getfield 194, 3) := by decide +kernel
theorem dc_M_shorten_4 : decode co_M_shorten 4 = .ok (.ifCond .ne 5, 3) := by decide +kernel
theorem dc_M_shorten_7 : decode co_M_shorten 7 = .ok (.iconst (-1), 1) := by decide +kernel
theorem dc_M_shorten_8 : decode co_M_shorten 8 = .ok (.ireturn, 1) := by decide +kernel
theorem dc_M_shorten_9 : decode co_M_shorten 9 = .ok (.aload_n 0, 1) := by decide +kernel
theorem dc_M_shorten_10 : decode co_M_shorten 10 = .ok (.dup, 1) := by decide +kernel
theorem dc_M_shorten_11 : decode co_M_shorten 11 = .ok (.getfield 194, 3) := by decide +kernel
theorem dc_M_shorten_14 : decode co_M_shorten 14 = .ok (.iconst 1, 1) := by decide +kernel
theorem dc_M_shorten_15 : decode co_M_shorten 15 = .ok (.isub, 1) := by decide +kernel
theorem dc_M_shorten_16 : decode co_M_shorten 16 = .ok (.putfield 194, 3) := by decide +kernel
theorem dc_M_shorten_19 : decode co_M_shorten 19 = .ok (.aload_n 0, 1) := by decide +kernel
theorem dc_M_shorten_20 : decode co_M_shorten 20 = .ok (.getfield 194, 3) := by decide +kernel
theorem dc_M_shorten_23 : decode co_M_shorten 23 = .ok (.ireturn, 1) := by decide +kernel
theorem dc_M_byteOf_0 : decode co_M_byteOf 0 = .ok (.iload_n 2, 1) := by decide +kernel
theorem dc_M_byteOf_1 : decode co_M_byteOf 1 = .ok (.aload_n 0, 1) := by decide +kernel
theorem dc_M_byteOf_2 : decode co_M_byteOf 2 = .ok (.getfield 45, 3) := by decide +kernel
theorem dc_M_byteOf_5 : decode co_M_byteOf 5 = .ok (.iload_n 1, 1) := by decide +kernel
theorem dc_M_byteOf_6 : decode co_M_byteOf 6 = .ok (.iaload, 1) := by decide +kernel
theorem dc_M_byteOf_7 : decode co_M_byteOf 7 = .ok (.if_icmp .ge 18, 3) := by decide +kernel
theorem dc_M_byteOf_10 : decode co_M_byteOf 10 = .ok (.aload_n 0, 1) := by decide +kernel
theorem dc_M_byteOf_11 : decode co_M_byteOf 11 = .ok (.getfield 48, 3) := by decide +kernel
theorem dc_M_byteOf_14 : decode co_M_byteOf 14 = .ok (.sipush 600, 3) := by decide +kernel
theorem dc_M_byteOf_17 : decode co_M_byteOf 17 = .ok (.iload_n 1, 1) := by decide +kernel
theorem dc_M_byteOf_18 : decode co_M_byteOf 18 = .ok (.imul, 1) := by decide +kernel
theorem dc_M_byteOf_19 : decode co_M_byteOf 19 = .ok (.iload_n 2, 1) := by decide +kernel
theorem dc_M_byteOf_20 : decode co_M_byteOf 20 = .ok (.iadd, 1) := by decide +kernel
theorem dc_M_byteOf_21 : decode co_M_byteOf 21 = .ok (.iaload, 1) := by decide +kernel
theorem dc_M_byteOf_22 : decode co_M_byteOf 22 = .ok (.goto 4, 3) := by decide +kernel
theorem dc_M_byteOf_25 : decode co_M_byteOf 25 = .ok (.iconst 0, 1) := by decide +kernel
theorem dc_M_byteOf_26 : decode co_M_byteOf 26 = .ok (.ireturn, 1) := by decide +kernel
theorem dc_M_itemEnd_0 : decode co_M_itemEnd 0 = .ok (.aload_n 0, 1) := by decide +kernel
theorem dc_M_itemEnd_1 : decode co_M_itemEnd 1 = .ok (.iload_n 1, 1) := by decide +kernel
theorem dc_M_itemEnd_2 : decode co_M_itemEnd 2 = .ok (.iload_n 2, 1) := by decide +kernel
theorem dc_M_itemEnd_3 : decode co_M_itemEnd 3 = .ok (.invokevirtual 204, 3) := by decide +kernel
theorem dc_M_itemEnd_6 : decode co_M_itemEnd 6 = .ok (.istore_n 3, 1) := by decide +kernel
theorem dc_M_itemEnd_7 : decode co_M_itemEnd 7 = .ok (.iload_n 3, 1) := by decide +kernel
theorem dc_M_itemEnd_8 : decode co_M_itemEnd 8 = .ok (.sipush 128, 3) := by decide +kernel
theorem dc_M_itemEnd_11 : decode co_M_itemEnd 11 = .ok (.if_icmp .ge 7, 3) := by decide +kernel
theorem dc_M_itemEnd_14 : decode co_M_itemEnd 14 = .ok (.iconst 0, 1) := by decide +kernel
theorem dc_M_itemEnd_15 : decode co_M_itemEnd 15 = .ok (.goto 41, 3) := by decide +kernel
theorem dc_M_itemEnd_18 : decode co_M_itemEnd 18 = .ok (.iload_n 3, 1) := by decide +kernel
theorem dc_M_itemEnd_19 : decode co_M_itemEnd 19 = .ok (.sipush 184, 3) := by decide +kernel
theorem dc_M_itemEnd_22 : decode co_M_itemEnd 22 = .ok (.if_icmp .ge 11, 3) := by decide +kernel
theorem dc_M_itemEnd_25 : decode co_M_itemEnd 25 = .ok (.iload_n 3, 1) := by decide +kernel
theorem dc_M_itemEnd_26 : decode co_M_itemEnd 26 = .ok (.sipush 128, 3) := by decide +kernel
theorem dc_M_itemEnd_29 : decode co_M_itemEnd 29 = .ok (.isub, 1) := by decide +kernel
theorem dc_M_itemEnd_30 : decode co_M_itemEnd 30 = .ok (.goto 26, 3) := by decide +kernel
theorem dc_M_itemEnd_33 : decode co_M_itemEnd 33 = .ok (.iload_n 3, 1) := by decide +kernel
theorem dc_M_itemEnd_34 : decode co_M_itemEnd 34 = .ok (.sipush 191, 3) := by decide +kernel
theorem dc_M_itemEnd_37 : decode co_M_itemEnd 37 = .ok (.if_icmp .le 18, 3) := by decide +kernel
theorem dc_M_itemEnd_40 : decode co_M_itemEnd 40 = .ok (.iload_n 3, 1) := by decide +kernel
theorem dc_M_itemEnd_41 : decode co_M_itemEnd 41 = .ok (.sipush 248, 3) := by decide +kernel
theorem dc_M_itemEnd_44 : decode co_M_itemEnd 44 = .ok (.if_icmp .ge 11, 3) := by decide +kernel
theorem dc_M_itemEnd_47 : decode co_M_itemEnd 47 = .ok (.iload_n 3, 1) := by decide +kernel
theorem dc_M_itemEnd_48 : decode co_M_itemEnd 48 = .ok (.sipush 192, 3) := by decide +kernel
theorem dc_M_itemEnd_51 : decode co_M_itemEnd 51 = .ok (.isub, 1) := by decide +kernel
theorem dc_M_itemEnd_52 : decode co_M_itemEnd 52 = .ok (.goto 4, 3) := by decide +kernel
theorem dc_M_itemEnd_55 : decode co_M_itemEnd 55 = .ok (.iconst (-1), 1) := by decide +kernel
theorem dc_M_itemEnd_56 : decode co_M_itemEnd 56 = .ok (.istore 4, 2) := by decide +kernel
theorem dc_M_itemEnd_58 : decode co_M_itemEnd 58 = .ok (.iload 4, 2) := by decide +kernel
theorem dc_M_itemEnd_60 : decode co_M_itemEnd 60 = .ok (.ifCond .ge 7, 3) := by decide +kernel
theorem dc_M_itemEnd_63 : decode co_M_itemEnd 63 = .ok (.iconst (-1), 1) := by decide +kernel
theorem dc_M_itemEnd_64 : decode co_M_itemEnd 64 = .ok (.goto 9, 3) := by decide +kernel
theorem dc_M_itemEnd_67 : decode co_M_itemEnd 67 = .ok (.iload_n 2, 1) := by decide +kernel
theorem dc_M_itemEnd_68 : decode co_M_itemEnd 68 = .ok (.iconst 1, 1) := by decide +kernel
theorem dc_M_itemEnd_69 : decode co_M_itemEnd 69 = .ok (.iadd, 1) := by decide +kernel
theorem dc_M_itemEnd_70 : decode co_M_itemEnd 70 = .ok (.iload 4, 2) := by decide +kernel
theorem dc_M_itemEnd_72 : decode co_M_itemEnd 72 = .ok (.iadd, 1) := by decide +kernel
theorem dc_M_itemEnd_73 : decode co_M_itemEnd 73 = .ok (.ireturn, 1) := by decide +kernel
theorem dc_M_itemBytes_0 : decode co_M_itemBytes 0 = .ok (.aload_n 0, 1) := by decide +kernel
theorem dc_M_itemBytes_1 : decode co_M_itemBytes 1 = .ok (.iload_n 1, 1) := by decide +kernel
theorem dc_M_itemBytes_2 : decode co_M_itemBytes 2 = .ok (.iload_n 2, 1) := by decide +kernel
theorem dc_M_itemBytes_3 : decode co_M_itemBytes 3 = .ok (.invokevirtual 204, 3) := by decide +kernel
theorem dc_M_itemBytes_6 : decode co_M_itemBytes 6 = .ok (.sipush 128, 3) := by decide +kernel
theorem dc_M_itemBytes_9 : decode co_M_itemBytes 9 = .ok (.if_icmp .ge 7, 3) := by decide +kernel
theorem dc_M_itemBytes_12 : decode co_M_itemBytes 12 = .ok (.iload_n 2, 1) := by decide +kernel
theorem dc_M_itemBytes_13 : decode co_M_itemBytes 13 = .ok (.goto 6, 3) := by decide +kernel
theorem dc_M_itemBytes_16 : decode co_M_itemBytes 16 = .ok (.iload_n 2, 1) := by decide +kernel
theorem dc_M_itemBytes_17 : decode co_M_itemBytes 17 = .ok (.iconst 1, 1) := by decide +kernel
theorem dc_M_itemBytes_18 : decode co_M_itemBytes 18 = .ok (.iadd, 1) := by decide +kernel
theorem dc_M_itemBytes_19 : decode co_M_itemBytes 19 = .ok (.ireturn, 1) := by decide +kernel
theorem dc_M_nodeItems_0 : decode co_M_nodeItems 0 = .ok (.aload_n 0, 1) := by decide +kernel
theorem dc_M_nodeItems_1 : decode co_M_nodeItems 1 = .ok (.iload_n 1, 1) := by decide +kernel
theorem dc_M_nodeItems_2 : decode co_M_nodeItems 2 = .ok (.iload_n 2, 1) := by decide +kernel
theorem dc_M_nodeItems_3 : decode co_M_nodeItems 3 = .ok (.invokevirtual 204, 3) := by decide +kernel
theorem dc_M_nodeItems_6 : decode co_M_nodeItems 6 = .ok (.istore_n 3, 1) := by decide +kernel
theorem dc_M_nodeItems_7 : decode co_M_nodeItems 7 = .ok (.iload_n 3, 1) := by decide +kernel
theorem dc_M_nodeItems_8 : decode co_M_nodeItems 8 = .ok (.sipush 192, 3) := by decide +kernel
theorem dc_M_nodeItems_11 : decode co_M_nodeItems 11 = .ok (.if_icmp .lt 10, 3) := by decide +kernel
theorem dc_M_nodeItems_14 : decode co_M_nodeItems 14 = .ok (.iload_n 3, 1) := by decide +kernel
theorem dc_M_nodeItems_15 : decode co_M_nodeItems 15 = .ok (.sipush 249, 3) := by decide +kernel
theorem dc_M_nodeItems_18 : decode co_M_nodeItems 18 = .ok (.if_icmp .le 7, 3) := by decide +kernel
theorem dc_M_nodeItems_21 : decode co_M_nodeItems 21 = .ok (.iconst (-1), 1) := by decide +kernel
theorem dc_M_nodeItems_22 : decode co_M_nodeItems 22 = .ok (.goto 32, 3) := by decide +kernel
theorem dc_M_nodeItems_25 : decode co_M_nodeItems 25 = .ok (.iload_n 3, 1) := by decide +kernel
theorem dc_M_nodeItems_26 : decode co_M_nodeItems 26 = .ok (.sipush 249, 3) := by decide +kernel
theorem dc_M_nodeItems_29 : decode co_M_nodeItems 29 = .ok (.if_icmp .ne 9, 3) := by decide +kernel
theorem dc_M_nodeItems_32 : decode co_M_nodeItems 32 = .ok (.iload_n 2, 1) := by decide +kernel
theorem dc_M_nodeItems_33 : decode co_M_nodeItems 33 = .ok (.iconst 3, 1) := by decide +kernel
theorem dc_M_nodeItems_34 : decode co_M_nodeItems 34 = .ok (.iadd, 1) := by decide +kernel
theorem dc_M_nodeItems_35 : decode co_M_nodeItems 35 = .ok (.goto 19, 3) := by decide +kernel
theorem dc_M_nodeItems_38 : decode co_M_nodeItems 38 = .ok (.iload_n 3, 1) := by decide +kernel
theorem dc_M_nodeItems_39 : decode co_M_nodeItems 39 = .ok (.sipush 248, 3) := by decide +kernel
theorem dc_M_nodeItems_42 : decode co_M_nodeItems 42 = .ok (.if_icmp .ne 9, 3) := by decide +kernel
theorem dc_M_nodeItems_45 : decode co_M_nodeItems 45 = .ok (.iload_n 2, 1) := by decide +kernel
theorem dc_M_nodeItems_46 : decode co_M_nodeItems 46 = .ok (.iconst 2, 1) := by decide +kernel
theorem dc_M_nodeItems_47 : decode co_M_nodeItems 47 = .ok (.iadd, 1) := by decide +kernel
theorem dc_M_nodeItems_48 : decode co_M_nodeItems 48 = .ok (.goto 6, 3) := by decide +kernel
theorem dc_M_nodeItems_51 : decode co_M_nodeItems 51 = .ok (.iload_n 2, 1) := by decide +kernel
theorem dc_M_nodeItems_52 : decode co_M_nodeItems 52 = .ok (.iconst 1, 1) := by decide +kernel
theorem dc_M_nodeItems_53 : decode co_M_nodeItems 53 = .ok (.iadd, 1) := by decide +kernel
theorem dc_M_nodeItems_54 : decode co_M_nodeItems 54 = .ok (.ireturn, 1) := by decide +kernel
theorem dc_M_nodeBytes_0 : decode co_M_nodeBytes 0 = .ok (.aload_n 0, 1) := by decide +kernel
theorem dc_M_nodeBytes_1 : decode co_M_nodeBytes 1 = .ok (.iload_n 1, 1) := by decide +kernel
theorem dc_M_nodeBytes_2 : decode co_M_nodeBytes 2 = .ok (.iload_n 2, 1) := by decide +kernel
theorem dc_M_nodeBytes_3 : decode co_M_nodeBytes 3 = .ok (.invokevirtual 204, 3) := by decide +kernel
theorem dc_M_nodeBytes_6 : decode co_M_nodeBytes 6 = .ok (.istore_n 3, 1) := by decide +kernel
theorem dc_M_nodeBytes_7 : decode co_M_nodeBytes 7 = .ok (.iload_n 3, 1) := by decide +kernel
theorem dc_M_nodeBytes_8 : decode co_M_nodeBytes 8 = .ok (.sipush 249, 3) := by decide +kernel
theorem dc_M_nodeBytes_11 : decode co_M_nodeBytes 11 = .ok (.if_icmp .ne 27, 3) := by decide +kernel
theorem dc_M_nodeBytes_14 : decode co_M_nodeBytes 14 = .ok (.sipush 256, 3) := by decide +kernel
theorem dc_M_nodeBytes_17 : decode co_M_nodeBytes 17 = .ok (.aload_n 0, 1) := by decide +kernel
