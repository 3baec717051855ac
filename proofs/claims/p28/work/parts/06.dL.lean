theorem dL_dice_0 : decode cL_dice 0 = .ok (.iload_n 1, 1) := by decide +kernel
theorem dL_dice_1 : decode cL_dice 1 = .ok (.aload_n 0, 1) := by decide +kernel
theorem dL_dice_2 : decode cL_dice 2 = .ok (.arraylength, 1) := by decide +kernel
theorem dL_dice_3 : decode cL_dice 3 = .ok (.if_icmp .ge 9, 3) := by decide +kernel
theorem dL_dice_6 : decode cL_dice 6 = .ok (.aload_n 0, 1) := by decide +kernel
theorem dL_dice_7 : decode cL_dice 7 = .ok (.iload_n 1, 1) := by decide +kernel
theorem dL_dice_8 : decode cL_dice 8 = .ok (.iaload, 1) := by decide +kernel
theorem dL_dice_9 : decode cL_dice 9 = .ok (.goto 23, 3) := by decide +kernel
theorem dL_dice_12 : decode cL_dice 12 = .ok (.ldc 7, 2) := by decide +kernel
theorem dL_dice_14 : decode cL_dice 14 = .ok (.iload_n 1, 1) := by decide +kernel
theorem dL_dice_15 : decode cL_dice 15 = .ok (.sipush 631, 3) := by decide +kernel
theorem dL_dice_18 : decode cL_dice 18 = .ok (.iadd, 1) := by decide +kernel
theorem dL_dice_19 : decode cL_dice 19 = .ok (.imul, 1) := by decide +kernel
theorem dL_dice_20 : decode cL_dice 20 = .ok (.sipush 965, 3) := by decide +kernel
theorem dL_dice_23 : decode cL_dice 23 = .ok (.iload_n 1, 1) := by decide +kernel
theorem dL_dice_24 : decode cL_dice 24 = .ok (.imul, 1) := by decide +kernel
theorem dL_dice_25 : decode cL_dice 25 = .ok (.iload_n 1, 1) := by decide +kernel
theorem dL_dice_26 : decode cL_dice 26 = .ok (.imul, 1) := by decide +kernel
theorem dL_dice_27 : decode cL_dice 27 = .ok (.iadd, 1) := by decide +kernel
theorem dL_dice_28 : decode cL_dice 28 = .ok (.sipush 491, 3) := by decide +kernel
theorem dL_dice_31 : decode cL_dice 31 = .ok (.iadd, 1) := by decide +kernel
theorem dL_dice_32 : decode cL_dice 32 = .ok (.ldc 8, 2) := by decide +kernel
theorem dL_dice_34 : decode cL_dice 34 = .ok (.iand, 1) := by decide +kernel
theorem dL_dice_35 : decode cL_dice 35 = .ok (.ireturn, 1) := by decide +kernel
theorem dL_act_0 : decode cL_act 0 = .ok (.iload_n 1, 1) := by decide +kernel
theorem dL_act_1 : decode cL_act 1 = .ok (.ifCond .ne 12, 3) := by decide +kernel
theorem dL_act_4 : decode cL_act 4 = .ok (.aload_n 0, 1) := by decide +kernel
theorem dL_act_5 : decode cL_act 5 = .ok (.iload_n 2, 1) := by decide +kernel
theorem dL_act_6 : decode cL_act 6 = .ok (.iload_n 3, 1) := by decide +kernel
theorem dL_act_7 : decode cL_act 7 = .ok (.invokevirtual 9, 3) := by decide +kernel
theorem dL_act_10 : decode cL_act 10 = .ok (.goto 342, 3) := by decide +kernel
theorem dL_act_13 : decode cL_act 13 = .ok (.iload_n 1, 1) := by decide +kernel
theorem dL_act_14 : decode cL_act 14 = .ok (.iconst 1, 1) := by decide +kernel
theorem dL_act_15 : decode cL_act 15 = .ok (.if_icmp .ne 12, 3) := by decide +kernel
theorem dL_act_18 : decode cL_act 18 = .ok (.aload_n 0, 1) := by decide +kernel
theorem dL_act_19 : decode cL_act 19 = .ok (.iload_n 2, 1) := by decide +kernel
theorem dL_act_20 : decode cL_act 20 = .ok (.iload_n 3, 1) := by decide +kernel
theorem dL_act_21 : decode cL_act 21 = .ok (.invokestatic 15, 3) := by decide +kernel
theorem dL_act_24 : decode cL_act 24 = .ok (.goto 328, 3) := by decide +kernel
theorem dL_act_27 : decode cL_act 27 = .ok (.iload_n 1, 1) := by decide +kernel
theorem dL_act_28 : decode cL_act 28 = .ok (.iconst 2, 1) := by decide +kernel
theorem dL_act_29 : decode cL_act 29 = .ok (.if_icmp .ne 12, 3) := by decide +kernel
theorem dL_act_32 : decode cL_act 32 = .ok (.aload_n 0, 1) := by decide +kernel
theorem dL_act_33 : decode cL_act 33 = .ok (.iload_n 2, 1) := by decide +kernel
theorem dL_act_34 : decode cL_act 34 = .ok (.iload_n 3, 1) := by decide +kernel
theorem dL_act_35 : decode cL_act 35 = .ok (.invokevirtual 21, 3) := by decide +kernel
theorem dL_act_38 : decode cL_act 38 = .ok (.goto 314, 3) := by decide +kernel
theorem dL_act_41 : decode cL_act 41 = .ok (.iload_n 1, 1) := by decide +kernel
theorem dL_act_42 : decode cL_act 42 = .ok (.iconst 3, 1) := by decide +kernel
theorem dL_act_43 : decode cL_act 43 = .ok (.if_icmp .ne 20, 3) := by decide +kernel
theorem dL_act_46 : decode cL_act 46 = .ok (.aload_n 0, 1) := by decide +kernel
theorem dL_act_47 : decode cL_act 47 = .ok (.iload_n 2, 1) := by decide +kernel
theorem dL_act_48 : decode cL_act 48 = .ok (.iload_n 3, 1) := by decide +kernel
theorem dL_act_49 : decode cL_act 49 = .ok (.invokevirtual 24, 3) := by decide +kernel
theorem dL_act_52 : decode cL_act 52 = .ok (.ifCond .eq 7, 3) := by decide +kernel
theorem dL_act_55 : decode cL_act 55 = .ok (.iconst 1, 1) := by decide +kernel
theorem dL_act_56 : decode cL_act 56 = .ok (.goto 296, 3) := by decide +kernel
theorem dL_act_59 : decode cL_act 59 = .ok (.iconst 0, 1) := by decide +kernel
theorem dL_act_60 : decode cL_act 60 = .ok (.goto 292, 3) := by decide +kernel
theorem dL_act_63 : decode cL_act 63 = .ok (.iload_n 1, 1) := by decide +kernel
theorem dL_act_64 : decode cL_act 64 = .ok (.iconst 4, 1) := by decide +kernel
theorem dL_act_65 : decode cL_act 65 = .ok (.if_icmp .ne 18, 3) := by decide +kernel
theorem dL_act_68 : decode cL_act 68 = .ok (.aload_n 0, 1) := by decide +kernel
theorem dL_act_69 : decode cL_act 69 = .ok (.iload_n 2, 1) := by decide +kernel
theorem dL_act_70 : decode cL_act 70 = .ok (.iload_n 3, 1) := by decide +kernel
theorem dL_act_71 : decode cL_act 71 = .ok (.iload 4, 2) := by decide +kernel
theorem dL_act_73 : decode cL_act 73 = .ok (.iload 5, 2) := by decide +kernel
theorem dL_act_75 : decode cL_act 75 = .ok (.iload 6, 2) := by decide +kernel
theorem dL_act_77 : decode cL_act 77 = .ok (.invokevirtual 28, 3) := by decide +kernel
theorem dL_act_80 : decode cL_act 80 = .ok (.goto 272, 3) := by decide +kernel
theorem dL_act_83 : decode cL_act 83 = .ok (.iload_n 1, 1) := by decide +kernel
theorem dL_act_84 : decode cL_act 84 = .ok (.iconst 5, 1) := by decide +kernel
theorem dL_act_85 : decode cL_act 85 = .ok (.if_icmp .ne 14, 3) := by decide +kernel
theorem dL_act_88 : decode cL_act 88 = .ok (.aload_n 0, 1) := by decide +kernel
theorem dL_act_89 : decode cL_act 89 = .ok (.iload_n 2, 1) := by decide +kernel
theorem dL_act_90 : decode cL_act 90 = .ok (.iload_n 3, 1) := by decide +kernel
theorem dL_act_91 : decode cL_act 91 = .ok (.iload 4, 2) := by decide +kernel
theorem dL_act_93 : decode cL_act 93 = .ok (.invokevirtual 32, 3) := by decide +kernel
theorem dL_act_96 : decode cL_act 96 = .ok (.goto 256, 3) := by decide +kernel
theorem dL_act_99 : decode cL_act 99 = .ok (.iload_n 1, 1) := by decide +kernel
theorem dL_act_100 : decode cL_act 100 = .ok (.bipush 6, 2) := by decide +kernel
theorem dL_act_102 : decode cL_act 102 = .ok (.if_icmp .ne 12, 3) := by decide +kernel
theorem dL_act_105 : decode cL_act 105 = .ok (.aload_n 0, 1) := by decide +kernel
theorem dL_act_106 : decode cL_act 106 = .ok (.iload_n 2, 1) := by decide +kernel
theorem dL_act_107 : decode cL_act 107 = .ok (.iload_n 3, 1) := by decide +kernel
theorem dL_act_108 : decode cL_act 108 = .ok (.invokevirtual 36, 3) := by decide +kernel
theorem dL_act_111 : decode cL_act 111 = .ok (.goto 241, 3) := by decide +kernel
theorem dL_act_114 : decode cL_act 114 = .ok (.iload_n 1, 1) := by decide +kernel
theorem dL_act_115 : decode cL_act 115 = .ok (.bipush 7, 2) := by decide +kernel
theorem dL_act_117 : decode cL_act 117 = .ok (.if_icmp .ne 11, 3) := by decide +kernel
theorem dL_act_120 : decode cL_act 120 = .ok (.aload_n 0, 1) := by decide +kernel
theorem dL_act_121 : decode cL_act 121 = .ok (.iload_n 2, 1) := by decide +kernel
theorem dL_act_122 : decode cL_act 122 = .ok (.invokevirtual 39, 3) := by decide +kernel
theorem dL_act_125 : decode cL_act 125 = .ok (.goto 227, 3) := by decide +kernel
theorem dL_act_128 : decode cL_act 128 = .ok (.iload_n 1, 1) := by decide +kernel
theorem dL_act_129 : decode cL_act 129 = .ok (.bipush 8, 2) := by decide +kernel
theorem dL_act_131 : decode cL_act 131 = .ok (.if_icmp .ne 16, 3) := by decide +kernel
theorem dL_act_134 : decode cL_act 134 = .ok (.aload_n 0, 1) := by decide +kernel
theorem dL_act_135 : decode cL_act 135 = .ok (.iload_n 2, 1) := by decide +kernel
theorem dL_act_136 : decode cL_act 136 = .ok (.iload_n 3, 1) := by decide +kernel
theorem dL_act_137 : decode cL_act 137 = .ok (.iload 4, 2) := by decide +kernel
theorem dL_act_139 : decode cL_act 139 = .ok (.iload 5, 2) := by decide +kernel
theorem dL_act_141 : decode cL_act 141 = .ok (.invokevirtual 43, 3) := by decide +kernel
theorem dL_act_144 : decode cL_act 144 = .ok (.goto 208, 3) := by decide +kernel
theorem dL_act_147 : decode cL_act 147 = .ok (.iload_n 1, 1) := by decide +kernel
theorem dL_act_148 : decode cL_act 148 = .ok (.bipush 9, 2) := by decide +kernel
theorem dL_act_150 : decode cL_act 150 = .ok (.if_icmp .ne 12, 3) := by decide +kernel
theorem dL_act_153 : decode cL_act 153 = .ok (.aload_n 0, 1) := by decide +kernel
theorem dL_act_154 : decode cL_act 154 = .ok (.iload_n 2, 1) := by decide +kernel
theorem dL_act_155 : decode cL_act 155 = .ok (.iload_n 3, 1) := by decide +kernel
theorem dL_act_156 : decode cL_act 156 = .ok (.invokevirtual 47, 3) := by decide +kernel
theorem dL_act_159 : decode cL_act 159 = .ok (.goto 193, 3) := by decide +kernel
theorem dL_act_162 : decode cL_act 162 = .ok (.iload_n 1, 1) := by decide +kernel
theorem dL_act_163 : decode cL_act 163 = .ok (.bipush 10, 2) := by decide +kernel
theorem dL_act_165 : decode cL_act 165 = .ok (.if_icmp .ne 16, 3) := by decide +kernel
theorem dL_act_168 : decode cL_act 168 = .ok (.aload_n 0, 1) := by decide +kernel
theorem dL_act_169 : decode cL_act 169 = .ok (.iload_n 2, 1) := by decide +kernel
theorem dL_act_170 : decode cL_act 170 = .ok (.iload_n 3, 1) := by decide +kernel
theorem dL_act_171 : decode cL_act 171 = .ok (.iload 4, 2) := by decide +kernel
theorem dL_act_173 : decode cL_act 173 = .ok (.iload 5, 2) := by decide +kernel
theorem dL_act_175 : decode cL_act 175 = .ok (.invokevirtual 50, 3) := by decide +kernel
theorem dL_act_178 : decode cL_act 178 = .ok (.goto 174, 3) := by decide +kernel
theorem dL_act_181 : decode cL_act 181 = .ok (.iload_n 1, 1) := by decide +kernel
theorem dL_act_182 : decode cL_act 182 = .ok (.bipush 11, 2) := by decide +kernel
theorem dL_act_184 : decode cL_act 184 = .ok (.if_icmp .ne 11, 3) := by decide +kernel
theorem dL_act_187 : decode cL_act 187 = .ok (.aload_n 0, 1) := by decide +kernel
theorem dL_act_188 : decode cL_act 188 = .ok (.iload_n 2, 1) := by decide +kernel
theorem dL_act_189 : decode cL_act 189 = .ok (.invokevirtual 54, 3) := by decide +kernel
theorem dL_act_192 : decode cL_act 192 = .ok (.goto 160, 3) := by decide +kernel
theorem dL_act_195 : decode cL_act 195 = .ok (.iload_n 1, 1) := by decide +kernel
theorem dL_act_196 : decode cL_act 196 = .ok (.bipush 12, 2) := by decide +kernel
theorem dL_act_198 : decode cL_act 198 = .ok (.if_icmp .ne 12, 3) := by decide +kernel
theorem dL_act_201 : decode cL_act 201 = .ok (.aload_n 0, 1) := by decide +kernel
theorem dL_act_202 : decode cL_act 202 = .ok (.iload_n 2, 1) := by decide +kernel
theorem dL_act_203 : decode cL_act 203 = .ok (.iload_n 3, 1) := by decide +kernel
theorem dL_act_204 : decode cL_act 204 = .ok (.invokevirtual 57, 3) := by decide +kernel
theorem dL_act_207 : decode cL_act 207 = .ok (.goto 145, 3) := by decide +kernel
theorem dL_act_210 : decode cL_act 210 = .ok (.iload_n 1, 1) := by decide +kernel
theorem dL_act_211 : decode cL_act 211 = .ok (.bipush 13, 2) := by decide +kernel
theorem dL_act_213 : decode cL_act 213 = .ok (.if_icmp .ne 16, 3) := by decide +kernel
theorem dL_act_216 : decode cL_act 216 = .ok (.aload_n 0, 1) := by decide +kernel
theorem dL_act_217 : decode cL_act 217 = .ok (.iload_n 2, 1) := by decide +kernel
theorem dL_act_218 : decode cL_act 218 = .ok (.iload_n 3, 1) := by decide +kernel
theorem dL_act_219 : decode cL_act 219 = .ok (.invokevirtual 60, 3) := by decide +kernel
theorem dL_act_222 : decode cL_act 222 = .ok (.ldc 64, 2) := by decide +kernel
theorem dL_act_224 : decode cL_act 224 = .ok (.fmul, 1) := by decide +kernel
theorem dL_act_225 : decode cL_act 225 = .ok (.f2i, 1) := by decide +kernel
theorem dL_act_226 : decode cL_act 226 = .ok (.goto 126, 3) := by decide +kernel
theorem dL_act_229 : decode cL_act 229 = .ok (.iload_n 1, 1) := by decide +kernel
theorem dL_act_230 : decode cL_act 230 = .ok (.bipush 14, 2) := by decide +kernel
theorem dL_act_232 : decode cL_act 232 = .ok (.if_icmp .ne 12, 3) := by decide +kernel
theorem dL_act_235 : decode cL_act 235 = .ok (.aload_n 0, 1) := by decide +kernel
theorem dL_act_236 : decode cL_act 236 = .ok (.iload_n 2, 1) := by decide +kernel
theorem dL_act_237 : decode cL_act 237 = .ok (.iload_n 3, 1) := by decide +kernel
theorem dL_act_238 : decode cL_act 238 = .ok (.invokevirtual 65, 3) := by decide +kernel
theorem dL_act_241 : decode cL_act 241 = .ok (.goto 111, 3) := by decide +kernel
theorem dL_act_244 : decode cL_act 244 = .ok (.iload_n 1, 1) := by decide +kernel
theorem dL_act_245 : decode cL_act 245 = .ok (.bipush 15, 2) := by decide +kernel
theorem dL_act_247 : decode cL_act 247 = .ok (.if_icmp .ne 13, 3) := by decide +kernel
theorem dL_act_250 : decode cL_act 250 = .ok (.aload_n 0, 1) := by decide +kernel
theorem dL_act_251 : decode cL_act 251 = .ok (.iload_n 2, 1) := by decide +kernel
theorem dL_act_252 : decode cL_act 252 = .ok (.iload_n 3, 1) := by decide +kernel
theorem dL_act_253 : decode cL_act 253 = .ok (.invokevirtual 68, 3) := by decide +kernel
theorem dL_act_256 : decode cL_act 256 = .ok (.f2i, 1) := by decide +kernel
theorem dL_act_257 : decode cL_act 257 = .ok (.goto 95, 3) := by decide +kernel
theorem dL_act_260 : decode cL_act 260 = .ok (.iload_n 1, 1) := by decide +kernel
theorem dL_act_261 : decode cL_act 261 = .ok (.bipush 16, 2) := by decide +kernel
theorem dL_act_263 : decode cL_act 263 = .ok (.if_icmp .ne 14, 3) := by decide +kernel
theorem dL_act_266 : decode cL_act 266 = .ok (.aload_n 0, 1) := by decide +kernel
theorem dL_act_267 : decode cL_act 267 = .ok (.iload_n 2, 1) := by decide +kernel
theorem dL_act_268 : decode cL_act 268 = .ok (.iload_n 3, 1) := by decide +kernel
theorem dL_act_269 : decode cL_act 269 = .ok (.iload 4, 2) := by decide +kernel
theorem dL_act_271 : decode cL_act 271 = .ok (.invokevirtual 71, 3) := by decide +kernel
theorem dL_act_274 : decode cL_act 274 = .ok (.goto 78, 3) := by decide +kernel
theorem dL_act_277 : decode cL_act 277 = .ok (.iload_n 1, 1) := by decide +kernel
theorem dL_act_278 : decode cL_act 278 = .ok (.bipush 17, 2) := by decide +kernel
theorem dL_act_280 : decode cL_act 280 = .ok (.if_icmp .ne 12, 3) := by decide +kernel
theorem dL_act_283 : decode cL_act 283 = .ok (.aload_n 0, 1) := by decide +kernel
theorem dL_act_284 : decode cL_act 284 = .ok (.iload_n 2, 1) := by decide +kernel
theorem dL_act_285 : decode cL_act 285 = .ok (.iload_n 3, 1) := by decide +kernel
theorem dL_act_286 : decode cL_act 286 = .ok (.invokevirtual 74, 3) := by decide +kernel
theorem dL_act_289 : decode cL_act 289 = .ok (.goto 63, 3) := by decide +kernel
theorem dL_act_292 : decode cL_act 292 = .ok (.iload_n 1, 1) := by decide +kernel
theorem dL_act_293 : decode cL_act 293 = .ok (.bipush 18, 2) := by decide +kernel
theorem dL_act_295 : decode cL_act 295 = .ok (.if_icmp .ne 12, 3) := by decide +kernel
theorem dL_act_298 : decode cL_act 298 = .ok (.aload_n 0, 1) := by decide +kernel
theorem dL_act_299 : decode cL_act 299 = .ok (.iload_n 2, 1) := by decide +kernel
theorem dL_act_300 : decode cL_act 300 = .ok (.iload_n 3, 1) := by decide +kernel
theorem dL_act_301 : decode cL_act 301 = .ok (.invokevirtual 77, 3) := by decide +kernel
theorem dL_act_304 : decode cL_act 304 = .ok (.goto 48, 3) := by decide +kernel
theorem dL_act_307 : decode cL_act 307 = .ok (.iload_n 1, 1) := by decide +kernel
theorem dL_act_308 : decode cL_act 308 = .ok (.bipush 19, 2) := by decide +kernel
theorem dL_act_310 : decode cL_act 310 = .ok (.if_icmp .ne 11, 3) := by decide +kernel
theorem dL_act_313 : decode cL_act 313 = .ok (.aload_n 0, 1) := by decide +kernel
theorem dL_act_314 : decode cL_act 314 = .ok (.iload_n 2, 1) := by decide +kernel
theorem dL_act_315 : decode cL_act 315 = .ok (.invokevirtual 80, 3) := by decide +kernel
theorem dL_act_318 : decode cL_act 318 = .ok (.goto 34, 3) := by decide +kernel
theorem dL_act_321 : decode cL_act 321 = .ok (.iload_n 1, 1) := by decide +kernel
theorem dL_act_322 : decode cL_act 322 = .ok (.bipush 20, 2) := by decide +kernel
theorem dL_act_324 : decode cL_act 324 = .ok (.if_icmp .ne 14, 3) := by decide +kernel
theorem dL_act_327 : decode cL_act 327 = .ok (.aload_n 0, 1) := by decide +kernel
theorem dL_act_328 : decode cL_act 328 = .ok (.iload_n 2, 1) := by decide +kernel
theorem dL_act_329 : decode cL_act 329 = .ok (.iload_n 3, 1) := by decide +kernel
theorem dL_act_330 : decode cL_act 330 = .ok (.iload 4, 2) := by decide +kernel
theorem dL_act_332 : decode cL_act 332 = .ok (.invokevirtual 83, 3) := by decide +kernel
theorem dL_act_335 : decode cL_act 335 = .ok (.goto 17, 3) := by decide +kernel
theorem dL_act_338 : decode cL_act 338 = .ok (.aload_n 0, 1) := by decide +kernel
theorem dL_act_339 : decode cL_act 339 = .ok (.iload_n 2, 1) := by decide +kernel
theorem dL_act_340 : decode cL_act 340 = .ok (.iload_n 3, 1) := by decide +kernel
theorem dL_act_341 : decode cL_act 341 = .ok (.iload 4, 2) := by decide +kernel
theorem dL_act_343 : decode cL_act 343 = .ok (.iload 5, 2) := by decide +kernel
theorem dL_act_345 : decode cL_act 345 = .ok (.iload 6, 2) := by decide +kernel
theorem dL_act_347 : decode cL_act 347 = .ok (.bipush 50, 2) := by decide +kernel
theorem dL_act_349 : decode cL_act 349 = .ok (.invokevirtual 86, 3) := by decide +kernel
theorem dL_act_352 : decode cL_act 352 = .ok (.ireturn, 1) := by decide +kernel
theorem dL_act_353 : decode cL_act 353 = .ok (.astore 7, 2) := by decide +kernel
theorem dL_act_355 : decode cL_act 355 = .ok (.ldc 92, 2) := by decide +kernel
theorem dL_act_357 : decode cL_act 357 = .ok (.ireturn, 1) := by decide +kernel
theorem dL_act_358 : decode cL_act 358 = .ok (.astore 7, 2) := by decide +kernel
theorem dL_act_360 : decode cL_act 360 = .ok (.ldc 95, 2) := by decide +kernel
theorem dL_act_362 : decode cL_act 362 = .ok (.ireturn, 1) := by decide +kernel
theorem dL_act_363 : decode cL_act 363 = .ok (.astore 7, 2) := by decide +kernel
theorem dL_act_365 : decode cL_act 365 = .ok (.ldc 98, 2) := by decide +kernel
theorem dL_act_367 : decode cL_act 367 = .ok (.ireturn, 1) := by decide +kernel
theorem dL_warms_0 : decode cL_warms 0 = .ok (.aload_n 0, 1) := by decide +kernel
theorem dL_warms_1 : decode cL_warms 1 = .ok (.iload_n 1, 1) := by decide +kernel
theorem dL_warms_2 : decode cL_warms 2 = .ok (.iload_n 2, 1) := by decide +kernel
theorem dL_warms_3 : decode cL_warms 3 = .ok (.invokevirtual 99, 3) := by decide +kernel
theorem dL_warms_6 : decode cL_warms 6 = .ok (.iconst 0, 1) := by decide +kernel
theorem dL_warms_7 : decode cL_warms 7 = .ok (.ireturn, 1) := by decide +kernel
theorem dL_paints_0 : decode cL_paints 0 = .ok (.iload_n 2, 1) := by decide +kernel
theorem dL_paints_1 : decode cL_paints 1 = .ok (.bipush (-9), 2) := by decide +kernel
theorem dL_paints_3 : decode cL_paints 3 = .ok (.if_icmp .ne 11, 3) := by decide +kernel
theorem dL_paints_6 : decode cL_paints 6 = .ok (.aload_n 0, 1) := by decide +kernel
theorem dL_paints_7 : decode cL_paints 7 = .ok (.lload_n 3, 1) := by decide +kernel
theorem dL_paints_8 : decode cL_paints 8 = .ok (.invokevirtual 103, 3) := by decide +kernel
theorem dL_paints_11 : decode cL_paints 11 = .ok (.goto 12, 3) := by decide +kernel
theorem dL_paints_14 : decode cL_paints 14 = .ok (.aload_n 0, 1) := by decide +kernel
theorem dL_paints_15 : decode cL_paints 15 = .ok (.iload_n 1, 1) := by decide +kernel
theorem dL_paints_16 : decode cL_paints 16 = .ok (.iload_n 2, 1) := by decide +kernel
theorem dL_paints_17 : decode cL_paints 17 = .ok (.lload_n 3, 1) := by decide +kernel
theorem dL_paints_18 : decode cL_paints 18 = .ok (.iload 5, 2) := by decide +kernel
theorem dL_paints_20 : decode cL_paints 20 = .ok (.invokevirtual 107, 3) := by decide +kernel
theorem dL_paints_23 : decode cL_paints 23 = .ok (.ireturn, 1) := by decide +kernel
theorem dL_paints_24 : decode cL_paints 24 = .ok (.astore 6, 2) := by decide +kernel
theorem dL_paints_26 : decode cL_paints 26 = .ok (.ldc 92, 2) := by decide +kernel
theorem dL_paints_28 : decode cL_paints 28 = .ok (.ireturn, 1) := by decide +kernel
theorem dL_paints_29 : decode cL_paints 29 = .ok (.astore 6, 2) := by decide +kernel
theorem dL_paints_31 : decode cL_paints 31 = .ok (.ldc 95, 2) := by decide +kernel
theorem dL_paints_33 : decode cL_paints 33 = .ok (.ireturn, 1) := by decide +kernel
theorem dL_paints_34 : decode cL_paints 34 = .ok (.astore 6, 2) := by decide +kernel
theorem dL_paints_36 : decode cL_paints 36 = .ok (.ldc 98, 2) := by decide +kernel
theorem dL_paints_38 : decode cL_paints 38 = .ok (.ireturn, 1) := by decide +kernel
theorem dL_all_0 : decode cL_all 0 = .ok (.ldc2_w 111, 3) := by decide +kernel
theorem dL_all_3 : decode cL_all 3 = .ok (.lstore_n 3, 1) := by decide +kernel
theorem dL_all_4 : decode cL_all 4 = .ok (.iconst 0, 1) := by decide +kernel
theorem dL_all_5 : decode cL_all 5 = .ok (.istore 5, 2) := by decide +kernel
theorem dL_all_7 : decode cL_all 7 = .ok (.iload 5, 2) := by decide +kernel
theorem dL_all_9 : decode cL_all 9 = .ok (.bipush 48, 2) := by decide +kernel
theorem dL_all_11 : decode cL_all 11 = .ok (.if_icmp .ge 135, 3) := by decide +kernel
theorem dL_all_14 : decode cL_all 14 = .ok (.ldc2_w 113, 3) := by decide +kernel
theorem dL_all_17 : decode cL_all 17 = .ok (.lload_n 3, 1) := by decide +kernel
theorem dL_all_18 : decode cL_all 18 = .ok (.lmul, 1) := by decide +kernel
theorem dL_all_19 : decode cL_all 19 = .ok (.aload_n 0, 1) := by decide +kernel
theorem dL_all_20 : decode cL_all 20 = .ok (.iload 5, 2) := by decide +kernel
theorem dL_all_22 : decode cL_all 22 = .ok (.iload 5, 2) := by decide +kernel
theorem dL_all_24 : decode cL_all 24 = .ok (.iconst 3, 1) := by decide +kernel
theorem dL_all_25 : decode cL_all 25 = .ok (.irem, 1) := by decide +kernel
theorem dL_all_26 : decode cL_all 26 = .ok (.invokevirtual 77, 3) := by decide +kernel
theorem dL_all_29 : decode cL_all 29 = .ok (.i2l, 1) := by decide +kernel
theorem dL_all_30 : decode cL_all 30 = .ok (.ladd, 1) := by decide +kernel
theorem dL_all_31 : decode cL_all 31 = .ok (.lstore_n 3, 1) := by decide +kernel
theorem dL_all_32 : decode cL_all 32 = .ok (.iconst 0, 1) := by decide +kernel
theorem dL_all_33 : decode cL_all 33 = .ok (.istore 6, 2) := by decide +kernel
theorem dL_all_35 : decode cL_all 35 = .ok (.iload 6, 2) := by decide +kernel
theorem dL_all_37 : decode cL_all 37 = .ok (.aload_n 2, 1) := by decide +kernel
theorem dL_all_38 : decode cL_all 38 = .ok (.iload 5, 2) := by decide +kernel
theorem dL_all_40 : decode cL_all 40 = .ok (.iaload, 1) := by decide +kernel
theorem dL_all_41 : decode cL_all 41 = .ok (.if_icmp .ge 99, 3) := by decide +kernel
theorem dL_all_44 : decode cL_all 44 = .ok (.ldc2_w 113, 3) := by decide +kernel
theorem dL_all_47 : decode cL_all 47 = .ok (.lload_n 3, 1) := by decide +kernel
theorem dL_all_48 : decode cL_all 48 = .ok (.lmul, 1) := by decide +kernel
theorem dL_all_49 : decode cL_all 49 = .ok (.aload_n 0, 1) := by decide +kernel
theorem dL_all_50 : decode cL_all 50 = .ok (.iload 5, 2) := by decide +kernel
theorem dL_all_52 : decode cL_all 52 = .ok (.bipush 12, 2) := by decide +kernel
theorem dL_all_54 : decode cL_all 54 = .ok (.idiv, 1) := by decide +kernel
theorem dL_all_55 : decode cL_all 55 = .ok (.iload 5, 2) := by decide +kernel
theorem dL_all_57 : decode cL_all 57 = .ok (.bipush 12, 2) := by decide +kernel
theorem dL_all_59 : decode cL_all 59 = .ok (.irem, 1) := by decide +kernel
theorem dL_all_60 : decode cL_all 60 = .ok (.iload 6, 2) := by decide +kernel
theorem dL_all_62 : decode cL_all 62 = .ok (.iconst 1, 1) := by decide +kernel
theorem dL_all_63 : decode cL_all 63 = .ok (.invokevirtual 43, 3) := by decide +kernel
theorem dL_all_66 : decode cL_all 66 = .ok (.i2l, 1) := by decide +kernel
theorem dL_all_67 : decode cL_all 67 = .ok (.ladd, 1) := by decide +kernel
theorem dL_all_68 : decode cL_all 68 = .ok (.ldc2_w 111, 3) := by decide +kernel
theorem dL_all_71 : decode cL_all 71 = .ok (.aload_n 0, 1) := by decide +kernel
theorem dL_all_72 : decode cL_all 72 = .ok (.iload 5, 2) := by decide +kernel
theorem dL_all_74 : decode cL_all 74 = .ok (.bipush 12, 2) := by decide +kernel
theorem dL_all_76 : decode cL_all 76 = .ok (.idiv, 1) := by decide +kernel
theorem dL_all_77 : decode cL_all 77 = .ok (.iload 5, 2) := by decide +kernel
theorem dL_all_79 : decode cL_all 79 = .ok (.bipush 12, 2) := by decide +kernel
theorem dL_all_81 : decode cL_all 81 = .ok (.irem, 1) := by decide +kernel
theorem dL_all_82 : decode cL_all 82 = .ok (.iload 6, 2) := by decide +kernel
theorem dL_all_84 : decode cL_all 84 = .ok (.iconst 3, 1) := by decide +kernel
theorem dL_all_85 : decode cL_all 85 = .ok (.invokevirtual 43, 3) := by decide +kernel
theorem dL_all_88 : decode cL_all 88 = .ok (.i2l, 1) := by decide +kernel
theorem dL_all_89 : decode cL_all 89 = .ok (.lmul, 1) := by decide +kernel
theorem dL_all_90 : decode cL_all 90 = .ok (.ladd, 1) := by decide +kernel
theorem dL_all_91 : decode cL_all 91 = .ok (.ldc2_w 115, 3) := by decide +kernel
theorem dL_all_94 : decode cL_all 94 = .ok (.aload_n 0, 1) := by decide +kernel
theorem dL_all_95 : decode cL_all 95 = .ok (.iload 5, 2) := by decide +kernel
theorem dL_all_97 : decode cL_all 97 = .ok (.bipush 12, 2) := by decide +kernel
theorem dL_all_99 : decode cL_all 99 = .ok (.idiv, 1) := by decide +kernel
theorem dL_all_100 : decode cL_all 100 = .ok (.iload 5, 2) := by decide +kernel
theorem dL_all_102 : decode cL_all 102 = .ok (.bipush 12, 2) := by decide +kernel
theorem dL_all_104 : decode cL_all 104 = .ok (.irem, 1) := by decide +kernel
theorem dL_all_105 : decode cL_all 105 = .ok (.iload 6, 2) := by decide +kernel
theorem dL_all_107 : decode cL_all 107 = .ok (.iconst 4, 1) := by decide +kernel
theorem dL_all_108 : decode cL_all 108 = .ok (.invokevirtual 43, 3) := by decide +kernel
theorem dL_all_111 : decode cL_all 111 = .ok (.i2l, 1) := by decide +kernel
theorem dL_all_112 : decode cL_all 112 = .ok (.lmul, 1) := by decide +kernel
theorem dL_all_113 : decode cL_all 113 = .ok (.ladd, 1) := by decide +kernel
theorem dL_all_114 : decode cL_all 114 = .ok (.aload_n 0, 1) := by decide +kernel
theorem dL_all_115 : decode cL_all 115 = .ok (.iload 5, 2) := by decide +kernel
theorem dL_all_117 : decode cL_all 117 = .ok (.bipush 12, 2) := by decide +kernel
theorem dL_all_119 : decode cL_all 119 = .ok (.idiv, 1) := by decide +kernel
theorem dL_all_120 : decode cL_all 120 = .ok (.iload 5, 2) := by decide +kernel
theorem dL_all_122 : decode cL_all 122 = .ok (.bipush 12, 2) := by decide +kernel
theorem dL_all_124 : decode cL_all 124 = .ok (.irem, 1) := by decide +kernel
theorem dL_all_125 : decode cL_all 125 = .ok (.iload 6, 2) := by decide +kernel
theorem dL_all_127 : decode cL_all 127 = .ok (.iconst 5, 1) := by decide +kernel
theorem dL_all_128 : decode cL_all 128 = .ok (.invokevirtual 43, 3) := by decide +kernel
theorem dL_all_131 : decode cL_all 131 = .ok (.i2l, 1) := by decide +kernel
theorem dL_all_132 : decode cL_all 132 = .ok (.ladd, 1) := by decide +kernel
theorem dL_all_133 : decode cL_all 133 = .ok (.lstore_n 3, 1) := by decide +kernel
theorem dL_all_134 : decode cL_all 134 = .ok (.iinc 6 1, 3) := by decide +kernel
theorem dL_all_137 : decode cL_all 137 = .ok (.goto (-102), 3) := by decide +kernel
theorem dL_all_140 : decode cL_all 140 = .ok (.iinc 5 1, 3) := by decide +kernel
theorem dL_all_143 : decode cL_all 143 = .ok (.goto (-136), 3) := by decide +kernel
theorem dL_all_146 : decode cL_all 146 = .ok (.iconst 0, 1) := by decide +kernel
theorem dL_all_147 : decode cL_all 147 = .ok (.istore 5, 2) := by decide +kernel
theorem dL_all_149 : decode cL_all 149 = .ok (.iload 5, 2) := by decide +kernel
theorem dL_all_151 : decode cL_all 151 = .ok (.aload_n 1, 1) := by decide +kernel
theorem dL_all_152 : decode cL_all 152 = .ok (.iconst 2, 1) := by decide +kernel
theorem dL_all_153 : decode cL_all 153 = .ok (.iaload, 1) := by decide +kernel
theorem dL_all_154 : decode cL_all 154 = .ok (.if_icmp .ge 36, 3) := by decide +kernel
theorem dL_all_157 : decode cL_all 157 = .ok (.ldc2_w 113, 3) := by decide +kernel
theorem dL_all_160 : decode cL_all 160 = .ok (.lload_n 3, 1) := by decide +kernel
theorem dL_all_161 : decode cL_all 161 = .ok (.lmul, 1) := by decide +kernel
theorem dL_all_162 : decode cL_all 162 = .ok (.aload_n 0, 1) := by decide +kernel
theorem dL_all_163 : decode cL_all 163 = .ok (.bipush 13, 2) := by decide +kernel
theorem dL_all_165 : decode cL_all 165 = .ok (.iload 5, 2) := by decide +kernel
theorem dL_all_167 : decode cL_all 167 = .ok (.aload_n 1, 1) := by decide +kernel
theorem dL_all_168 : decode cL_all 168 = .ok (.iconst 2, 1) := by decide +kernel
theorem dL_all_169 : decode cL_all 169 = .ok (.iaload, 1) := by decide +kernel
theorem dL_all_170 : decode cL_all 170 = .ok (.iconst 1, 1) := by decide +kernel
theorem dL_all_171 : decode cL_all 171 = .ok (.isub, 1) := by decide +kernel
theorem dL_all_172 : decode cL_all 172 = .ok (.iload 5, 2) := by decide +kernel
theorem dL_all_174 : decode cL_all 174 = .ok (.isub, 1) := by decide +kernel
theorem dL_all_175 : decode cL_all 175 = .ok (.iconst 0, 1) := by decide +kernel
theorem dL_all_176 : decode cL_all 176 = .ok (.iconst 0, 1) := by decide +kernel
theorem dL_all_177 : decode cL_all 177 = .ok (.iconst 0, 1) := by decide +kernel
theorem dL_all_178 : decode cL_all 178 = .ok (.invokestatic 117, 3) := by decide +kernel
theorem dL_all_181 : decode cL_all 181 = .ok (.i2l, 1) := by decide +kernel
theorem dL_all_182 : decode cL_all 182 = .ok (.ladd, 1) := by decide +kernel
theorem dL_all_183 : decode cL_all 183 = .ok (.lstore_n 3, 1) := by decide +kernel
theorem dL_all_184 : decode cL_all 184 = .ok (.iinc 5 1, 3) := by decide +kernel
theorem dL_all_187 : decode cL_all 187 = .ok (.goto (-38), 3) := by decide +kernel
theorem dL_all_190 : decode cL_all 190 = .ok (.lload_n 3, 1) := by decide +kernel
theorem dL_all_191 : decode cL_all 191 = .ok (.lreturn, 1) := by decide +kernel
theorem dL_areSound_0 : decode cL_areSound 0 = .ok (.iconst 1, 1) := by decide +kernel
theorem dL_areSound_1 : decode cL_areSound 1 = .ok (.istore 5, 2) := by decide +kernel
theorem dL_areSound_3 : decode cL_areSound 3 = .ok (.iconst 0, 1) := by decide +kernel
theorem dL_areSound_4 : decode cL_areSound 4 = .ok (.istore 6, 2) := by decide +kernel
theorem dL_areSound_6 : decode cL_areSound 6 = .ok (.iload 6, 2) := by decide +kernel
theorem dL_areSound_8 : decode cL_areSound 8 = .ok (.bipush 48, 2) := by decide +kernel
theorem dL_areSound_10 : decode cL_areSound 10 = .ok (.if_icmp .ge 378, 3) := by decide +kernel
theorem dL_areSound_13 : decode cL_areSound 13 = .ok (.iload 5, 2) := by decide +kernel
theorem dL_areSound_15 : decode cL_areSound 15 = .ok (.ifCond .eq 373, 3) := by decide +kernel
theorem dL_areSound_18 : decode cL_areSound 18 = .ok (.aload_n 0, 1) := by decide +kernel
theorem dL_areSound_19 : decode cL_areSound 19 = .ok (.iload 6, 2) := by decide +kernel
theorem dL_areSound_21 : decode cL_areSound 21 = .ok (.iconst 0, 1) := by decide +kernel
theorem dL_areSound_22 : decode cL_areSound 22 = .ok (.invokevirtual 77, 3) := by decide +kernel
theorem dL_areSound_25 : decode cL_areSound 25 = .ok (.istore 7, 2) := by decide +kernel
theorem dL_areSound_27 : decode cL_areSound 27 = .ok (.aload_n 0, 1) := by decide +kernel
theorem dL_areSound_28 : decode cL_areSound 28 = .ok (.iload 6, 2) := by decide +kernel
theorem dL_areSound_30 : decode cL_areSound 30 = .ok (.iconst 1, 1) := by decide +kernel
theorem dL_areSound_31 : decode cL_areSound 31 = .ok (.invokevirtual 77, 3) := by decide +kernel
theorem dL_areSound_34 : decode cL_areSound 34 = .ok (.istore 8, 2) := by decide +kernel
theorem dL_areSound_36 : decode cL_areSound 36 = .ok (.aload_n 3, 1) := by decide +kernel
theorem dL_areSound_37 : decode cL_areSound 37 = .ok (.iload 6, 2) := by decide +kernel
theorem dL_areSound_39 : decode cL_areSound 39 = .ok (.iaload, 1) := by decide +kernel
theorem dL_areSound_40 : decode cL_areSound 40 = .ok (.istore 9, 2) := by decide +kernel
theorem dL_areSound_42 : decode cL_areSound 42 = .ok (.iload 7, 2) := by decide +kernel
theorem dL_areSound_44 : decode cL_areSound 44 = .ok (.iconst (-1), 1) := by decide +kernel
theorem dL_areSound_45 : decode cL_areSound 45 = .ok (.if_icmp .lt 54, 3) := by decide +kernel
theorem dL_areSound_48 : decode cL_areSound 48 = .ok (.iload 7, 2) := by decide +kernel
theorem dL_areSound_50 : decode cL_areSound 50 = .ok (.aload_n 1, 1) := by decide +kernel
theorem dL_areSound_51 : decode cL_areSound 51 = .ok (.iconst 3, 1) := by decide +kernel
theorem dL_areSound_52 : decode cL_areSound 52 = .ok (.iaload, 1) := by decide +kernel
theorem dL_areSound_53 : decode cL_areSound 53 = .ok (.if_icmp .ge 46, 3) := by decide +kernel
theorem dL_areSound_56 : decode cL_areSound 56 = .ok (.iload 8, 2) := by decide +kernel
theorem dL_areSound_58 : decode cL_areSound 58 = .ok (.iconst (-1), 1) := by decide +kernel
theorem dL_areSound_59 : decode cL_areSound 59 = .ok (.if_icmp .lt 40, 3) := by decide +kernel
theorem dL_areSound_62 : decode cL_areSound 62 = .ok (.iload 8, 2) := by decide +kernel
theorem dL_areSound_64 : decode cL_areSound 64 = .ok (.bipush 10, 2) := by decide +kernel
theorem dL_areSound_66 : decode cL_areSound 66 = .ok (.if_icmp .ge 33, 3) := by decide +kernel
theorem dL_areSound_69 : decode cL_areSound 69 = .ok (.iload 7, 2) := by decide +kernel
theorem dL_areSound_71 : decode cL_areSound 71 = .ok (.ifCond .ge 9, 3) := by decide +kernel
theorem dL_areSound_74 : decode cL_areSound 74 = .ok (.iload 8, 2) := by decide +kernel
theorem dL_areSound_76 : decode cL_areSound 76 = .ok (.iconst (-1), 1) := by decide +kernel
theorem dL_areSound_77 : decode cL_areSound 77 = .ok (.if_icmp .ne 22, 3) := by decide +kernel
theorem dL_areSound_80 : decode cL_areSound 80 = .ok (.iload 8, 2) := by decide +kernel
theorem dL_areSound_82 : decode cL_areSound 82 = .ok (.ifCond .ge 13, 3) := by decide +kernel
theorem dL_areSound_85 : decode cL_areSound 85 = .ok (.aload_n 0, 1) := by decide +kernel
theorem dL_areSound_86 : decode cL_areSound 86 = .ok (.iload 6, 2) := by decide +kernel
theorem dL_areSound_88 : decode cL_areSound 88 = .ok (.iconst 2, 1) := by decide +kernel
theorem dL_areSound_89 : decode cL_areSound 89 = .ok (.invokevirtual 77, 3) := by decide +kernel
theorem dL_areSound_92 : decode cL_areSound 92 = .ok (.ifCond .ne 7, 3) := by decide +kernel
theorem dL_areSound_95 : decode cL_areSound 95 = .ok (.iconst 1, 1) := by decide +kernel
theorem dL_areSound_96 : decode cL_areSound 96 = .ok (.goto 4, 3) := by decide +kernel
theorem dL_areSound_99 : decode cL_areSound 99 = .ok (.iconst 0, 1) := by decide +kernel
theorem dL_areSound_100 : decode cL_areSound 100 = .ok (.istore 5, 2) := by decide +kernel
theorem dL_areSound_102 : decode cL_areSound 102 = .ok (.iconst 0, 1) := by decide +kernel
theorem dL_areSound_103 : decode cL_areSound 103 = .ok (.istore 10, 2) := by decide +kernel
theorem dL_areSound_105 : decode cL_areSound 105 = .ok (.iload 10, 2) := by decide +kernel
theorem dL_areSound_107 : decode cL_areSound 107 = .ok (.iload 9, 2) := by decide +kernel
theorem dL_areSound_109 : decode cL_areSound 109 = .ok (.if_icmp .ge 205, 3) := by decide +kernel
theorem dL_areSound_112 : decode cL_areSound 112 = .ok (.iload 5, 2) := by decide +kernel
theorem dL_areSound_114 : decode cL_areSound 114 = .ok (.ifCond .eq 200, 3) := by decide +kernel
theorem dL_areSound_117 : decode cL_areSound 117 = .ok (.aload_n 0, 1) := by decide +kernel
theorem dL_areSound_118 : decode cL_areSound 118 = .ok (.iload 6, 2) := by decide +kernel
theorem dL_areSound_120 : decode cL_areSound 120 = .ok (.bipush 12, 2) := by decide +kernel
theorem dL_areSound_122 : decode cL_areSound 122 = .ok (.idiv, 1) := by decide +kernel
theorem dL_areSound_123 : decode cL_areSound 123 = .ok (.iload 6, 2) := by decide +kernel
theorem dL_areSound_125 : decode cL_areSound 125 = .ok (.bipush 12, 2) := by decide +kernel
theorem dL_areSound_127 : decode cL_areSound 127 = .ok (.irem, 1) := by decide +kernel
theorem dL_areSound_128 : decode cL_areSound 128 = .ok (.iload 10, 2) := by decide +kernel
theorem dL_areSound_130 : decode cL_areSound 130 = .ok (.iconst 1, 1) := by decide +kernel
theorem dL_areSound_131 : decode cL_areSound 131 = .ok (.invokevirtual 43, 3) := by decide +kernel
theorem dL_areSound_134 : decode cL_areSound 134 = .ok (.istore 11, 2) := by decide +kernel
theorem dL_areSound_136 : decode cL_areSound 136 = .ok (.aload_n 0, 1) := by decide +kernel
theorem dL_areSound_137 : decode cL_areSound 137 = .ok (.iload 6, 2) := by decide +kernel
theorem dL_areSound_139 : decode cL_areSound 139 = .ok (.bipush 12, 2) := by decide +kernel
theorem dL_areSound_141 : decode cL_areSound 141 = .ok (.idiv, 1) := by decide +kernel
theorem dL_areSound_142 : decode cL_areSound 142 = .ok (.iload 6, 2) := by decide +kernel
theorem dL_areSound_144 : decode cL_areSound 144 = .ok (.bipush 12, 2) := by decide +kernel
theorem dL_areSound_146 : decode cL_areSound 146 = .ok (.irem, 1) := by decide +kernel
theorem dL_areSound_147 : decode cL_areSound 147 = .ok (.iload 10, 2) := by decide +kernel
theorem dL_areSound_149 : decode cL_areSound 149 = .ok (.iconst 2, 1) := by decide +kernel
theorem dL_areSound_150 : decode cL_areSound 150 = .ok (.invokevirtual 43, 3) := by decide +kernel
theorem dL_areSound_153 : decode cL_areSound 153 = .ok (.istore 12, 2) := by decide +kernel
theorem dL_areSound_155 : decode cL_areSound 155 = .ok (.iload 11, 2) := by decide +kernel
theorem dL_areSound_157 : decode cL_areSound 157 = .ok (.ifCond .le 148, 3) := by decide +kernel
theorem dL_areSound_160 : decode cL_areSound 160 = .ok (.iload 11, 2) := by decide +kernel
theorem dL_areSound_162 : decode cL_areSound 162 = .ok (.bipush 21, 2) := by decide +kernel
theorem dL_areSound_164 : decode cL_areSound 164 = .ok (.if_icmp .ge 141, 3) := by decide +kernel
theorem dL_areSound_167 : decode cL_areSound 167 = .ok (.iload 12, 2) := by decide +kernel
theorem dL_areSound_169 : decode cL_areSound 169 = .ok (.ifCond .lt 136, 3) := by decide +kernel
theorem dL_areSound_172 : decode cL_areSound 172 = .ok (.iload 12, 2) := by decide +kernel
theorem dL_areSound_174 : decode cL_areSound 174 = .ok (.aload_n 1, 1) := by decide +kernel
theorem dL_areSound_175 : decode cL_areSound 175 = .ok (.iconst 0, 1) := by decide +kernel
theorem dL_areSound_176 : decode cL_areSound 176 = .ok (.iaload, 1) := by decide +kernel
theorem dL_areSound_177 : decode cL_areSound 177 = .ok (.if_icmp .gt 128, 3) := by decide +kernel
theorem dL_areSound_180 : decode cL_areSound 180 = .ok (.iload 10, 2) := by decide +kernel
theorem dL_areSound_182 : decode cL_areSound 182 = .ok (.iload 9, 2) := by decide +kernel
theorem dL_areSound_184 : decode cL_areSound 184 = .ok (.iconst 1, 1) := by decide +kernel
theorem dL_areSound_185 : decode cL_areSound 185 = .ok (.isub, 1) := by decide +kernel
theorem dL_areSound_186 : decode cL_areSound 186 = .ok (.if_icmp .eq 87, 3) := by decide +kernel
theorem dL_areSound_189 : decode cL_areSound 189 = .ok (.aload_n 0, 1) := by decide +kernel
theorem dL_areSound_190 : decode cL_areSound 190 = .ok (.iload 6, 2) := by decide +kernel
theorem dL_areSound_192 : decode cL_areSound 192 = .ok (.bipush 12, 2) := by decide +kernel
theorem dL_areSound_194 : decode cL_areSound 194 = .ok (.idiv, 1) := by decide +kernel
theorem dL_areSound_195 : decode cL_areSound 195 = .ok (.iload 6, 2) := by decide +kernel
theorem dL_areSound_197 : decode cL_areSound 197 = .ok (.bipush 12, 2) := by decide +kernel
theorem dL_areSound_199 : decode cL_areSound 199 = .ok (.irem, 1) := by decide +kernel
theorem dL_areSound_200 : decode cL_areSound 200 = .ok (.iload 10, 2) := by decide +kernel
theorem dL_areSound_202 : decode cL_areSound 202 = .ok (.iconst 3, 1) := by decide +kernel
theorem dL_areSound_203 : decode cL_areSound 203 = .ok (.invokevirtual 43, 3) := by decide +kernel
theorem dL_areSound_206 : decode cL_areSound 206 = .ok (.iconst 1, 1) := by decide +kernel
theorem dL_areSound_207 : decode cL_areSound 207 = .ok (.if_icmp .ne 98, 3) := by decide +kernel
theorem dL_areSound_210 : decode cL_areSound 210 = .ok (.iload 12, 2) := by decide +kernel
theorem dL_areSound_212 : decode cL_areSound 212 = .ok (.aload_n 0, 1) := by decide +kernel
theorem dL_areSound_213 : decode cL_areSound 213 = .ok (.iload 6, 2) := by decide +kernel
theorem dL_areSound_215 : decode cL_areSound 215 = .ok (.bipush 12, 2) := by decide +kernel
theorem dL_areSound_217 : decode cL_areSound 217 = .ok (.idiv, 1) := by decide +kernel
theorem dL_areSound_218 : decode cL_areSound 218 = .ok (.iload 6, 2) := by decide +kernel
theorem dL_areSound_220 : decode cL_areSound 220 = .ok (.bipush 12, 2) := by decide +kernel
theorem dL_areSound_222 : decode cL_areSound 222 = .ok (.irem, 1) := by decide +kernel
theorem dL_areSound_223 : decode cL_areSound 223 = .ok (.iload 10, 2) := by decide +kernel
theorem dL_areSound_225 : decode cL_areSound 225 = .ok (.iconst 1, 1) := by decide +kernel
theorem dL_areSound_226 : decode cL_areSound 226 = .ok (.iadd, 1) := by decide +kernel
theorem dL_areSound_227 : decode cL_areSound 227 = .ok (.iconst 2, 1) := by decide +kernel
theorem dL_areSound_228 : decode cL_areSound 228 = .ok (.invokevirtual 43, 3) := by decide +kernel
theorem dL_areSound_231 : decode cL_areSound 231 = .ok (.if_icmp .ge 74, 3) := by decide +kernel
theorem dL_areSound_234 : decode cL_areSound 234 = .ok (.aload_n 0, 1) := by decide +kernel
theorem dL_areSound_235 : decode cL_areSound 235 = .ok (.iload 6, 2) := by decide +kernel
theorem dL_areSound_237 : decode cL_areSound 237 = .ok (.bipush 12, 2) := by decide +kernel
theorem dL_areSound_239 : decode cL_areSound 239 = .ok (.idiv, 1) := by decide +kernel
theorem dL_areSound_240 : decode cL_areSound 240 = .ok (.iload 6, 2) := by decide +kernel
theorem dL_areSound_242 : decode cL_areSound 242 = .ok (.bipush 12, 2) := by decide +kernel
theorem dL_areSound_244 : decode cL_areSound 244 = .ok (.irem, 1) := by decide +kernel
theorem dL_areSound_245 : decode cL_areSound 245 = .ok (.iload 10, 2) := by decide +kernel
theorem dL_areSound_247 : decode cL_areSound 247 = .ok (.iconst 0, 1) := by decide +kernel
theorem dL_areSound_248 : decode cL_areSound 248 = .ok (.invokevirtual 43, 3) := by decide +kernel
theorem dL_areSound_251 : decode cL_areSound 251 = .ok (.aload_n 0, 1) := by decide +kernel
theorem dL_areSound_252 : decode cL_areSound 252 = .ok (.iload 6, 2) := by decide +kernel
theorem dL_areSound_254 : decode cL_areSound 254 = .ok (.bipush 12, 2) := by decide +kernel
theorem dL_areSound_256 : decode cL_areSound 256 = .ok (.idiv, 1) := by decide +kernel
theorem dL_areSound_257 : decode cL_areSound 257 = .ok (.iload 6, 2) := by decide +kernel
theorem dL_areSound_259 : decode cL_areSound 259 = .ok (.bipush 12, 2) := by decide +kernel
theorem dL_areSound_261 : decode cL_areSound 261 = .ok (.irem, 1) := by decide +kernel
theorem dL_areSound_262 : decode cL_areSound 262 = .ok (.iload 10, 2) := by decide +kernel
theorem dL_areSound_264 : decode cL_areSound 264 = .ok (.iconst 1, 1) := by decide +kernel
theorem dL_areSound_265 : decode cL_areSound 265 = .ok (.iadd, 1) := by decide +kernel
theorem dL_areSound_266 : decode cL_areSound 266 = .ok (.iconst 0, 1) := by decide +kernel
theorem dL_areSound_267 : decode cL_areSound 267 = .ok (.invokevirtual 43, 3) := by decide +kernel
theorem dL_areSound_270 : decode cL_areSound 270 = .ok (.if_icmp .lt 35, 3) := by decide +kernel
theorem dL_areSound_273 : decode cL_areSound 273 = .ok (.aload_n 0, 1) := by decide +kernel
theorem dL_areSound_274 : decode cL_areSound 274 = .ok (.iload 6, 2) := by decide +kernel
theorem dL_areSound_276 : decode cL_areSound 276 = .ok (.bipush 12, 2) := by decide +kernel
theorem dL_areSound_278 : decode cL_areSound 278 = .ok (.idiv, 1) := by decide +kernel
theorem dL_areSound_279 : decode cL_areSound 279 = .ok (.iload 6, 2) := by decide +kernel
theorem dL_areSound_281 : decode cL_areSound 281 = .ok (.bipush 12, 2) := by decide +kernel
theorem dL_areSound_283 : decode cL_areSound 283 = .ok (.irem, 1) := by decide +kernel
theorem dL_areSound_284 : decode cL_areSound 284 = .ok (.iload 10, 2) := by decide +kernel
theorem dL_areSound_286 : decode cL_areSound 286 = .ok (.iconst 3, 1) := by decide +kernel
theorem dL_areSound_287 : decode cL_areSound 287 = .ok (.invokevirtual 43, 3) := by decide +kernel
theorem dL_areSound_290 : decode cL_areSound 290 = .ok (.ifCond .eq 11, 3) := by decide +kernel
theorem dL_areSound_293 : decode cL_areSound 293 = .ok (.iload 12, 2) := by decide +kernel
theorem dL_areSound_295 : decode cL_areSound 295 = .ok (.aload_n 1, 1) := by decide +kernel
theorem dL_areSound_296 : decode cL_areSound 296 = .ok (.iconst 0, 1) := by decide +kernel
theorem dL_areSound_297 : decode cL_areSound 297 = .ok (.iaload, 1) := by decide +kernel
theorem dL_areSound_298 : decode cL_areSound 298 = .ok (.if_icmp .ge 7, 3) := by decide +kernel
theorem dL_areSound_301 : decode cL_areSound 301 = .ok (.iconst 1, 1) := by decide +kernel
theorem dL_areSound_302 : decode cL_areSound 302 = .ok (.goto 4, 3) := by decide +kernel
theorem dL_areSound_305 : decode cL_areSound 305 = .ok (.iconst 0, 1) := by decide +kernel
theorem dL_areSound_306 : decode cL_areSound 306 = .ok (.istore 5, 2) := by decide +kernel
theorem dL_areSound_308 : decode cL_areSound 308 = .ok (.iinc 10 1, 3) := by decide +kernel
theorem dL_areSound_311 : decode cL_areSound 311 = .ok (.goto (-206), 3) := by decide +kernel
theorem dL_areSound_314 : decode cL_areSound 314 = .ok (.iload 5, 2) := by decide +kernel
theorem dL_areSound_316 : decode cL_areSound 316 = .ok (.ifCond .eq 63, 3) := by decide +kernel
theorem dL_areSound_319 : decode cL_areSound 319 = .ok (.iload 6, 2) := by decide +kernel
theorem dL_areSound_321 : decode cL_areSound 321 = .ok (.iconst 5, 1) := by decide +kernel
theorem dL_areSound_322 : decode cL_areSound 322 = .ok (.irem, 1) := by decide +kernel
theorem dL_areSound_323 : decode cL_areSound 323 = .ok (.iload 4, 2) := by decide +kernel
theorem dL_areSound_325 : decode cL_areSound 325 = .ok (.iconst 5, 1) := by decide +kernel
theorem dL_areSound_326 : decode cL_areSound 326 = .ok (.irem, 1) := by decide +kernel
theorem dL_areSound_327 : decode cL_areSound 327 = .ok (.if_icmp .ne 48, 3) := by decide +kernel
theorem dL_areSound_330 : decode cL_areSound 330 = .ok (.iload 6, 2) := by decide +kernel
theorem dL_areSound_332 : decode cL_areSound 332 = .ok (.bipush 12, 2) := by decide +kernel
theorem dL_areSound_334 : decode cL_areSound 334 = .ok (.idiv, 1) := by decide +kernel
theorem dL_areSound_335 : decode cL_areSound 335 = .ok (.aload_n 1, 1) := by decide +kernel
theorem dL_areSound_336 : decode cL_areSound 336 = .ok (.iconst 1, 1) := by decide +kernel
theorem dL_areSound_337 : decode cL_areSound 337 = .ok (.iaload, 1) := by decide +kernel
theorem dL_areSound_338 : decode cL_areSound 338 = .ok (.if_icmp .ge 37, 3) := by decide +kernel
theorem dL_areSound_341 : decode cL_areSound 341 = .ok (.iload 6, 2) := by decide +kernel
theorem dL_areSound_343 : decode cL_areSound 343 = .ok (.bipush 12, 2) := by decide +kernel
theorem dL_areSound_345 : decode cL_areSound 345 = .ok (.irem, 1) := by decide +kernel
theorem dL_areSound_346 : decode cL_areSound 346 = .ok (.aload_n 2, 1) := by decide +kernel
theorem dL_areSound_347 : decode cL_areSound 347 = .ok (.iload 6, 2) := by decide +kernel
theorem dL_areSound_349 : decode cL_areSound 349 = .ok (.bipush 12, 2) := by decide +kernel
theorem dL_areSound_351 : decode cL_areSound 351 = .ok (.idiv, 1) := by decide +kernel
theorem dL_areSound_352 : decode cL_areSound 352 = .ok (.iaload, 1) := by decide +kernel
theorem dL_areSound_353 : decode cL_areSound 353 = .ok (.if_icmp .ge 22, 3) := by decide +kernel
theorem dL_areSound_356 : decode cL_areSound 356 = .ok (.aload_n 0, 1) := by decide +kernel
theorem dL_areSound_357 : decode cL_areSound 357 = .ok (.iload 6, 2) := by decide +kernel
theorem dL_areSound_359 : decode cL_areSound 359 = .ok (.bipush 12, 2) := by decide +kernel
theorem dL_areSound_361 : decode cL_areSound 361 = .ok (.idiv, 1) := by decide +kernel
theorem dL_areSound_362 : decode cL_areSound 362 = .ok (.iload 6, 2) := by decide +kernel
theorem dL_areSound_364 : decode cL_areSound 364 = .ok (.bipush 12, 2) := by decide +kernel
theorem dL_areSound_366 : decode cL_areSound 366 = .ok (.irem, 1) := by decide +kernel
theorem dL_areSound_367 : decode cL_areSound 367 = .ok (.invokevirtual 47, 3) := by decide +kernel
theorem dL_areSound_370 : decode cL_areSound 370 = .ok (.iload 9, 2) := by decide +kernel
theorem dL_areSound_372 : decode cL_areSound 372 = .ok (.if_icmp .ne 7, 3) := by decide +kernel
theorem dL_areSound_375 : decode cL_areSound 375 = .ok (.iconst 1, 1) := by decide +kernel
theorem dL_areSound_376 : decode cL_areSound 376 = .ok (.goto 4, 3) := by decide +kernel
theorem dL_areSound_379 : decode cL_areSound 379 = .ok (.iconst 0, 1) := by decide +kernel
theorem dL_areSound_380 : decode cL_areSound 380 = .ok (.istore 5, 2) := by decide +kernel
theorem dL_areSound_382 : decode cL_areSound 382 = .ok (.iinc 6 1, 3) := by decide +kernel
theorem dL_areSound_385 : decode cL_areSound 385 = .ok (.goto (-379), 3) := by decide +kernel
theorem dL_areSound_388 : decode cL_areSound 388 = .ok (.iconst 0, 1) := by decide +kernel
theorem dL_areSound_389 : decode cL_areSound 389 = .ok (.istore 6, 2) := by decide +kernel
theorem dL_areSound_391 : decode cL_areSound 391 = .ok (.iload 6, 2) := by decide +kernel
theorem dL_areSound_393 : decode cL_areSound 393 = .ok (.aload_n 1, 1) := by decide +kernel
theorem dL_areSound_394 : decode cL_areSound 394 = .ok (.iconst 1, 1) := by decide +kernel
theorem dL_areSound_395 : decode cL_areSound 395 = .ok (.iaload, 1) := by decide +kernel
theorem dL_areSound_396 : decode cL_areSound 396 = .ok (.if_icmp .ge 219, 3) := by decide +kernel
theorem dL_areSound_399 : decode cL_areSound 399 = .ok (.iload 6, 2) := by decide +kernel
theorem dL_areSound_401 : decode cL_areSound 401 = .ok (.iconst 4, 1) := by decide +kernel
theorem dL_areSound_402 : decode cL_areSound 402 = .ok (.if_icmp .ge 213, 3) := by decide +kernel
theorem dL_areSound_405 : decode cL_areSound 405 = .ok (.iload 5, 2) := by decide +kernel
theorem dL_areSound_407 : decode cL_areSound 407 = .ok (.ifCond .eq 208, 3) := by decide +kernel
theorem dL_areSound_410 : decode cL_areSound 410 = .ok (.aload_n 0, 1) := by decide +kernel
theorem dL_areSound_411 : decode cL_areSound 411 = .ok (.iload 6, 2) := by decide +kernel
theorem dL_areSound_413 : decode cL_areSound 413 = .ok (.iconst 0, 1) := by decide +kernel
theorem dL_areSound_414 : decode cL_areSound 414 = .ok (.iconst 1, 1) := by decide +kernel
theorem dL_areSound_415 : decode cL_areSound 415 = .ok (.invokevirtual 83, 3) := by decide +kernel
theorem dL_areSound_418 : decode cL_areSound 418 = .ok (.istore 7, 2) := by decide +kernel
theorem dL_areSound_420 : decode cL_areSound 420 = .ok (.iconst 0, 1) := by decide +kernel
theorem dL_areSound_421 : decode cL_areSound 421 = .ok (.istore 8, 2) := by decide +kernel
theorem dL_areSound_423 : decode cL_areSound 423 = .ok (.iconst 0, 1) := by decide +kernel
theorem dL_areSound_424 : decode cL_areSound 424 = .ok (.istore 9, 2) := by decide +kernel
theorem dL_areSound_426 : decode cL_areSound 426 = .ok (.iconst 0, 1) := by decide +kernel
theorem dL_areSound_427 : decode cL_areSound 427 = .ok (.istore 10, 2) := by decide +kernel
theorem dL_areSound_429 : decode cL_areSound 429 = .ok (.iload 10, 2) := by decide +kernel
theorem dL_areSound_431 : decode cL_areSound 431 = .ok (.aload_n 2, 1) := by decide +kernel
theorem dL_areSound_432 : decode cL_areSound 432 = .ok (.iload 6, 2) := by decide +kernel
theorem dL_areSound_434 : decode cL_areSound 434 = .ok (.iaload, 1) := by decide +kernel
theorem dL_areSound_435 : decode cL_areSound 435 = .ok (.if_icmp .ge 47, 3) := by decide +kernel
theorem dL_areSound_438 : decode cL_areSound 438 = .ok (.iload 8, 2) := by decide +kernel
theorem dL_areSound_440 : decode cL_areSound 440 = .ok (.aload_n 3, 1) := by decide +kernel
theorem dL_areSound_441 : decode cL_areSound 441 = .ok (.bipush 12, 2) := by decide +kernel
theorem dL_areSound_443 : decode cL_areSound 443 = .ok (.iload 6, 2) := by decide +kernel
theorem dL_areSound_445 : decode cL_areSound 445 = .ok (.imul, 1) := by decide +kernel
theorem dL_areSound_446 : decode cL_areSound 446 = .ok (.iload 10, 2) := by decide +kernel
theorem dL_areSound_448 : decode cL_areSound 448 = .ok (.iadd, 1) := by decide +kernel
theorem dL_areSound_449 : decode cL_areSound 449 = .ok (.iaload, 1) := by decide +kernel
theorem dL_areSound_450 : decode cL_areSound 450 = .ok (.iadd, 1) := by decide +kernel
theorem dL_areSound_451 : decode cL_areSound 451 = .ok (.istore 8, 2) := by decide +kernel
theorem dL_areSound_453 : decode cL_areSound 453 = .ok (.iload 9, 2) := by decide +kernel
theorem dL_areSound_455 : decode cL_areSound 455 = .ok (.aload_n 3, 1) := by decide +kernel
theorem dL_areSound_456 : decode cL_areSound 456 = .ok (.bipush 12, 2) := by decide +kernel
theorem dL_areSound_458 : decode cL_areSound 458 = .ok (.iload 6, 2) := by decide +kernel
theorem dL_areSound_460 : decode cL_areSound 460 = .ok (.imul, 1) := by decide +kernel
theorem dL_areSound_461 : decode cL_areSound 461 = .ok (.iload 10, 2) := by decide +kernel
theorem dL_areSound_463 : decode cL_areSound 463 = .ok (.iadd, 1) := by decide +kernel
theorem dL_areSound_464 : decode cL_areSound 464 = .ok (.iaload, 1) := by decide +kernel
theorem dL_areSound_465 : decode cL_areSound 465 = .ok (.ifCond .le 7, 3) := by decide +kernel
theorem dL_areSound_468 : decode cL_areSound 468 = .ok (.iconst 1, 1) := by decide +kernel
theorem dL_areSound_469 : decode cL_areSound 469 = .ok (.goto 4, 3) := by decide +kernel
theorem dL_areSound_472 : decode cL_areSound 472 = .ok (.iconst 0, 1) := by decide +kernel
theorem dL_areSound_473 : decode cL_areSound 473 = .ok (.iadd, 1) := by decide +kernel
theorem dL_areSound_474 : decode cL_areSound 474 = .ok (.istore 9, 2) := by decide +kernel
theorem dL_areSound_476 : decode cL_areSound 476 = .ok (.iinc 10 1, 3) := by decide +kernel
theorem dL_areSound_479 : decode cL_areSound 479 = .ok (.goto (-50), 3) := by decide +kernel
theorem dL_areSound_482 : decode cL_areSound 482 = .ok (.iload 7, 2) := by decide +kernel
theorem dL_areSound_484 : decode cL_areSound 484 = .ok (.iload 8, 2) := by decide +kernel
theorem dL_areSound_486 : decode cL_areSound 486 = .ok (.if_icmp .ne 120, 3) := by decide +kernel
theorem dL_areSound_489 : decode cL_areSound 489 = .ok (.aload_n 0, 1) := by decide +kernel
theorem dL_areSound_490 : decode cL_areSound 490 = .ok (.iload 6, 2) := by decide +kernel
theorem dL_areSound_492 : decode cL_areSound 492 = .ok (.iconst 1, 1) := by decide +kernel
theorem dL_areSound_493 : decode cL_areSound 493 = .ok (.iconst 1, 1) := by decide +kernel
theorem dL_areSound_494 : decode cL_areSound 494 = .ok (.invokevirtual 83, 3) := by decide +kernel
theorem dL_areSound_497 : decode cL_areSound 497 = .ok (.iload 9, 2) := by decide +kernel
theorem dL_areSound_499 : decode cL_areSound 499 = .ok (.if_icmp .ne 107, 3) := by decide +kernel
theorem dL_areSound_502 : decode cL_areSound 502 = .ok (.aload_n 0, 1) := by decide +kernel
theorem dL_areSound_503 : decode cL_areSound 503 = .ok (.iload 6, 2) := by decide +kernel
theorem dL_areSound_505 : decode cL_areSound 505 = .ok (.iconst 2, 1) := by decide +kernel
theorem dL_areSound_506 : decode cL_areSound 506 = .ok (.iconst 1, 1) := by decide +kernel
theorem dL_areSound_507 : decode cL_areSound 507 = .ok (.invokevirtual 83, 3) := by decide +kernel
theorem dL_areSound_510 : decode cL_areSound 510 = .ok (.iload 8, 2) := by decide +kernel
theorem dL_areSound_512 : decode cL_areSound 512 = .ok (.if_icmp .lt 94, 3) := by decide +kernel
theorem dL_areSound_515 : decode cL_areSound 515 = .ok (.aload_n 0, 1) := by decide +kernel
theorem dL_areSound_516 : decode cL_areSound 516 = .ok (.iload 6, 2) := by decide +kernel
theorem dL_areSound_518 : decode cL_areSound 518 = .ok (.iconst 3, 1) := by decide +kernel
theorem dL_areSound_519 : decode cL_areSound 519 = .ok (.iconst 1, 1) := by decide +kernel
theorem dL_areSound_520 : decode cL_areSound 520 = .ok (.invokevirtual 83, 3) := by decide +kernel
theorem dL_areSound_523 : decode cL_areSound 523 = .ok (.iload 8, 2) := by decide +kernel
theorem dL_areSound_525 : decode cL_areSound 525 = .ok (.if_icmp .gt 81, 3) := by decide +kernel
theorem dL_areSound_528 : decode cL_areSound 528 = .ok (.aload_n 0, 1) := by decide +kernel
theorem dL_areSound_529 : decode cL_areSound 529 = .ok (.iload 6, 2) := by decide +kernel
theorem dL_areSound_531 : decode cL_areSound 531 = .ok (.iconst 4, 1) := by decide +kernel
theorem dL_areSound_532 : decode cL_areSound 532 = .ok (.iconst 1, 1) := by decide +kernel
theorem dL_areSound_533 : decode cL_areSound 533 = .ok (.invokevirtual 83, 3) := by decide +kernel
theorem dL_areSound_536 : decode cL_areSound 536 = .ok (.aload_n 0, 1) := by decide +kernel
theorem dL_areSound_537 : decode cL_areSound 537 = .ok (.iload 6, 2) := by decide +kernel
theorem dL_areSound_539 : decode cL_areSound 539 = .ok (.iconst 2, 1) := by decide +kernel
theorem dL_areSound_540 : decode cL_areSound 540 = .ok (.iconst 1, 1) := by decide +kernel
theorem dL_areSound_541 : decode cL_areSound 541 = .ok (.invokevirtual 83, 3) := by decide +kernel
theorem dL_areSound_544 : decode cL_areSound 544 = .ok (.if_icmp .lt 62, 3) := by decide +kernel
theorem dL_areSound_547 : decode cL_areSound 547 = .ok (.aload_n 0, 1) := by decide +kernel
theorem dL_areSound_548 : decode cL_areSound 548 = .ok (.iload 6, 2) := by decide +kernel
theorem dL_areSound_550 : decode cL_areSound 550 = .ok (.iconst 4, 1) := by decide +kernel
theorem dL_areSound_551 : decode cL_areSound 551 = .ok (.iconst 1, 1) := by decide +kernel
theorem dL_areSound_552 : decode cL_areSound 552 = .ok (.invokevirtual 83, 3) := by decide +kernel
theorem dL_areSound_555 : decode cL_areSound 555 = .ok (.iconst 3, 1) := by decide +kernel
theorem dL_areSound_556 : decode cL_areSound 556 = .ok (.iload 8, 2) := by decide +kernel
theorem dL_areSound_558 : decode cL_areSound 558 = .ok (.imul, 1) := by decide +kernel
theorem dL_areSound_559 : decode cL_areSound 559 = .ok (.if_icmp .lt 47, 3) := by decide +kernel
theorem dL_areSound_562 : decode cL_areSound 562 = .ok (.aload_n 0, 1) := by decide +kernel
theorem dL_areSound_563 : decode cL_areSound 563 = .ok (.iload 6, 2) := by decide +kernel
theorem dL_areSound_565 : decode cL_areSound 565 = .ok (.iconst 5, 1) := by decide +kernel
theorem dL_areSound_566 : decode cL_areSound 566 = .ok (.iconst 1, 1) := by decide +kernel
theorem dL_areSound_567 : decode cL_areSound 567 = .ok (.iload 4, 2) := by decide +kernel
theorem dL_areSound_569 : decode cL_areSound 569 = .ok (.bipush 100, 2) := by decide +kernel
theorem dL_areSound_571 : decode cL_areSound 571 = .ok (.irem, 1) := by decide +kernel
theorem dL_areSound_572 : decode cL_areSound 572 = .ok (.iadd, 1) := by decide +kernel
theorem dL_areSound_573 : decode cL_areSound 573 = .ok (.invokevirtual 83, 3) := by decide +kernel
theorem dL_areSound_576 : decode cL_areSound 576 = .ok (.iconst 1, 1) := by decide +kernel
theorem dL_areSound_577 : decode cL_areSound 577 = .ok (.iload 4, 2) := by decide +kernel
theorem dL_areSound_579 : decode cL_areSound 579 = .ok (.bipush 100, 2) := by decide +kernel
theorem dL_areSound_581 : decode cL_areSound 581 = .ok (.irem, 1) := by decide +kernel
theorem dL_areSound_582 : decode cL_areSound 582 = .ok (.iadd, 1) := by decide +kernel
theorem dL_areSound_583 : decode cL_areSound 583 = .ok (.iload 8, 2) := by decide +kernel
theorem dL_areSound_585 : decode cL_areSound 585 = .ok (.imul, 1) := by decide +kernel
theorem dL_areSound_586 : decode cL_areSound 586 = .ok (.iconst 1, 1) := by decide +kernel
theorem dL_areSound_587 : decode cL_areSound 587 = .ok (.iload 4, 2) := by decide +kernel
theorem dL_areSound_589 : decode cL_areSound 589 = .ok (.bipush 100, 2) := by decide +kernel
theorem dL_areSound_591 : decode cL_areSound 591 = .ok (.irem, 1) := by decide +kernel
theorem dL_areSound_592 : decode cL_areSound 592 = .ok (.iadd, 1) := by decide +kernel
theorem dL_areSound_593 : decode cL_areSound 593 = .ok (.iload 8, 2) := by decide +kernel
theorem dL_areSound_595 : decode cL_areSound 595 = .ok (.imul, 1) := by decide +kernel
theorem dL_areSound_596 : decode cL_areSound 596 = .ok (.iconst 2, 1) := by decide +kernel
theorem dL_areSound_597 : decode cL_areSound 597 = .ok (.idiv, 1) := by decide +kernel
theorem dL_areSound_598 : decode cL_areSound 598 = .ok (.iadd, 1) := by decide +kernel
theorem dL_areSound_599 : decode cL_areSound 599 = .ok (.if_icmp .ne 7, 3) := by decide +kernel
theorem dL_areSound_602 : decode cL_areSound 602 = .ok (.iconst 1, 1) := by decide +kernel
theorem dL_areSound_603 : decode cL_areSound 603 = .ok (.goto 4, 3) := by decide +kernel
theorem dL_areSound_606 : decode cL_areSound 606 = .ok (.iconst 0, 1) := by decide +kernel
theorem dL_areSound_607 : decode cL_areSound 607 = .ok (.istore 5, 2) := by decide +kernel
theorem dL_areSound_609 : decode cL_areSound 609 = .ok (.iinc 6 1, 3) := by decide +kernel
theorem dL_areSound_612 : decode cL_areSound 612 = .ok (.goto (-221), 3) := by decide +kernel
theorem dL_areSound_615 : decode cL_areSound 615 = .ok (.iload 5, 2) := by decide +kernel
theorem dL_areSound_617 : decode cL_areSound 617 = .ok (.ireturn, 1) := by decide +kernel
theorem dL_isTextOf_0 : decode cL_isTextOf 0 = .ok (.aload_n 0, 1) := by decide +kernel
theorem dL_isTextOf_1 : decode cL_isTextOf 1 = .ok (.iload_n 1, 1) := by decide +kernel
theorem dL_isTextOf_2 : decode cL_isTextOf 2 = .ok (.iload_n 2, 1) := by decide +kernel
theorem dL_isTextOf_3 : decode cL_isTextOf 3 = .ok (.iload_n 3, 1) := by decide +kernel
theorem dL_isTextOf_4 : decode cL_isTextOf 4 = .ok (.iconst 0, 1) := by decide +kernel
theorem dL_isTextOf_5 : decode cL_isTextOf 5 = .ok (.invokevirtual 43, 3) := by decide +kernel
theorem dL_isTextOf_8 : decode cL_isTextOf 8 = .ok (.istore 4, 2) := by decide +kernel
theorem dL_isTextOf_10 : decode cL_isTextOf 10 = .ok (.aload_n 0, 1) := by decide +kernel
theorem dL_isTextOf_11 : decode cL_isTextOf 11 = .ok (.iload_n 1, 1) := by decide +kernel
theorem dL_isTextOf_12 : decode cL_isTextOf 12 = .ok (.iload_n 2, 1) := by decide +kernel
theorem dL_isTextOf_13 : decode cL_isTextOf 13 = .ok (.iload_n 3, 1) := by decide +kernel
theorem dL_isTextOf_14 : decode cL_isTextOf 14 = .ok (.iconst 1, 1) := by decide +kernel
theorem dL_isTextOf_15 : decode cL_isTextOf 15 = .ok (.invokevirtual 43, 3) := by decide +kernel
theorem dL_isTextOf_18 : decode cL_isTextOf 18 = .ok (.istore 5, 2) := by decide +kernel
theorem dL_isTextOf_20 : decode cL_isTextOf 20 = .ok (.iload 4, 2) := by decide +kernel
theorem dL_isTextOf_22 : decode cL_isTextOf 22 = .ok (.ifCond .ne 7, 3) := by decide +kernel
theorem dL_isTextOf_25 : decode cL_isTextOf 25 = .ok (.iconst 4, 1) := by decide +kernel
theorem dL_isTextOf_26 : decode cL_isTextOf 26 = .ok (.goto 5, 3) := by decide +kernel
theorem dL_isTextOf_29 : decode cL_isTextOf 29 = .ok (.bipush 6, 2) := by decide +kernel
theorem dL_isTextOf_31 : decode cL_isTextOf 31 = .ok (.istore 6, 2) := by decide +kernel
theorem dL_isTextOf_33 : decode cL_isTextOf 33 = .ok (.iload 6, 2) := by decide +kernel
theorem dL_isTextOf_35 : decode cL_isTextOf 35 = .ok (.iconst 3, 1) := by decide +kernel
theorem dL_isTextOf_36 : decode cL_isTextOf 36 = .ok (.iadd, 1) := by decide +kernel
theorem dL_isTextOf_37 : decode cL_isTextOf 37 = .ok (.iload 5, 2) := by decide +kernel
theorem dL_isTextOf_39 : decode cL_isTextOf 39 = .ok (.bipush 9, 2) := by decide +kernel
theorem dL_isTextOf_41 : decode cL_isTextOf 41 = .ok (.if_icmp .le 7, 3) := by decide +kernel
theorem dL_isTextOf_44 : decode cL_isTextOf 44 = .ok (.iconst 2, 1) := by decide +kernel
theorem dL_isTextOf_45 : decode cL_isTextOf 45 = .ok (.goto 4, 3) := by decide +kernel
theorem dL_isTextOf_48 : decode cL_isTextOf 48 = .ok (.iconst 1, 1) := by decide +kernel
theorem dL_isTextOf_49 : decode cL_isTextOf 49 = .ok (.iadd, 1) := by decide +kernel
theorem dL_isTextOf_50 : decode cL_isTextOf 50 = .ok (.iconst 4, 1) := by decide +kernel
theorem dL_isTextOf_51 : decode cL_isTextOf 51 = .ok (.aload_n 0, 1) := by decide +kernel
theorem dL_isTextOf_52 : decode cL_isTextOf 52 = .ok (.iload_n 1, 1) := by decide +kernel
theorem dL_isTextOf_53 : decode cL_isTextOf 53 = .ok (.iload_n 2, 1) := by decide +kernel
theorem dL_isTextOf_54 : decode cL_isTextOf 54 = .ok (.iload_n 3, 1) := by decide +kernel
theorem dL_isTextOf_55 : decode cL_isTextOf 55 = .ok (.iconst 3, 1) := by decide +kernel
theorem dL_isTextOf_56 : decode cL_isTextOf 56 = .ok (.invokevirtual 43, 3) := by decide +kernel
theorem dL_isTextOf_59 : decode cL_isTextOf 59 = .ok (.imul, 1) := by decide +kernel
theorem dL_isTextOf_60 : decode cL_isTextOf 60 = .ok (.iadd, 1) := by decide +kernel
theorem dL_isTextOf_61 : decode cL_isTextOf 61 = .ok (.bipush 8, 2) := by decide +kernel
theorem dL_isTextOf_63 : decode cL_isTextOf 63 = .ok (.aload_n 0, 1) := by decide +kernel
theorem dL_isTextOf_64 : decode cL_isTextOf 64 = .ok (.iload_n 1, 1) := by decide +kernel
theorem dL_isTextOf_65 : decode cL_isTextOf 65 = .ok (.iload_n 2, 1) := by decide +kernel
theorem dL_isTextOf_66 : decode cL_isTextOf 66 = .ok (.iload_n 3, 1) := by decide +kernel
theorem dL_isTextOf_67 : decode cL_isTextOf 67 = .ok (.iconst 4, 1) := by decide +kernel
theorem dL_isTextOf_68 : decode cL_isTextOf 68 = .ok (.invokevirtual 43, 3) := by decide +kernel
theorem dL_isTextOf_71 : decode cL_isTextOf 71 = .ok (.imul, 1) := by decide +kernel
theorem dL_isTextOf_72 : decode cL_isTextOf 72 = .ok (.iadd, 1) := by decide +kernel
theorem dL_isTextOf_73 : decode cL_isTextOf 73 = .ok (.istore 7, 2) := by decide +kernel
theorem dL_isTextOf_75 : decode cL_isTextOf 75 = .ok (.iload 5, 2) := by decide +kernel
theorem dL_isTextOf_77 : decode cL_isTextOf 77 = .ok (.bipush 9, 2) := by decide +kernel
theorem dL_isTextOf_79 : decode cL_isTextOf 79 = .ok (.if_icmp .le 38, 3) := by decide +kernel
theorem dL_isTextOf_82 : decode cL_isTextOf 82 = .ok (.bipush 10, 2) := by decide +kernel
theorem dL_isTextOf_84 : decode cL_isTextOf 84 = .ok (.aload_n 0, 1) := by decide +kernel
theorem dL_isTextOf_85 : decode cL_isTextOf 85 = .ok (.iload_n 1, 1) := by decide +kernel
theorem dL_isTextOf_86 : decode cL_isTextOf 86 = .ok (.iload_n 2, 1) := by decide +kernel
theorem dL_isTextOf_87 : decode cL_isTextOf 87 = .ok (.iload_n 3, 1) := by decide +kernel
theorem dL_isTextOf_88 : decode cL_isTextOf 88 = .ok (.iload 6, 2) := by decide +kernel
theorem dL_isTextOf_90 : decode cL_isTextOf 90 = .ok (.iconst 1, 1) := by decide +kernel
theorem dL_isTextOf_91 : decode cL_isTextOf 91 = .ok (.iadd, 1) := by decide +kernel
theorem dL_isTextOf_92 : decode cL_isTextOf 92 = .ok (.invokevirtual 50, 3) := by decide +kernel
theorem dL_isTextOf_95 : decode cL_isTextOf 95 = .ok (.bipush 48, 2) := by decide +kernel
theorem dL_isTextOf_97 : decode cL_isTextOf 97 = .ok (.isub, 1) := by decide +kernel
theorem dL_isTextOf_98 : decode cL_isTextOf 98 = .ok (.imul, 1) := by decide +kernel
theorem dL_isTextOf_99 : decode cL_isTextOf 99 = .ok (.aload_n 0, 1) := by decide +kernel
theorem dL_isTextOf_100 : decode cL_isTextOf 100 = .ok (.iload_n 1, 1) := by decide +kernel
theorem dL_isTextOf_101 : decode cL_isTextOf 101 = .ok (.iload_n 2, 1) := by decide +kernel
theorem dL_isTextOf_102 : decode cL_isTextOf 102 = .ok (.iload_n 3, 1) := by decide +kernel
theorem dL_isTextOf_103 : decode cL_isTextOf 103 = .ok (.iload 6, 2) := by decide +kernel
theorem dL_isTextOf_105 : decode cL_isTextOf 105 = .ok (.iconst 2, 1) := by decide +kernel
theorem dL_isTextOf_106 : decode cL_isTextOf 106 = .ok (.iadd, 1) := by decide +kernel
theorem dL_isTextOf_107 : decode cL_isTextOf 107 = .ok (.invokevirtual 50, 3) := by decide +kernel
theorem dL_isTextOf_110 : decode cL_isTextOf 110 = .ok (.iadd, 1) := by decide +kernel
theorem dL_isTextOf_111 : decode cL_isTextOf 111 = .ok (.bipush 48, 2) := by decide +kernel
theorem dL_isTextOf_113 : decode cL_isTextOf 113 = .ok (.isub, 1) := by decide +kernel
theorem dL_isTextOf_114 : decode cL_isTextOf 114 = .ok (.goto 17, 3) := by decide +kernel
theorem dL_isTextOf_117 : decode cL_isTextOf 117 = .ok (.aload_n 0, 1) := by decide +kernel
theorem dL_isTextOf_118 : decode cL_isTextOf 118 = .ok (.iload_n 1, 1) := by decide +kernel
theorem dL_isTextOf_119 : decode cL_isTextOf 119 = .ok (.iload_n 2, 1) := by decide +kernel
theorem dL_isTextOf_120 : decode cL_isTextOf 120 = .ok (.iload_n 3, 1) := by decide +kernel
theorem dL_isTextOf_121 : decode cL_isTextOf 121 = .ok (.iload 6, 2) := by decide +kernel
theorem dL_isTextOf_123 : decode cL_isTextOf 123 = .ok (.iconst 1, 1) := by decide +kernel
theorem dL_isTextOf_124 : decode cL_isTextOf 124 = .ok (.iadd, 1) := by decide +kernel
theorem dL_isTextOf_125 : decode cL_isTextOf 125 = .ok (.invokevirtual 50, 3) := by decide +kernel
theorem dL_isTextOf_128 : decode cL_isTextOf 128 = .ok (.bipush 48, 2) := by decide +kernel
theorem dL_isTextOf_130 : decode cL_isTextOf 130 = .ok (.isub, 1) := by decide +kernel
theorem dL_isTextOf_131 : decode cL_isTextOf 131 = .ok (.istore 8, 2) := by decide +kernel
theorem dL_isTextOf_133 : decode cL_isTextOf 133 = .ok (.iload 8, 2) := by decide +kernel
theorem dL_isTextOf_135 : decode cL_isTextOf 135 = .ok (.iload 5, 2) := by decide +kernel
theorem dL_isTextOf_137 : decode cL_isTextOf 137 = .ok (.if_icmp .ne 97, 3) := by decide +kernel
theorem dL_isTextOf_140 : decode cL_isTextOf 140 = .ok (.aload_n 0, 1) := by decide +kernel
theorem dL_isTextOf_141 : decode cL_isTextOf 141 = .ok (.iload_n 1, 1) := by decide +kernel
theorem dL_isTextOf_142 : decode cL_isTextOf 142 = .ok (.iload_n 2, 1) := by decide +kernel
theorem dL_isTextOf_143 : decode cL_isTextOf 143 = .ok (.iload_n 3, 1) := by decide +kernel
theorem dL_isTextOf_144 : decode cL_isTextOf 144 = .ok (.iload 6, 2) := by decide +kernel
theorem dL_isTextOf_146 : decode cL_isTextOf 146 = .ok (.invokevirtual 50, 3) := by decide +kernel
theorem dL_isTextOf_149 : decode cL_isTextOf 149 = .ok (.bipush 32, 2) := by decide +kernel
theorem dL_isTextOf_151 : decode cL_isTextOf 151 = .ok (.if_icmp .ne 83, 3) := by decide +kernel
theorem dL_isTextOf_154 : decode cL_isTextOf 154 = .ok (.aload_n 0, 1) := by decide +kernel
theorem dL_isTextOf_155 : decode cL_isTextOf 155 = .ok (.iload_n 1, 1) := by decide +kernel
theorem dL_isTextOf_156 : decode cL_isTextOf 156 = .ok (.iload_n 2, 1) := by decide +kernel
theorem dL_isTextOf_157 : decode cL_isTextOf 157 = .ok (.iload_n 3, 1) := by decide +kernel
theorem dL_isTextOf_158 : decode cL_isTextOf 158 = .ok (.iload 7, 2) := by decide +kernel
theorem dL_isTextOf_160 : decode cL_isTextOf 160 = .ok (.invokevirtual 50, 3) := by decide +kernel
theorem dL_isTextOf_163 : decode cL_isTextOf 163 = .ok (.ifCond .ne 71, 3) := by decide +kernel
theorem dL_isTextOf_166 : decode cL_isTextOf 166 = .ok (.aload_n 0, 1) := by decide +kernel
theorem dL_isTextOf_167 : decode cL_isTextOf 167 = .ok (.iload_n 1, 1) := by decide +kernel
theorem dL_isTextOf_168 : decode cL_isTextOf 168 = .ok (.iload_n 2, 1) := by decide +kernel
theorem dL_isTextOf_169 : decode cL_isTextOf 169 = .ok (.iload_n 3, 1) := by decide +kernel
theorem dL_isTextOf_170 : decode cL_isTextOf 170 = .ok (.iload 7, 2) := by decide +kernel
theorem dL_isTextOf_172 : decode cL_isTextOf 172 = .ok (.iconst 1, 1) := by decide +kernel
theorem dL_isTextOf_173 : decode cL_isTextOf 173 = .ok (.isub, 1) := by decide +kernel
theorem dL_isTextOf_174 : decode cL_isTextOf 174 = .ok (.invokevirtual 50, 3) := by decide +kernel
theorem dL_isTextOf_177 : decode cL_isTextOf 177 = .ok (.ifCond .eq 57, 3) := by decide +kernel
theorem dL_isTextOf_180 : decode cL_isTextOf 180 = .ok (.aload_n 0, 1) := by decide +kernel
theorem dL_isTextOf_181 : decode cL_isTextOf 181 = .ok (.iload_n 1, 1) := by decide +kernel
theorem dL_isTextOf_182 : decode cL_isTextOf 182 = .ok (.iload_n 2, 1) := by decide +kernel
theorem dL_isTextOf_183 : decode cL_isTextOf 183 = .ok (.iload_n 3, 1) := by decide +kernel
theorem dL_isTextOf_184 : decode cL_isTextOf 184 = .ok (.iconst 0, 1) := by decide +kernel
theorem dL_isTextOf_185 : decode cL_isTextOf 185 = .ok (.invokevirtual 50, 3) := by decide +kernel
theorem dL_isTextOf_188 : decode cL_isTextOf 188 = .ok (.iload 4, 2) := by decide +kernel
theorem dL_isTextOf_190 : decode cL_isTextOf 190 = .ok (.ifCond .ne 8, 3) := by decide +kernel
theorem dL_isTextOf_193 : decode cL_isTextOf 193 = .ok (.bipush 108, 2) := by decide +kernel
theorem dL_isTextOf_195 : decode cL_isTextOf 195 = .ok (.goto 16, 3) := by decide +kernel
theorem dL_isTextOf_198 : decode cL_isTextOf 198 = .ok (.iload 4, 2) := by decide +kernel
theorem dL_isTextOf_200 : decode cL_isTextOf 200 = .ok (.iconst 3, 1) := by decide +kernel
theorem dL_isTextOf_201 : decode cL_isTextOf 201 = .ok (.if_icmp .ne 8, 3) := by decide +kernel
theorem dL_isTextOf_204 : decode cL_isTextOf 204 = .ok (.bipush 99, 2) := by decide +kernel
theorem dL_isTextOf_206 : decode cL_isTextOf 206 = .ok (.goto 5, 3) := by decide +kernel
theorem dL_isTextOf_209 : decode cL_isTextOf 209 = .ok (.bipush 103, 2) := by decide +kernel
theorem dL_isTextOf_211 : decode cL_isTextOf 211 = .ok (.if_icmp .ne 23, 3) := by decide +kernel
theorem dL_isTextOf_214 : decode cL_isTextOf 214 = .ok (.aload_n 0, 1) := by decide +kernel
theorem dL_isTextOf_215 : decode cL_isTextOf 215 = .ok (.bipush 10, 2) := by decide +kernel
theorem dL_isTextOf_217 : decode cL_isTextOf 217 = .ok (.iload_n 1, 1) := by decide +kernel
theorem dL_isTextOf_218 : decode cL_isTextOf 218 = .ok (.iload_n 2, 1) := by decide +kernel
theorem dL_isTextOf_219 : decode cL_isTextOf 219 = .ok (.iload_n 3, 1) := by decide +kernel
theorem dL_isTextOf_220 : decode cL_isTextOf 220 = .ok (.iconst (-1), 1) := by decide +kernel
theorem dL_isTextOf_221 : decode cL_isTextOf 221 = .ok (.iconst 0, 1) := by decide +kernel
theorem dL_isTextOf_222 : decode cL_isTextOf 222 = .ok (.invokestatic 117, 3) := by decide +kernel
theorem dL_isTextOf_225 : decode cL_isTextOf 225 = .ok (.ldc 92, 2) := by decide +kernel
theorem dL_isTextOf_227 : decode cL_isTextOf 227 = .ok (.if_icmp .ne 7, 3) := by decide +kernel
theorem dL_isTextOf_230 : decode cL_isTextOf 230 = .ok (.iconst 1, 1) := by decide +kernel
theorem dL_isTextOf_231 : decode cL_isTextOf 231 = .ok (.goto 4, 3) := by decide +kernel
theorem dL_isTextOf_234 : decode cL_isTextOf 234 = .ok (.iconst 0, 1) := by decide +kernel
theorem dL_isTextOf_235 : decode cL_isTextOf 235 = .ok (.ireturn, 1) := by decide +kernel
theorem dL_isMeasured_0 : decode cL_isMeasured 0 = .ok (.iconst 1, 1) := by decide +kernel
theorem dL_isMeasured_1 : decode cL_isMeasured 1 = .ok (.iload_n 1, 1) := by decide +kernel
theorem dL_isMeasured_2 : decode cL_isMeasured 2 = .ok (.ldc 133, 2) := by decide +kernel
theorem dL_isMeasured_4 : decode cL_isMeasured 4 = .ok (.irem, 1) := by decide +kernel
theorem dL_isMeasured_5 : decode cL_isMeasured 5 = .ok (.iadd, 1) := by decide +kernel
theorem dL_isMeasured_6 : decode cL_isMeasured 6 = .ok (.istore_n 2, 1) := by decide +kernel
theorem dL_isMeasured_7 : decode cL_isMeasured 7 = .ok (.iconst 1, 1) := by decide +kernel
theorem dL_isMeasured_8 : decode cL_isMeasured 8 = .ok (.iload_n 1, 1) := by decide +kernel
theorem dL_isMeasured_9 : decode cL_isMeasured 9 = .ok (.bipush 7, 2) := by decide +kernel
theorem dL_isMeasured_11 : decode cL_isMeasured 11 = .ok (.idiv, 1) := by decide +kernel
theorem dL_isMeasured_12 : decode cL_isMeasured 12 = .ok (.sipush 9000, 3) := by decide +kernel
theorem dL_isMeasured_15 : decode cL_isMeasured 15 = .ok (.irem, 1) := by decide +kernel
theorem dL_isMeasured_16 : decode cL_isMeasured 16 = .ok (.iadd, 1) := by decide +kernel
theorem dL_isMeasured_17 : decode cL_isMeasured 17 = .ok (.istore_n 3, 1) := by decide +kernel
theorem dL_isMeasured_18 : decode cL_isMeasured 18 = .ok (.aload_n 0, 1) := by decide +kernel
theorem dL_isMeasured_19 : decode cL_isMeasured 19 = .ok (.iload_n 2, 1) := by decide +kernel
theorem dL_isMeasured_20 : decode cL_isMeasured 20 = .ok (.iload_n 3, 1) := by decide +kernel
theorem dL_isMeasured_21 : decode cL_isMeasured 21 = .ok (.invokevirtual 65, 3) := by decide +kernel
theorem dL_isMeasured_24 : decode cL_isMeasured 24 = .ok (.istore 4, 2) := by decide +kernel
theorem dL_isMeasured_26 : decode cL_isMeasured 26 = .ok (.iload_n 2, 1) := by decide +kernel
theorem dL_isMeasured_27 : decode cL_isMeasured 27 = .ok (.i2l, 1) := by decide +kernel
theorem dL_isMeasured_28 : decode cL_isMeasured 28 = .ok (.iload 4, 2) := by decide +kernel
theorem dL_isMeasured_30 : decode cL_isMeasured 30 = .ok (.i2l, 1) := by decide +kernel
theorem dL_isMeasured_31 : decode cL_isMeasured 31 = .ok (.iload_n 3, 1) := by decide +kernel
theorem dL_isMeasured_32 : decode cL_isMeasured 32 = .ok (.i2l, 1) := by decide +kernel
theorem dL_isMeasured_33 : decode cL_isMeasured 33 = .ok (.lmul, 1) := by decide +kernel
theorem dL_isMeasured_34 : decode cL_isMeasured 34 = .ok (.lsub, 1) := by decide +kernel
theorem dL_isMeasured_35 : decode cL_isMeasured 35 = .ok (.lstore 5, 2) := by decide +kernel
theorem dL_isMeasured_37 : decode cL_isMeasured 37 = .ok (.lload 5, 2) := by decide +kernel
theorem dL_isMeasured_39 : decode cL_isMeasured 39 = .ok (.lconst 0, 1) := by decide +kernel
theorem dL_isMeasured_40 : decode cL_isMeasured 40 = .ok (.lcmp, 1) := by decide +kernel
theorem dL_isMeasured_41 : decode cL_isMeasured 41 = .ok (.ifCond .ge 9, 3) := by decide +kernel
theorem dL_isMeasured_44 : decode cL_isMeasured 44 = .ok (.lload 5, 2) := by decide +kernel
theorem dL_isMeasured_46 : decode cL_isMeasured 46 = .ok (.lneg, 1) := by decide +kernel
theorem dL_isMeasured_47 : decode cL_isMeasured 47 = .ok (.goto 5, 3) := by decide +kernel
theorem dL_isMeasured_50 : decode cL_isMeasured 50 = .ok (.lload 5, 2) := by decide +kernel
theorem dL_isMeasured_52 : decode cL_isMeasured 52 = .ok (.lstore 5, 2) := by decide +kernel
theorem dL_isMeasured_54 : decode cL_isMeasured 54 = .ok (.iload_n 2, 1) := by decide +kernel
theorem dL_isMeasured_55 : decode cL_isMeasured 55 = .ok (.i2l, 1) := by decide +kernel
theorem dL_isMeasured_56 : decode cL_isMeasured 56 = .ok (.iload 4, 2) := by decide +kernel
theorem dL_isMeasured_58 : decode cL_isMeasured 58 = .ok (.i2l, 1) := by decide +kernel
theorem dL_isMeasured_59 : decode cL_isMeasured 59 = .ok (.lconst 1, 1) := by decide +kernel
theorem dL_isMeasured_60 : decode cL_isMeasured 60 = .ok (.ladd, 1) := by decide +kernel
theorem dL_isMeasured_61 : decode cL_isMeasured 61 = .ok (.iload_n 3, 1) := by decide +kernel
theorem dL_isMeasured_62 : decode cL_isMeasured 62 = .ok (.i2l, 1) := by decide +kernel
theorem dL_isMeasured_63 : decode cL_isMeasured 63 = .ok (.lmul, 1) := by decide +kernel
theorem dL_isMeasured_64 : decode cL_isMeasured 64 = .ok (.lsub, 1) := by decide +kernel
theorem dL_isMeasured_65 : decode cL_isMeasured 65 = .ok (.lstore 7, 2) := by decide +kernel
theorem dL_isMeasured_67 : decode cL_isMeasured 67 = .ok (.lload 7, 2) := by decide +kernel
theorem dL_isMeasured_69 : decode cL_isMeasured 69 = .ok (.lconst 0, 1) := by decide +kernel
theorem dL_isMeasured_70 : decode cL_isMeasured 70 = .ok (.lcmp, 1) := by decide +kernel
theorem dL_isMeasured_71 : decode cL_isMeasured 71 = .ok (.ifCond .ge 9, 3) := by decide +kernel
theorem dL_isMeasured_74 : decode cL_isMeasured 74 = .ok (.lload 7, 2) := by decide +kernel
theorem dL_isMeasured_76 : decode cL_isMeasured 76 = .ok (.lneg, 1) := by decide +kernel
theorem dL_isMeasured_77 : decode cL_isMeasured 77 = .ok (.goto 5, 3) := by decide +kernel
theorem dL_isMeasured_80 : decode cL_isMeasured 80 = .ok (.lload 7, 2) := by decide +kernel
theorem dL_isMeasured_82 : decode cL_isMeasured 82 = .ok (.lstore 7, 2) := by decide +kernel
theorem dL_isMeasured_84 : decode cL_isMeasured 84 = .ok (.iload_n 2, 1) := by decide +kernel
theorem dL_isMeasured_85 : decode cL_isMeasured 85 = .ok (.i2l, 1) := by decide +kernel
theorem dL_isMeasured_86 : decode cL_isMeasured 86 = .ok (.iload 4, 2) := by decide +kernel
theorem dL_isMeasured_88 : decode cL_isMeasured 88 = .ok (.i2l, 1) := by decide +kernel
theorem dL_isMeasured_89 : decode cL_isMeasured 89 = .ok (.lconst 1, 1) := by decide +kernel
theorem dL_isMeasured_90 : decode cL_isMeasured 90 = .ok (.lsub, 1) := by decide +kernel
theorem dL_isMeasured_91 : decode cL_isMeasured 91 = .ok (.iload_n 3, 1) := by decide +kernel
theorem dL_isMeasured_92 : decode cL_isMeasured 92 = .ok (.i2l, 1) := by decide +kernel
theorem dL_isMeasured_93 : decode cL_isMeasured 93 = .ok (.lmul, 1) := by decide +kernel
theorem dL_isMeasured_94 : decode cL_isMeasured 94 = .ok (.lsub, 1) := by decide +kernel
theorem dL_isMeasured_95 : decode cL_isMeasured 95 = .ok (.lstore 9, 2) := by decide +kernel
theorem dL_isMeasured_97 : decode cL_isMeasured 97 = .ok (.lload 9, 2) := by decide +kernel
theorem dL_isMeasured_99 : decode cL_isMeasured 99 = .ok (.lconst 0, 1) := by decide +kernel
theorem dL_isMeasured_100 : decode cL_isMeasured 100 = .ok (.lcmp, 1) := by decide +kernel
theorem dL_isMeasured_101 : decode cL_isMeasured 101 = .ok (.ifCond .ge 9, 3) := by decide +kernel
theorem dL_isMeasured_104 : decode cL_isMeasured 104 = .ok (.lload 9, 2) := by decide +kernel
theorem dL_isMeasured_106 : decode cL_isMeasured 106 = .ok (.lneg, 1) := by decide +kernel
theorem dL_isMeasured_107 : decode cL_isMeasured 107 = .ok (.goto 5, 3) := by decide +kernel
theorem dL_isMeasured_110 : decode cL_isMeasured 110 = .ok (.lload 9, 2) := by decide +kernel
theorem dL_isMeasured_112 : decode cL_isMeasured 112 = .ok (.lstore 9, 2) := by decide +kernel
theorem dL_isMeasured_114 : decode cL_isMeasured 114 = .ok (.iload 4, 2) := by decide +kernel
theorem dL_isMeasured_116 : decode cL_isMeasured 116 = .ok (.ifCond .le 49, 3) := by decide +kernel
theorem dL_isMeasured_119 : decode cL_isMeasured 119 = .ok (.lload 5, 2) := by decide +kernel
theorem dL_isMeasured_121 : decode cL_isMeasured 121 = .ok (.iload 4, 2) := by decide +kernel
theorem dL_isMeasured_123 : decode cL_isMeasured 123 = .ok (.i2l, 1) := by decide +kernel
theorem dL_isMeasured_124 : decode cL_isMeasured 124 = .ok (.lconst 1, 1) := by decide +kernel
theorem dL_isMeasured_125 : decode cL_isMeasured 125 = .ok (.ladd, 1) := by decide +kernel
theorem dL_isMeasured_126 : decode cL_isMeasured 126 = .ok (.lmul, 1) := by decide +kernel
theorem dL_isMeasured_127 : decode cL_isMeasured 127 = .ok (.lload 7, 2) := by decide +kernel
theorem dL_isMeasured_129 : decode cL_isMeasured 129 = .ok (.iload 4, 2) := by decide +kernel
theorem dL_isMeasured_131 : decode cL_isMeasured 131 = .ok (.i2l, 1) := by decide +kernel
theorem dL_isMeasured_132 : decode cL_isMeasured 132 = .ok (.lmul, 1) := by decide +kernel
theorem dL_isMeasured_133 : decode cL_isMeasured 133 = .ok (.lcmp, 1) := by decide +kernel
theorem dL_isMeasured_134 : decode cL_isMeasured 134 = .ok (.ifCond .gt 31, 3) := by decide +kernel
theorem dL_isMeasured_137 : decode cL_isMeasured 137 = .ok (.iload 4, 2) := by decide +kernel
theorem dL_isMeasured_139 : decode cL_isMeasured 139 = .ok (.iconst 1, 1) := by decide +kernel
theorem dL_isMeasured_140 : decode cL_isMeasured 140 = .ok (.if_icmp .eq 21, 3) := by decide +kernel
theorem dL_isMeasured_143 : decode cL_isMeasured 143 = .ok (.lload 5, 2) := by decide +kernel
theorem dL_isMeasured_145 : decode cL_isMeasured 145 = .ok (.iload 4, 2) := by decide +kernel
theorem dL_isMeasured_147 : decode cL_isMeasured 147 = .ok (.i2l, 1) := by decide +kernel
theorem dL_isMeasured_148 : decode cL_isMeasured 148 = .ok (.lconst 1, 1) := by decide +kernel
theorem dL_isMeasured_149 : decode cL_isMeasured 149 = .ok (.lsub, 1) := by decide +kernel
theorem dL_isMeasured_150 : decode cL_isMeasured 150 = .ok (.lmul, 1) := by decide +kernel
theorem dL_isMeasured_151 : decode cL_isMeasured 151 = .ok (.lload 9, 2) := by decide +kernel
theorem dL_isMeasured_153 : decode cL_isMeasured 153 = .ok (.iload 4, 2) := by decide +kernel
theorem dL_isMeasured_155 : decode cL_isMeasured 155 = .ok (.i2l, 1) := by decide +kernel
theorem dL_isMeasured_156 : decode cL_isMeasured 156 = .ok (.lmul, 1) := by decide +kernel
theorem dL_isMeasured_157 : decode cL_isMeasured 157 = .ok (.lcmp, 1) := by decide +kernel
theorem dL_isMeasured_158 : decode cL_isMeasured 158 = .ok (.ifCond .ge 7, 3) := by decide +kernel
theorem dL_isMeasured_161 : decode cL_isMeasured 161 = .ok (.iconst 1, 1) := by decide +kernel
theorem dL_isMeasured_162 : decode cL_isMeasured 162 = .ok (.goto 4, 3) := by decide +kernel
theorem dL_isMeasured_165 : decode cL_isMeasured 165 = .ok (.iconst 0, 1) := by decide +kernel
theorem dL_isMeasured_166 : decode cL_isMeasured 166 = .ok (.istore 11, 2) := by decide +kernel
theorem dL_isMeasured_168 : decode cL_isMeasured 168 = .ok (.sipush 2000, 3) := by decide +kernel
theorem dL_isMeasured_171 : decode cL_isMeasured 171 = .ok (.iload_n 1, 1) := by decide +kernel
theorem dL_isMeasured_172 : decode cL_isMeasured 172 = .ok (.ldc 134, 2) := by decide +kernel
theorem dL_isMeasured_174 : decode cL_isMeasured 174 = .ok (.irem, 1) := by decide +kernel
theorem dL_isMeasured_175 : decode cL_isMeasured 175 = .ok (.iadd, 1) := by decide +kernel
theorem dL_isMeasured_176 : decode cL_isMeasured 176 = .ok (.istore 12, 2) := by decide +kernel
theorem dL_isMeasured_178 : decode cL_isMeasured 178 = .ok (.iconst 1, 1) := by decide +kernel
theorem dL_isMeasured_179 : decode cL_isMeasured 179 = .ok (.iload_n 1, 1) := by decide +kernel
theorem dL_isMeasured_180 : decode cL_isMeasured 180 = .ok (.bipush 11, 2) := by decide +kernel
theorem dL_isMeasured_182 : decode cL_isMeasured 182 = .ok (.idiv, 1) := by decide +kernel
theorem dL_isMeasured_183 : decode cL_isMeasured 183 = .ok (.sipush 1000, 3) := by decide +kernel
theorem dL_isMeasured_186 : decode cL_isMeasured 186 = .ok (.irem, 1) := by decide +kernel
theorem dL_isMeasured_187 : decode cL_isMeasured 187 = .ok (.iadd, 1) := by decide +kernel
theorem dL_isMeasured_188 : decode cL_isMeasured 188 = .ok (.istore 13, 2) := by decide +kernel
theorem dL_isMeasured_190 : decode cL_isMeasured 190 = .ok (.aload_n 0, 1) := by decide +kernel
theorem dL_isMeasured_191 : decode cL_isMeasured 191 = .ok (.iload 12, 2) := by decide +kernel
theorem dL_isMeasured_193 : decode cL_isMeasured 193 = .ok (.iload 13, 2) := by decide +kernel
theorem dL_isMeasured_195 : decode cL_isMeasured 195 = .ok (.iload_n 1, 1) := by decide +kernel
theorem dL_isMeasured_196 : decode cL_isMeasured 196 = .ok (.bipush 21, 2) := by decide +kernel
theorem dL_isMeasured_198 : decode cL_isMeasured 198 = .ok (.irem, 1) := by decide +kernel
theorem dL_isMeasured_199 : decode cL_isMeasured 199 = .ok (.invokevirtual 71, 3) := by decide +kernel
theorem dL_isMeasured_202 : decode cL_isMeasured 202 = .ok (.istore 14, 2) := by decide +kernel
theorem dL_isMeasured_204 : decode cL_isMeasured 204 = .ok (.aload_n 0, 1) := by decide +kernel
theorem dL_isMeasured_205 : decode cL_isMeasured 205 = .ok (.iload_n 2, 1) := by decide +kernel
theorem dL_isMeasured_206 : decode cL_isMeasured 206 = .ok (.iload_n 3, 1) := by decide +kernel
theorem dL_isMeasured_207 : decode cL_isMeasured 207 = .ok (.invokevirtual 68, 3) := by decide +kernel
theorem dL_isMeasured_210 : decode cL_isMeasured 210 = .ok (.f2i, 1) := by decide +kernel
theorem dL_isMeasured_211 : decode cL_isMeasured 211 = .ok (.istore 15, 2) := by decide +kernel
theorem dL_isMeasured_213 : decode cL_isMeasured 213 = .ok (.iload 11, 2) := by decide +kernel
theorem dL_isMeasured_215 : decode cL_isMeasured 215 = .ok (.ifCond .eq 48, 3) := by decide +kernel
theorem dL_isMeasured_218 : decode cL_isMeasured 218 = .ok (.iload 15, 2) := by decide +kernel
theorem dL_isMeasured_220 : decode cL_isMeasured 220 = .ok (.iload_n 2, 1) := by decide +kernel
theorem dL_isMeasured_221 : decode cL_isMeasured 221 = .ok (.iload 4, 2) := by decide +kernel
theorem dL_isMeasured_223 : decode cL_isMeasured 223 = .ok (.idiv, 1) := by decide +kernel
theorem dL_isMeasured_224 : decode cL_isMeasured 224 = .ok (.if_icmp .ne 39, 3) := by decide +kernel
theorem dL_isMeasured_227 : decode cL_isMeasured 227 = .ok (.iload 14, 2) := by decide +kernel
theorem dL_isMeasured_229 : decode cL_isMeasured 229 = .ok (.ifCond .lt 34, 3) := by decide +kernel
theorem dL_isMeasured_232 : decode cL_isMeasured 232 = .ok (.iload 14, 2) := by decide +kernel
theorem dL_isMeasured_234 : decode cL_isMeasured 234 = .ok (.iload 13, 2) := by decide +kernel
theorem dL_isMeasured_236 : decode cL_isMeasured 236 = .ok (.if_icmp .ge 27, 3) := by decide +kernel
theorem dL_isMeasured_239 : decode cL_isMeasured 239 = .ok (.iload 14, 2) := by decide +kernel
theorem dL_isMeasured_241 : decode cL_isMeasured 241 = .ok (.ifCond .gt 18, 3) := by decide +kernel
theorem dL_isMeasured_244 : decode cL_isMeasured 244 = .ok (.aload_n 0, 1) := by decide +kernel
theorem dL_isMeasured_245 : decode cL_isMeasured 245 = .ok (.iload 12, 2) := by decide +kernel
theorem dL_isMeasured_247 : decode cL_isMeasured 247 = .ok (.iload 13, 2) := by decide +kernel
theorem dL_isMeasured_249 : decode cL_isMeasured 249 = .ok (.iload_n 1, 1) := by decide +kernel
theorem dL_isMeasured_250 : decode cL_isMeasured 250 = .ok (.bipush 21, 2) := by decide +kernel
theorem dL_isMeasured_252 : decode cL_isMeasured 252 = .ok (.irem, 1) := by decide +kernel
theorem dL_isMeasured_253 : decode cL_isMeasured 253 = .ok (.invokevirtual 71, 3) := by decide +kernel
theorem dL_isMeasured_256 : decode cL_isMeasured 256 = .ok (.ifCond .ne 7, 3) := by decide +kernel
theorem dL_isMeasured_259 : decode cL_isMeasured 259 = .ok (.iconst 1, 1) := by decide +kernel
theorem dL_isMeasured_260 : decode cL_isMeasured 260 = .ok (.goto 4, 3) := by decide +kernel
theorem dL_isMeasured_263 : decode cL_isMeasured 263 = .ok (.iconst 0, 1) := by decide +kernel
theorem dL_isMeasured_264 : decode cL_isMeasured 264 = .ok (.ireturn, 1) := by decide +kernel
theorem dL_isTold_0 : decode cL_isTold 0 = .ok (.iload_n 1, 1) := by decide +kernel
theorem dL_isTold_1 : decode cL_isTold 1 = .ok (.bipush 50, 2) := by decide +kernel
theorem dL_isTold_3 : decode cL_isTold 3 = .ok (.irem, 1) := by decide +kernel
theorem dL_isTold_4 : decode cL_isTold 4 = .ok (.istore_n 2, 1) := by decide +kernel
theorem dL_isTold_5 : decode cL_isTold 5 = .ok (.iload_n 1, 1) := by decide +kernel
theorem dL_isTold_6 : decode cL_isTold 6 = .ok (.bipush 50, 2) := by decide +kernel
theorem dL_isTold_8 : decode cL_isTold 8 = .ok (.idiv, 1) := by decide +kernel
theorem dL_isTold_9 : decode cL_isTold 9 = .ok (.bipush 50, 2) := by decide +kernel
theorem dL_isTold_11 : decode cL_isTold 11 = .ok (.irem, 1) := by decide +kernel
theorem dL_isTold_12 : decode cL_isTold 12 = .ok (.istore_n 3, 1) := by decide +kernel
theorem dL_isTold_13 : decode cL_isTold 13 = .ok (.iload_n 1, 1) := by decide +kernel
theorem dL_isTold_14 : decode cL_isTold 14 = .ok (.sipush 2500, 3) := by decide +kernel
theorem dL_isTold_17 : decode cL_isTold 17 = .ok (.idiv, 1) := by decide +kernel
theorem dL_isTold_18 : decode cL_isTold 18 = .ok (.bipush 50, 2) := by decide +kernel
theorem dL_isTold_20 : decode cL_isTold 20 = .ok (.irem, 1) := by decide +kernel
theorem dL_isTold_21 : decode cL_isTold 21 = .ok (.istore 4, 2) := by decide +kernel
theorem dL_isTold_23 : decode cL_isTold 23 = .ok (.iload_n 1, 1) := by decide +kernel
theorem dL_isTold_24 : decode cL_isTold 24 = .ok (.bipush 7, 2) := by decide +kernel
theorem dL_isTold_26 : decode cL_isTold 26 = .ok (.idiv, 1) := by decide +kernel
theorem dL_isTold_27 : decode cL_isTold 27 = .ok (.bipush 50, 2) := by decide +kernel
theorem dL_isTold_29 : decode cL_isTold 29 = .ok (.irem, 1) := by decide +kernel
theorem dL_isTold_30 : decode cL_isTold 30 = .ok (.istore 5, 2) := by decide +kernel
theorem dL_isTold_32 : decode cL_isTold 32 = .ok (.iload_n 1, 1) := by decide +kernel
theorem dL_isTold_33 : decode cL_isTold 33 = .ok (.bipush 11, 2) := by decide +kernel
theorem dL_isTold_35 : decode cL_isTold 35 = .ok (.idiv, 1) := by decide +kernel
theorem dL_isTold_36 : decode cL_isTold 36 = .ok (.bipush 50, 2) := by decide +kernel
theorem dL_isTold_38 : decode cL_isTold 38 = .ok (.irem, 1) := by decide +kernel
theorem dL_isTold_39 : decode cL_isTold 39 = .ok (.istore 6, 2) := by decide +kernel
theorem dL_isTold_41 : decode cL_isTold 41 = .ok (.iload_n 1, 1) := by decide +kernel
theorem dL_isTold_42 : decode cL_isTold 42 = .ok (.bipush 13, 2) := by decide +kernel
theorem dL_isTold_44 : decode cL_isTold 44 = .ok (.idiv, 1) := by decide +kernel
theorem dL_isTold_45 : decode cL_isTold 45 = .ok (.bipush 50, 2) := by decide +kernel
theorem dL_isTold_47 : decode cL_isTold 47 = .ok (.irem, 1) := by decide +kernel
theorem dL_isTold_48 : decode cL_isTold 48 = .ok (.istore 7, 2) := by decide +kernel
theorem dL_isTold_50 : decode cL_isTold 50 = .ok (.iload_n 1, 1) := by decide +kernel
theorem dL_isTold_51 : decode cL_isTold 51 = .ok (.bipush 17, 2) := by decide +kernel
theorem dL_isTold_53 : decode cL_isTold 53 = .ok (.idiv, 1) := by decide +kernel
theorem dL_isTold_54 : decode cL_isTold 54 = .ok (.bipush 100, 2) := by decide +kernel
theorem dL_isTold_56 : decode cL_isTold 56 = .ok (.irem, 1) := by decide +kernel
theorem dL_isTold_57 : decode cL_isTold 57 = .ok (.istore 8, 2) := by decide +kernel
theorem dL_isTold_59 : decode cL_isTold 59 = .ok (.aload_n 0, 1) := by decide +kernel
theorem dL_isTold_60 : decode cL_isTold 60 = .ok (.iload_n 2, 1) := by decide +kernel
theorem dL_isTold_61 : decode cL_isTold 61 = .ok (.iload_n 3, 1) := by decide +kernel
theorem dL_isTold_62 : decode cL_isTold 62 = .ok (.iload 4, 2) := by decide +kernel
theorem dL_isTold_64 : decode cL_isTold 64 = .ok (.iload 5, 2) := by decide +kernel
theorem dL_isTold_66 : decode cL_isTold 66 = .ok (.iload 6, 2) := by decide +kernel
theorem dL_isTold_68 : decode cL_isTold 68 = .ok (.iload 8, 2) := by decide +kernel
theorem dL_isTold_70 : decode cL_isTold 70 = .ok (.invokevirtual 86, 3) := by decide +kernel
theorem dL_isTold_73 : decode cL_isTold 73 = .ok (.istore 9, 2) := by decide +kernel
theorem dL_isTold_75 : decode cL_isTold 75 = .ok (.iload 9, 2) := by decide +kernel
theorem dL_isTold_77 : decode cL_isTold 77 = .ok (.ifCond .lt 190, 3) := by decide +kernel
theorem dL_isTold_80 : decode cL_isTold 80 = .ok (.iload 9, 2) := by decide +kernel
theorem dL_isTold_82 : decode cL_isTold 82 = .ok (.iconst 4, 1) := by decide +kernel
theorem dL_isTold_83 : decode cL_isTold 83 = .ok (.if_icmp .ge 184, 3) := by decide +kernel
theorem dL_isTold_86 : decode cL_isTold 86 = .ok (.aload_n 0, 1) := by decide +kernel
theorem dL_isTold_87 : decode cL_isTold 87 = .ok (.iload_n 2, 1) := by decide +kernel
theorem dL_isTold_88 : decode cL_isTold 88 = .ok (.iload 7, 2) := by decide +kernel
theorem dL_isTold_90 : decode cL_isTold 90 = .ok (.iadd, 1) := by decide +kernel
theorem dL_isTold_91 : decode cL_isTold 91 = .ok (.iload_n 3, 1) := by decide +kernel
theorem dL_isTold_92 : decode cL_isTold 92 = .ok (.iload 7, 2) := by decide +kernel
theorem dL_isTold_94 : decode cL_isTold 94 = .ok (.iadd, 1) := by decide +kernel
theorem dL_isTold_95 : decode cL_isTold 95 = .ok (.iload 4, 2) := by decide +kernel
theorem dL_isTold_97 : decode cL_isTold 97 = .ok (.iload 7, 2) := by decide +kernel
theorem dL_isTold_99 : decode cL_isTold 99 = .ok (.iadd, 1) := by decide +kernel
theorem dL_isTold_100 : decode cL_isTold 100 = .ok (.iload 5, 2) := by decide +kernel
theorem dL_isTold_102 : decode cL_isTold 102 = .ok (.iload 7, 2) := by decide +kernel
theorem dL_isTold_104 : decode cL_isTold 104 = .ok (.iadd, 1) := by decide +kernel
theorem dL_isTold_105 : decode cL_isTold 105 = .ok (.iload 6, 2) := by decide +kernel
theorem dL_isTold_107 : decode cL_isTold 107 = .ok (.iload 7, 2) := by decide +kernel
theorem dL_isTold_109 : decode cL_isTold 109 = .ok (.iadd, 1) := by decide +kernel
theorem dL_isTold_110 : decode cL_isTold 110 = .ok (.iload 8, 2) := by decide +kernel
theorem dL_isTold_112 : decode cL_isTold 112 = .ok (.invokevirtual 86, 3) := by decide +kernel
theorem dL_isTold_115 : decode cL_isTold 115 = .ok (.iload 9, 2) := by decide +kernel
theorem dL_isTold_117 : decode cL_isTold 117 = .ok (.if_icmp .ne 150, 3) := by decide +kernel
theorem dL_isTold_120 : decode cL_isTold 120 = .ok (.iload 9, 2) := by decide +kernel
theorem dL_isTold_122 : decode cL_isTold 122 = .ok (.iconst 1, 1) := by decide +kernel
theorem dL_isTold_123 : decode cL_isTold 123 = .ok (.if_icmp .ne 40, 3) := by decide +kernel
theorem dL_isTold_126 : decode cL_isTold 126 = .ok (.iload_n 2, 1) := by decide +kernel
theorem dL_isTold_127 : decode cL_isTold 127 = .ok (.iload 6, 2) := by decide +kernel
theorem dL_isTold_129 : decode cL_isTold 129 = .ok (.bipush 20, 2) := by decide +kernel
theorem dL_isTold_131 : decode cL_isTold 131 = .ok (.iadd, 1) := by decide +kernel
theorem dL_isTold_132 : decode cL_isTold 132 = .ok (.if_icmp .lt 135, 3) := by decide +kernel
theorem dL_isTold_135 : decode cL_isTold 135 = .ok (.iload 8, 2) := by decide +kernel
theorem dL_isTold_137 : decode cL_isTold 137 = .ok (.bipush 9, 2) := by decide +kernel
theorem dL_isTold_139 : decode cL_isTold 139 = .ok (.if_icmp .le 128, 3) := by decide +kernel
theorem dL_isTold_142 : decode cL_isTold 142 = .ok (.aload_n 0, 1) := by decide +kernel
theorem dL_isTold_143 : decode cL_isTold 143 = .ok (.iload_n 2, 1) := by decide +kernel
theorem dL_isTold_144 : decode cL_isTold 144 = .ok (.iload_n 3, 1) := by decide +kernel
theorem dL_isTold_145 : decode cL_isTold 145 = .ok (.iload 4, 2) := by decide +kernel
theorem dL_isTold_147 : decode cL_isTold 147 = .ok (.iload 5, 2) := by decide +kernel
theorem dL_isTold_149 : decode cL_isTold 149 = .ok (.iload 6, 2) := by decide +kernel
theorem dL_isTold_151 : decode cL_isTold 151 = .ok (.bipush 9, 2) := by decide +kernel
theorem dL_isTold_153 : decode cL_isTold 153 = .ok (.invokevirtual 86, 3) := by decide +kernel
theorem dL_isTold_156 : decode cL_isTold 156 = .ok (.iconst 1, 1) := by decide +kernel
theorem dL_isTold_157 : decode cL_isTold 157 = .ok (.if_icmp .eq 110, 3) := by decide +kernel
theorem dL_isTold_160 : decode cL_isTold 160 = .ok (.goto 79, 3) := by decide +kernel
theorem dL_isTold_163 : decode cL_isTold 163 = .ok (.iload 9, 2) := by decide +kernel
theorem dL_isTold_165 : decode cL_isTold 165 = .ok (.iconst 2, 1) := by decide +kernel
theorem dL_isTold_166 : decode cL_isTold 166 = .ok (.if_icmp .ne 41, 3) := by decide +kernel
theorem dL_isTold_169 : decode cL_isTold 169 = .ok (.iload_n 3, 1) := by decide +kernel
theorem dL_isTold_170 : decode cL_isTold 170 = .ok (.iload_n 2, 1) := by decide +kernel
theorem dL_isTold_171 : decode cL_isTold 171 = .ok (.if_icmp .gt 15, 3) := by decide +kernel
theorem dL_isTold_174 : decode cL_isTold 174 = .ok (.iload 4, 2) := by decide +kernel
theorem dL_isTold_176 : decode cL_isTold 176 = .ok (.iload_n 2, 1) := by decide +kernel
theorem dL_isTold_177 : decode cL_isTold 177 = .ok (.if_icmp .gt 9, 3) := by decide +kernel
theorem dL_isTold_180 : decode cL_isTold 180 = .ok (.iload 5, 2) := by decide +kernel
theorem dL_isTold_182 : decode cL_isTold 182 = .ok (.iload_n 2, 1) := by decide +kernel
theorem dL_isTold_183 : decode cL_isTold 183 = .ok (.if_icmp .le 84, 3) := by decide +kernel
theorem dL_isTold_186 : decode cL_isTold 186 = .ok (.aload_n 0, 1) := by decide +kernel
theorem dL_isTold_187 : decode cL_isTold 187 = .ok (.iload 6, 2) := by decide +kernel
theorem dL_isTold_189 : decode cL_isTold 189 = .ok (.iload 5, 2) := by decide +kernel
theorem dL_isTold_191 : decode cL_isTold 191 = .ok (.iload 4, 2) := by decide +kernel
theorem dL_isTold_193 : decode cL_isTold 193 = .ok (.iload_n 3, 1) := by decide +kernel
theorem dL_isTold_194 : decode cL_isTold 194 = .ok (.iload_n 2, 1) := by decide +kernel
theorem dL_isTold_195 : decode cL_isTold 195 = .ok (.iload 8, 2) := by decide +kernel
theorem dL_isTold_197 : decode cL_isTold 197 = .ok (.invokevirtual 86, 3) := by decide +kernel
theorem dL_isTold_200 : decode cL_isTold 200 = .ok (.iconst 2, 1) := by decide +kernel
theorem dL_isTold_201 : decode cL_isTold 201 = .ok (.if_icmp .ne 66, 3) := by decide +kernel
theorem dL_isTold_204 : decode cL_isTold 204 = .ok (.goto 35, 3) := by decide +kernel
theorem dL_isTold_207 : decode cL_isTold 207 = .ok (.iload 9, 2) := by decide +kernel
theorem dL_isTold_209 : decode cL_isTold 209 = .ok (.iconst 3, 1) := by decide +kernel
theorem dL_isTold_210 : decode cL_isTold 210 = .ok (.if_icmp .ne 29, 3) := by decide +kernel
theorem dL_isTold_213 : decode cL_isTold 213 = .ok (.iload 6, 2) := by decide +kernel
theorem dL_isTold_215 : decode cL_isTold 215 = .ok (.iload_n 2, 1) := by decide +kernel
theorem dL_isTold_216 : decode cL_isTold 216 = .ok (.if_icmp .le 51, 3) := by decide +kernel
theorem dL_isTold_219 : decode cL_isTold 219 = .ok (.iload 6, 2) := by decide +kernel
theorem dL_isTold_221 : decode cL_isTold 221 = .ok (.iload_n 3, 1) := by decide +kernel
theorem dL_isTold_222 : decode cL_isTold 222 = .ok (.if_icmp .le 45, 3) := by decide +kernel
theorem dL_isTold_225 : decode cL_isTold 225 = .ok (.iload 6, 2) := by decide +kernel
theorem dL_isTold_227 : decode cL_isTold 227 = .ok (.iload 4, 2) := by decide +kernel
theorem dL_isTold_229 : decode cL_isTold 229 = .ok (.if_icmp .le 38, 3) := by decide +kernel
theorem dL_isTold_232 : decode cL_isTold 232 = .ok (.iload 6, 2) := by decide +kernel
theorem dL_isTold_234 : decode cL_isTold 234 = .ok (.iload 5, 2) := by decide +kernel
theorem dL_isTold_236 : decode cL_isTold 236 = .ok (.if_icmp .le 31, 3) := by decide +kernel
theorem dL_isTold_239 : decode cL_isTold 239 = .ok (.iload 9, 2) := by decide +kernel
theorem dL_isTold_241 : decode cL_isTold 241 = .ok (.iconst 1, 1) := by decide +kernel
theorem dL_isTold_242 : decode cL_isTold 242 = .ok (.if_icmp .eq 21, 3) := by decide +kernel
theorem dL_isTold_245 : decode cL_isTold 245 = .ok (.aload_n 0, 1) := by decide +kernel
theorem dL_isTold_246 : decode cL_isTold 246 = .ok (.iload_n 2, 1) := by decide +kernel
theorem dL_isTold_247 : decode cL_isTold 247 = .ok (.iload_n 3, 1) := by decide +kernel
theorem dL_isTold_248 : decode cL_isTold 248 = .ok (.iload 4, 2) := by decide +kernel
theorem dL_isTold_250 : decode cL_isTold 250 = .ok (.iload 5, 2) := by decide +kernel
theorem dL_isTold_252 : decode cL_isTold 252 = .ok (.iload 6, 2) := by decide +kernel
theorem dL_isTold_254 : decode cL_isTold 254 = .ok (.iconst 0, 1) := by decide +kernel
theorem dL_isTold_255 : decode cL_isTold 255 = .ok (.invokevirtual 86, 3) := by decide +kernel
theorem dL_isTold_258 : decode cL_isTold 258 = .ok (.iload 9, 2) := by decide +kernel
theorem dL_isTold_260 : decode cL_isTold 260 = .ok (.if_icmp .ne 7, 3) := by decide +kernel
theorem dL_isTold_263 : decode cL_isTold 263 = .ok (.iconst 1, 1) := by decide +kernel
theorem dL_isTold_264 : decode cL_isTold 264 = .ok (.goto 4, 3) := by decide +kernel
theorem dL_isTold_267 : decode cL_isTold 267 = .ok (.iconst 0, 1) := by decide +kernel
theorem dL_isTold_268 : decode cL_isTold 268 = .ok (.ireturn, 1) := by decide +kernel
theorem dL_arePins_0 : decode cL_arePins 0 = .ok (.iconst 0, 1) := by decide +kernel
theorem dL_arePins_1 : decode cL_arePins 1 = .ok (.istore_n 3, 1) := by decide +kernel
theorem dL_arePins_2 : decode cL_arePins 2 = .ok (.lload_n 1, 1) := by decide +kernel
theorem dL_arePins_3 : decode cL_arePins 3 = .ok (.ldc2_w 135, 3) := by decide +kernel
theorem dL_arePins_6 : decode cL_arePins 6 = .ok (.land, 1) := by decide +kernel
theorem dL_arePins_7 : decode cL_arePins 7 = .ok (.lstore 4, 2) := by decide +kernel
theorem dL_arePins_9 : decode cL_arePins 9 = .ok (.lload 4, 2) := by decide +kernel
theorem dL_arePins_11 : decode cL_arePins 11 = .ok (.lconst 0, 1) := by decide +kernel
theorem dL_arePins_12 : decode cL_arePins 12 = .ok (.lcmp, 1) := by decide +kernel
theorem dL_arePins_13 : decode cL_arePins 13 = .ok (.ifCond .eq 18, 3) := by decide +kernel
theorem dL_arePins_16 : decode cL_arePins 16 = .ok (.iinc 3 1, 3) := by decide +kernel
theorem dL_arePins_19 : decode cL_arePins 19 = .ok (.lload 4, 2) := by decide +kernel
theorem dL_arePins_21 : decode cL_arePins 21 = .ok (.lload 4, 2) := by decide +kernel
theorem dL_arePins_23 : decode cL_arePins 23 = .ok (.lconst 1, 1) := by decide +kernel
theorem dL_arePins_24 : decode cL_arePins 24 = .ok (.lsub, 1) := by decide +kernel
theorem dL_arePins_25 : decode cL_arePins 25 = .ok (.land, 1) := by decide +kernel
theorem dL_arePins_26 : decode cL_arePins 26 = .ok (.lstore 4, 2) := by decide +kernel
theorem dL_arePins_28 : decode cL_arePins 28 = .ok (.goto (-19), 3) := by decide +kernel
theorem dL_arePins_31 : decode cL_arePins 31 = .ok (.aload_n 0, 1) := by decide +kernel
theorem dL_arePins_32 : decode cL_arePins 32 = .ok (.lload_n 1, 1) := by decide +kernel
theorem dL_arePins_33 : decode cL_arePins 33 = .ok (.invokevirtual 137, 3) := by decide +kernel
theorem dL_arePins_36 : decode cL_arePins 36 = .ok (.istore 4, 2) := by decide +kernel
theorem dL_arePins_38 : decode cL_arePins 38 = .ok (.iload 4, 2) := by decide +kernel
theorem dL_arePins_40 : decode cL_arePins 40 = .ok (.iload_n 3, 1) := by decide +kernel
theorem dL_arePins_41 : decode cL_arePins 41 = .ok (.iconst 3, 1) := by decide +kernel
theorem dL_arePins_42 : decode cL_arePins 42 = .ok (.iadd, 1) := by decide +kernel
theorem dL_arePins_43 : decode cL_arePins 43 = .ok (.iconst 4, 1) := by decide +kernel
theorem dL_arePins_44 : decode cL_arePins 44 = .ok (.idiv, 1) := by decide +kernel
theorem dL_arePins_45 : decode cL_arePins 45 = .ok (.if_icmp .lt 27, 3) := by decide +kernel
theorem dL_arePins_48 : decode cL_arePins 48 = .ok (.iload 4, 2) := by decide +kernel
theorem dL_arePins_50 : decode cL_arePins 50 = .ok (.iload_n 3, 1) := by decide +kernel
theorem dL_arePins_51 : decode cL_arePins 51 = .ok (.if_icmp .gt 21, 3) := by decide +kernel
theorem dL_arePins_54 : decode cL_arePins 54 = .ok (.aload_n 0, 1) := by decide +kernel
theorem dL_arePins_55 : decode cL_arePins 55 = .ok (.lload_n 1, 1) := by decide +kernel
theorem dL_arePins_56 : decode cL_arePins 56 = .ok (.ldc2_w 140, 3) := by decide +kernel
theorem dL_arePins_59 : decode cL_arePins 59 = .ok (.lor, 1) := by decide +kernel
theorem dL_arePins_60 : decode cL_arePins 60 = .ok (.invokevirtual 137, 3) := by decide +kernel
theorem dL_arePins_63 : decode cL_arePins 63 = .ok (.iload 4, 2) := by decide +kernel
theorem dL_arePins_65 : decode cL_arePins 65 = .ok (.if_icmp .ne 7, 3) := by decide +kernel
theorem dL_arePins_68 : decode cL_arePins 68 = .ok (.iconst 1, 1) := by decide +kernel
theorem dL_arePins_69 : decode cL_arePins 69 = .ok (.goto 4, 3) := by decide +kernel
theorem dL_arePins_72 : decode cL_arePins 72 = .ok (.iconst 0, 1) := by decide +kernel
theorem dL_arePins_73 : decode cL_arePins 73 = .ok (.ireturn, 1) := by decide +kernel

