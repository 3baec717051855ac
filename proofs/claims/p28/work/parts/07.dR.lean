theorem dL_isRefused_0 : decode cL_isRefused 0 = .ok (.iload 4, 2) := by decide +kernel
theorem dL_isRefused_2 : decode cL_isRefused 2 = .ok (.iconst 2, 1) := by decide +kernel
theorem dL_isRefused_3 : decode cL_isRefused 3 = .ok (.irem, 1) := by decide +kernel
theorem dL_isRefused_4 : decode cL_isRefused 4 = .ok (.ifCond .ne 7, 3) := by decide +kernel
theorem dL_isRefused_7 : decode cL_isRefused 7 = .ok (.iconst 1, 1) := by decide +kernel
theorem dL_isRefused_8 : decode cL_isRefused 8 = .ok (.goto 4, 3) := by decide +kernel
theorem dL_isRefused_11 : decode cL_isRefused 11 = .ok (.iconst 0, 1) := by decide +kernel
theorem dL_isRefused_12 : decode cL_isRefused 12 = .ok (.istore 5, 2) := by decide +kernel
theorem dL_isRefused_14 : decode cL_isRefused 14 = .ok (.iload 5, 2) := by decide +kernel
theorem dL_isRefused_16 : decode cL_isRefused 16 = .ok (.ifCond .eq 13, 3) := by decide +kernel
theorem dL_isRefused_19 : decode cL_isRefused 19 = .ok (.iconst (-1), 1) := by decide +kernel
theorem dL_isRefused_20 : decode cL_isRefused 20 = .ok (.iload 4, 2) := by decide +kernel
theorem dL_isRefused_22 : decode cL_isRefused 22 = .ok (.bipush 30, 2) := by decide +kernel
theorem dL_isRefused_24 : decode cL_isRefused 24 = .ok (.irem, 1) := by decide +kernel
theorem dL_isRefused_25 : decode cL_isRefused 25 = .ok (.isub, 1) := by decide +kernel
theorem dL_isRefused_26 : decode cL_isRefused 26 = .ok (.goto 12, 3) := by decide +kernel
theorem dL_isRefused_29 : decode cL_isRefused 29 = .ok (.aload_n 1, 1) := by decide +kernel
theorem dL_isRefused_30 : decode cL_isRefused 30 = .ok (.iconst 1, 1) := by decide +kernel
theorem dL_isRefused_31 : decode cL_isRefused 31 = .ok (.iaload, 1) := by decide +kernel
theorem dL_isRefused_32 : decode cL_isRefused 32 = .ok (.iload 4, 2) := by decide +kernel
theorem dL_isRefused_34 : decode cL_isRefused 34 = .ok (.bipush 30, 2) := by decide +kernel
theorem dL_isRefused_36 : decode cL_isRefused 36 = .ok (.irem, 1) := by decide +kernel
theorem dL_isRefused_37 : decode cL_isRefused 37 = .ok (.iadd, 1) := by decide +kernel
theorem dL_isRefused_38 : decode cL_isRefused 38 = .ok (.istore 6, 2) := by decide +kernel
theorem dL_isRefused_40 : decode cL_isRefused 40 = .ok (.iload 5, 2) := by decide +kernel
theorem dL_isRefused_42 : decode cL_isRefused 42 = .ok (.ifCond .eq 13, 3) := by decide +kernel
theorem dL_isRefused_45 : decode cL_isRefused 45 = .ok (.iconst (-1), 1) := by decide +kernel
theorem dL_isRefused_46 : decode cL_isRefused 46 = .ok (.iload 4, 2) := by decide +kernel
theorem dL_isRefused_48 : decode cL_isRefused 48 = .ok (.bipush 30, 2) := by decide +kernel
theorem dL_isRefused_50 : decode cL_isRefused 50 = .ok (.irem, 1) := by decide +kernel
theorem dL_isRefused_51 : decode cL_isRefused 51 = .ok (.isub, 1) := by decide +kernel
theorem dL_isRefused_52 : decode cL_isRefused 52 = .ok (.goto 12, 3) := by decide +kernel
theorem dL_isRefused_55 : decode cL_isRefused 55 = .ok (.aload_n 1, 1) := by decide +kernel
theorem dL_isRefused_56 : decode cL_isRefused 56 = .ok (.iconst 2, 1) := by decide +kernel
theorem dL_isRefused_57 : decode cL_isRefused 57 = .ok (.iaload, 1) := by decide +kernel
theorem dL_isRefused_58 : decode cL_isRefused 58 = .ok (.iload 4, 2) := by decide +kernel
theorem dL_isRefused_60 : decode cL_isRefused 60 = .ok (.bipush 30, 2) := by decide +kernel
theorem dL_isRefused_62 : decode cL_isRefused 62 = .ok (.irem, 1) := by decide +kernel
theorem dL_isRefused_63 : decode cL_isRefused 63 = .ok (.iadd, 1) := by decide +kernel
theorem dL_isRefused_64 : decode cL_isRefused 64 = .ok (.istore 7, 2) := by decide +kernel
theorem dL_isRefused_66 : decode cL_isRefused 66 = .ok (.iload 5, 2) := by decide +kernel
theorem dL_isRefused_68 : decode cL_isRefused 68 = .ok (.ifCond .eq 13, 3) := by decide +kernel
theorem dL_isRefused_71 : decode cL_isRefused 71 = .ok (.iconst (-1), 1) := by decide +kernel
theorem dL_isRefused_72 : decode cL_isRefused 72 = .ok (.iload 4, 2) := by decide +kernel
theorem dL_isRefused_74 : decode cL_isRefused 74 = .ok (.bipush 30, 2) := by decide +kernel
theorem dL_isRefused_76 : decode cL_isRefused 76 = .ok (.irem, 1) := by decide +kernel
theorem dL_isRefused_77 : decode cL_isRefused 77 = .ok (.isub, 1) := by decide +kernel
theorem dL_isRefused_78 : decode cL_isRefused 78 = .ok (.goto 12, 3) := by decide +kernel
theorem dL_isRefused_81 : decode cL_isRefused 81 = .ok (.aload_n 1, 1) := by decide +kernel
theorem dL_isRefused_82 : decode cL_isRefused 82 = .ok (.iconst 3, 1) := by decide +kernel
theorem dL_isRefused_83 : decode cL_isRefused 83 = .ok (.iaload, 1) := by decide +kernel
theorem dL_isRefused_84 : decode cL_isRefused 84 = .ok (.iload 4, 2) := by decide +kernel
theorem dL_isRefused_86 : decode cL_isRefused 86 = .ok (.bipush 30, 2) := by decide +kernel
theorem dL_isRefused_88 : decode cL_isRefused 88 = .ok (.irem, 1) := by decide +kernel
theorem dL_isRefused_89 : decode cL_isRefused 89 = .ok (.iadd, 1) := by decide +kernel
theorem dL_isRefused_90 : decode cL_isRefused 90 = .ok (.istore 8, 2) := by decide +kernel
theorem dL_isRefused_92 : decode cL_isRefused 92 = .ok (.iload 5, 2) := by decide +kernel
theorem dL_isRefused_94 : decode cL_isRefused 94 = .ok (.ifCond .eq 13, 3) := by decide +kernel
theorem dL_isRefused_97 : decode cL_isRefused 97 = .ok (.iconst (-1), 1) := by decide +kernel
theorem dL_isRefused_98 : decode cL_isRefused 98 = .ok (.iload 4, 2) := by decide +kernel
theorem dL_isRefused_100 : decode cL_isRefused 100 = .ok (.bipush 30, 2) := by decide +kernel
theorem dL_isRefused_102 : decode cL_isRefused 102 = .ok (.irem, 1) := by decide +kernel
theorem dL_isRefused_103 : decode cL_isRefused 103 = .ok (.isub, 1) := by decide +kernel
theorem dL_isRefused_104 : decode cL_isRefused 104 = .ok (.goto 11, 3) := by decide +kernel
theorem dL_isRefused_107 : decode cL_isRefused 107 = .ok (.bipush 10, 2) := by decide +kernel
theorem dL_isRefused_109 : decode cL_isRefused 109 = .ok (.iload 4, 2) := by decide +kernel
theorem dL_isRefused_111 : decode cL_isRefused 111 = .ok (.bipush 30, 2) := by decide +kernel
theorem dL_isRefused_113 : decode cL_isRefused 113 = .ok (.irem, 1) := by decide +kernel
theorem dL_isRefused_114 : decode cL_isRefused 114 = .ok (.iadd, 1) := by decide +kernel
theorem dL_isRefused_115 : decode cL_isRefused 115 = .ok (.istore 9, 2) := by decide +kernel
theorem dL_isRefused_117 : decode cL_isRefused 117 = .ok (.iload 5, 2) := by decide +kernel
theorem dL_isRefused_119 : decode cL_isRefused 119 = .ok (.ifCond .eq 13, 3) := by decide +kernel
theorem dL_isRefused_122 : decode cL_isRefused 122 = .ok (.iconst 0, 1) := by decide +kernel
theorem dL_isRefused_123 : decode cL_isRefused 123 = .ok (.iload 4, 2) := by decide +kernel
theorem dL_isRefused_125 : decode cL_isRefused 125 = .ok (.bipush 30, 2) := by decide +kernel
theorem dL_isRefused_127 : decode cL_isRefused 127 = .ok (.irem, 1) := by decide +kernel
theorem dL_isRefused_128 : decode cL_isRefused 128 = .ok (.isub, 1) := by decide +kernel
theorem dL_isRefused_129 : decode cL_isRefused 129 = .ok (.goto 11, 3) := by decide +kernel
theorem dL_isRefused_132 : decode cL_isRefused 132 = .ok (.ldc 121, 2) := by decide +kernel
theorem dL_isRefused_134 : decode cL_isRefused 134 = .ok (.iload 4, 2) := by decide +kernel
theorem dL_isRefused_136 : decode cL_isRefused 136 = .ok (.bipush 30, 2) := by decide +kernel
theorem dL_isRefused_138 : decode cL_isRefused 138 = .ok (.irem, 1) := by decide +kernel
theorem dL_isRefused_139 : decode cL_isRefused 139 = .ok (.iadd, 1) := by decide +kernel
theorem dL_isRefused_140 : decode cL_isRefused 140 = .ok (.istore 10, 2) := by decide +kernel
theorem dL_isRefused_142 : decode cL_isRefused 142 = .ok (.aload_n 0, 1) := by decide +kernel
theorem dL_isRefused_143 : decode cL_isRefused 143 = .ok (.aload_n 1, 1) := by decide +kernel
theorem dL_isRefused_144 : decode cL_isRefused 144 = .ok (.aload_n 3, 1) := by decide +kernel
theorem dL_isRefused_145 : decode cL_isRefused 145 = .ok (.invokestatic 122, 3) := by decide +kernel
theorem dL_isRefused_148 : decode cL_isRefused 148 = .ok (.lstore 11, 2) := by decide +kernel
theorem dL_isRefused_150 : decode cL_isRefused 150 = .ok (.aload_n 0, 1) := by decide +kernel
theorem dL_isRefused_151 : decode cL_isRefused 151 = .ok (.iconst 0, 1) := by decide +kernel
theorem dL_isRefused_152 : decode cL_isRefused 152 = .ok (.iload 5, 2) := by decide +kernel
theorem dL_isRefused_154 : decode cL_isRefused 154 = .ok (.ifCond .eq 13, 3) := by decide +kernel
theorem dL_isRefused_157 : decode cL_isRefused 157 = .ok (.iconst 0, 1) := by decide +kernel
theorem dL_isRefused_158 : decode cL_isRefused 158 = .ok (.iload 4, 2) := by decide +kernel
theorem dL_isRefused_160 : decode cL_isRefused 160 = .ok (.bipush 30, 2) := by decide +kernel
theorem dL_isRefused_162 : decode cL_isRefused 162 = .ok (.irem, 1) := by decide +kernel
theorem dL_isRefused_163 : decode cL_isRefused 163 = .ok (.isub, 1) := by decide +kernel
theorem dL_isRefused_164 : decode cL_isRefused 164 = .ok (.goto 5, 3) := by decide +kernel
theorem dL_isRefused_167 : decode cL_isRefused 167 = .ok (.bipush 13, 2) := by decide +kernel
theorem dL_isRefused_169 : decode cL_isRefused 169 = .ok (.iconst 0, 1) := by decide +kernel
theorem dL_isRefused_170 : decode cL_isRefused 170 = .ok (.iconst 0, 1) := by decide +kernel
theorem dL_isRefused_171 : decode cL_isRefused 171 = .ok (.iconst 0, 1) := by decide +kernel
theorem dL_isRefused_172 : decode cL_isRefused 172 = .ok (.iconst 0, 1) := by decide +kernel
theorem dL_isRefused_173 : decode cL_isRefused 173 = .ok (.invokestatic 117, 3) := by decide +kernel
theorem dL_isRefused_176 : decode cL_isRefused 176 = .ok (.ldc 95, 2) := by decide +kernel
theorem dL_isRefused_178 : decode cL_isRefused 178 = .ok (.if_icmp .ne 785, 3) := by decide +kernel
theorem dL_isRefused_181 : decode cL_isRefused 181 = .ok (.aload_n 0, 1) := by decide +kernel
theorem dL_isRefused_182 : decode cL_isRefused 182 = .ok (.iconst 0, 1) := by decide +kernel
theorem dL_isRefused_183 : decode cL_isRefused 183 = .ok (.iconst 5, 1) := by decide +kernel
theorem dL_isRefused_184 : decode cL_isRefused 184 = .ok (.iload 5, 2) := by decide +kernel
theorem dL_isRefused_186 : decode cL_isRefused 186 = .ok (.ifCond .eq 13, 3) := by decide +kernel
theorem dL_isRefused_189 : decode cL_isRefused 189 = .ok (.iconst (-1), 1) := by decide +kernel
theorem dL_isRefused_190 : decode cL_isRefused 190 = .ok (.iload 4, 2) := by decide +kernel
theorem dL_isRefused_192 : decode cL_isRefused 192 = .ok (.bipush 30, 2) := by decide +kernel
theorem dL_isRefused_194 : decode cL_isRefused 194 = .ok (.irem, 1) := by decide +kernel
theorem dL_isRefused_195 : decode cL_isRefused 195 = .ok (.isub, 1) := by decide +kernel
theorem dL_isRefused_196 : decode cL_isRefused 196 = .ok (.goto 4, 3) := by decide +kernel
theorem dL_isRefused_199 : decode cL_isRefused 199 = .ok (.iconst 3, 1) := by decide +kernel
theorem dL_isRefused_200 : decode cL_isRefused 200 = .ok (.iconst 0, 1) := by decide +kernel
theorem dL_isRefused_201 : decode cL_isRefused 201 = .ok (.iconst 0, 1) := by decide +kernel
theorem dL_isRefused_202 : decode cL_isRefused 202 = .ok (.iconst 0, 1) := by decide +kernel
theorem dL_isRefused_203 : decode cL_isRefused 203 = .ok (.invokestatic 117, 3) := by decide +kernel
theorem dL_isRefused_206 : decode cL_isRefused 206 = .ok (.ldc 95, 2) := by decide +kernel
theorem dL_isRefused_208 : decode cL_isRefused 208 = .ok (.if_icmp .ne 755, 3) := by decide +kernel
theorem dL_isRefused_211 : decode cL_isRefused 211 = .ok (.aload_n 0, 1) := by decide +kernel
theorem dL_isRefused_212 : decode cL_isRefused 212 = .ok (.iconst 1, 1) := by decide +kernel
theorem dL_isRefused_213 : decode cL_isRefused 213 = .ok (.iload 5, 2) := by decide +kernel
theorem dL_isRefused_215 : decode cL_isRefused 215 = .ok (.ifCond .eq 13, 3) := by decide +kernel
theorem dL_isRefused_218 : decode cL_isRefused 218 = .ok (.iconst (-1), 1) := by decide +kernel
theorem dL_isRefused_219 : decode cL_isRefused 219 = .ok (.iload 4, 2) := by decide +kernel
theorem dL_isRefused_221 : decode cL_isRefused 221 = .ok (.bipush 30, 2) := by decide +kernel
theorem dL_isRefused_223 : decode cL_isRefused 223 = .ok (.irem, 1) := by decide +kernel
theorem dL_isRefused_224 : decode cL_isRefused 224 = .ok (.isub, 1) := by decide +kernel
theorem dL_isRefused_225 : decode cL_isRefused 225 = .ok (.goto 5, 3) := by decide +kernel
theorem dL_isRefused_228 : decode cL_isRefused 228 = .ok (.bipush 51, 2) := by decide +kernel
theorem dL_isRefused_230 : decode cL_isRefused 230 = .ok (.iconst 5, 1) := by decide +kernel
theorem dL_isRefused_231 : decode cL_isRefused 231 = .ok (.iconst 0, 1) := by decide +kernel
theorem dL_isRefused_232 : decode cL_isRefused 232 = .ok (.iconst 0, 1) := by decide +kernel
theorem dL_isRefused_233 : decode cL_isRefused 233 = .ok (.iconst 0, 1) := by decide +kernel
theorem dL_isRefused_234 : decode cL_isRefused 234 = .ok (.invokestatic 117, 3) := by decide +kernel
theorem dL_isRefused_237 : decode cL_isRefused 237 = .ok (.ldc 95, 2) := by decide +kernel
theorem dL_isRefused_239 : decode cL_isRefused 239 = .ok (.if_icmp .ne 724, 3) := by decide +kernel
theorem dL_isRefused_242 : decode cL_isRefused 242 = .ok (.aload_n 0, 1) := by decide +kernel
theorem dL_isRefused_243 : decode cL_isRefused 243 = .ok (.iconst 1, 1) := by decide +kernel
theorem dL_isRefused_244 : decode cL_isRefused 244 = .ok (.iconst 5, 1) := by decide +kernel
theorem dL_isRefused_245 : decode cL_isRefused 245 = .ok (.iload 5, 2) := by decide +kernel
theorem dL_isRefused_247 : decode cL_isRefused 247 = .ok (.ifCond .eq 7, 3) := by decide +kernel
theorem dL_isRefused_250 : decode cL_isRefused 250 = .ok (.iconst (-1), 1) := by decide +kernel
theorem dL_isRefused_251 : decode cL_isRefused 251 = .ok (.goto 11, 3) := by decide +kernel
theorem dL_isRefused_254 : decode cL_isRefused 254 = .ok (.bipush 21, 2) := by decide +kernel
theorem dL_isRefused_256 : decode cL_isRefused 256 = .ok (.iload 4, 2) := by decide +kernel
theorem dL_isRefused_258 : decode cL_isRefused 258 = .ok (.bipush 30, 2) := by decide +kernel
theorem dL_isRefused_260 : decode cL_isRefused 260 = .ok (.irem, 1) := by decide +kernel
theorem dL_isRefused_261 : decode cL_isRefused 261 = .ok (.iadd, 1) := by decide +kernel
theorem dL_isRefused_262 : decode cL_isRefused 262 = .ok (.iconst 0, 1) := by decide +kernel
theorem dL_isRefused_263 : decode cL_isRefused 263 = .ok (.iconst 0, 1) := by decide +kernel
theorem dL_isRefused_264 : decode cL_isRefused 264 = .ok (.iconst 0, 1) := by decide +kernel
theorem dL_isRefused_265 : decode cL_isRefused 265 = .ok (.invokestatic 117, 3) := by decide +kernel
theorem dL_isRefused_268 : decode cL_isRefused 268 = .ok (.ldc 95, 2) := by decide +kernel
theorem dL_isRefused_270 : decode cL_isRefused 270 = .ok (.if_icmp .ne 693, 3) := by decide +kernel
theorem dL_isRefused_273 : decode cL_isRefused 273 = .ok (.aload_n 0, 1) := by decide +kernel
theorem dL_isRefused_274 : decode cL_isRefused 274 = .ok (.iconst 2, 1) := by decide +kernel
theorem dL_isRefused_275 : decode cL_isRefused 275 = .ok (.iload 6, 2) := by decide +kernel
theorem dL_isRefused_277 : decode cL_isRefused 277 = .ok (.bipush 99, 2) := by decide +kernel
theorem dL_isRefused_279 : decode cL_isRefused 279 = .ok (.iconst 0, 1) := by decide +kernel
theorem dL_isRefused_280 : decode cL_isRefused 280 = .ok (.iconst 0, 1) := by decide +kernel
theorem dL_isRefused_281 : decode cL_isRefused 281 = .ok (.iconst 0, 1) := by decide +kernel
theorem dL_isRefused_282 : decode cL_isRefused 282 = .ok (.invokestatic 117, 3) := by decide +kernel
theorem dL_isRefused_285 : decode cL_isRefused 285 = .ok (.ldc 92, 2) := by decide +kernel
theorem dL_isRefused_287 : decode cL_isRefused 287 = .ok (.if_icmp .ne 676, 3) := by decide +kernel
theorem dL_isRefused_290 : decode cL_isRefused 290 = .ok (.aload_n 0, 1) := by decide +kernel
theorem dL_isRefused_291 : decode cL_isRefused 291 = .ok (.iconst 3, 1) := by decide +kernel
theorem dL_isRefused_292 : decode cL_isRefused 292 = .ok (.iload 6, 2) := by decide +kernel
theorem dL_isRefused_294 : decode cL_isRefused 294 = .ok (.iconst 0, 1) := by decide +kernel
theorem dL_isRefused_295 : decode cL_isRefused 295 = .ok (.iconst 0, 1) := by decide +kernel
theorem dL_isRefused_296 : decode cL_isRefused 296 = .ok (.iconst 0, 1) := by decide +kernel
theorem dL_isRefused_297 : decode cL_isRefused 297 = .ok (.iconst 0, 1) := by decide +kernel
theorem dL_isRefused_298 : decode cL_isRefused 298 = .ok (.invokestatic 117, 3) := by decide +kernel
theorem dL_isRefused_301 : decode cL_isRefused 301 = .ok (.ldc 92, 2) := by decide +kernel
theorem dL_isRefused_303 : decode cL_isRefused 303 = .ok (.if_icmp .ne 660, 3) := by decide +kernel
theorem dL_isRefused_306 : decode cL_isRefused 306 = .ok (.aload_n 0, 1) := by decide +kernel
theorem dL_isRefused_307 : decode cL_isRefused 307 = .ok (.iconst 4, 1) := by decide +kernel
theorem dL_isRefused_308 : decode cL_isRefused 308 = .ok (.iload 6, 2) := by decide +kernel
theorem dL_isRefused_310 : decode cL_isRefused 310 = .ok (.iconst 0, 1) := by decide +kernel
theorem dL_isRefused_311 : decode cL_isRefused 311 = .ok (.iconst 0, 1) := by decide +kernel
theorem dL_isRefused_312 : decode cL_isRefused 312 = .ok (.bipush 9, 2) := by decide +kernel
theorem dL_isRefused_314 : decode cL_isRefused 314 = .ok (.iconst 0, 1) := by decide +kernel
theorem dL_isRefused_315 : decode cL_isRefused 315 = .ok (.invokestatic 117, 3) := by decide +kernel
theorem dL_isRefused_318 : decode cL_isRefused 318 = .ok (.ldc 92, 2) := by decide +kernel
theorem dL_isRefused_320 : decode cL_isRefused 320 = .ok (.if_icmp .ne 643, 3) := by decide +kernel
theorem dL_isRefused_323 : decode cL_isRefused 323 = .ok (.aload_n 0, 1) := by decide +kernel
theorem dL_isRefused_324 : decode cL_isRefused 324 = .ok (.iconst 5, 1) := by decide +kernel
theorem dL_isRefused_325 : decode cL_isRefused 325 = .ok (.iload 6, 2) := by decide +kernel
theorem dL_isRefused_327 : decode cL_isRefused 327 = .ok (.iconst 0, 1) := by decide +kernel
theorem dL_isRefused_328 : decode cL_isRefused 328 = .ok (.iconst 0, 1) := by decide +kernel
theorem dL_isRefused_329 : decode cL_isRefused 329 = .ok (.iconst 0, 1) := by decide +kernel
theorem dL_isRefused_330 : decode cL_isRefused 330 = .ok (.iconst 0, 1) := by decide +kernel
theorem dL_isRefused_331 : decode cL_isRefused 331 = .ok (.invokestatic 117, 3) := by decide +kernel
theorem dL_isRefused_334 : decode cL_isRefused 334 = .ok (.ldc 92, 2) := by decide +kernel
theorem dL_isRefused_336 : decode cL_isRefused 336 = .ok (.if_icmp .ne 627, 3) := by decide +kernel
theorem dL_isRefused_339 : decode cL_isRefused 339 = .ok (.aload_n 0, 1) := by decide +kernel
theorem dL_isRefused_340 : decode cL_isRefused 340 = .ok (.bipush 6, 2) := by decide +kernel
theorem dL_isRefused_342 : decode cL_isRefused 342 = .ok (.iload 6, 2) := by decide +kernel
theorem dL_isRefused_344 : decode cL_isRefused 344 = .ok (.iconst 0, 1) := by decide +kernel
theorem dL_isRefused_345 : decode cL_isRefused 345 = .ok (.iconst 0, 1) := by decide +kernel
theorem dL_isRefused_346 : decode cL_isRefused 346 = .ok (.iconst 0, 1) := by decide +kernel
theorem dL_isRefused_347 : decode cL_isRefused 347 = .ok (.iconst 0, 1) := by decide +kernel
theorem dL_isRefused_348 : decode cL_isRefused 348 = .ok (.invokestatic 117, 3) := by decide +kernel
theorem dL_isRefused_351 : decode cL_isRefused 351 = .ok (.ldc 92, 2) := by decide +kernel
theorem dL_isRefused_353 : decode cL_isRefused 353 = .ok (.if_icmp .ne 610, 3) := by decide +kernel
theorem dL_isRefused_356 : decode cL_isRefused 356 = .ok (.aload_n 0, 1) := by decide +kernel
theorem dL_isRefused_357 : decode cL_isRefused 357 = .ok (.bipush 7, 2) := by decide +kernel
theorem dL_isRefused_359 : decode cL_isRefused 359 = .ok (.iload 5, 2) := by decide +kernel
theorem dL_isRefused_361 : decode cL_isRefused 361 = .ok (.ifCond .eq 13, 3) := by decide +kernel
theorem dL_isRefused_364 : decode cL_isRefused 364 = .ok (.iconst 0, 1) := by decide +kernel
theorem dL_isRefused_365 : decode cL_isRefused 365 = .ok (.iload 4, 2) := by decide +kernel
theorem dL_isRefused_367 : decode cL_isRefused 367 = .ok (.bipush 30, 2) := by decide +kernel
theorem dL_isRefused_369 : decode cL_isRefused 369 = .ok (.irem, 1) := by decide +kernel
theorem dL_isRefused_370 : decode cL_isRefused 370 = .ok (.isub, 1) := by decide +kernel
theorem dL_isRefused_371 : decode cL_isRefused 371 = .ok (.goto 5, 3) := by decide +kernel
theorem dL_isRefused_374 : decode cL_isRefused 374 = .ok (.bipush 101, 2) := by decide +kernel
theorem dL_isRefused_376 : decode cL_isRefused 376 = .ok (.iconst 0, 1) := by decide +kernel
theorem dL_isRefused_377 : decode cL_isRefused 377 = .ok (.iconst 0, 1) := by decide +kernel
theorem dL_isRefused_378 : decode cL_isRefused 378 = .ok (.iconst 0, 1) := by decide +kernel
theorem dL_isRefused_379 : decode cL_isRefused 379 = .ok (.iconst 0, 1) := by decide +kernel
theorem dL_isRefused_380 : decode cL_isRefused 380 = .ok (.invokestatic 117, 3) := by decide +kernel
theorem dL_isRefused_383 : decode cL_isRefused 383 = .ok (.ldc 95, 2) := by decide +kernel
theorem dL_isRefused_385 : decode cL_isRefused 385 = .ok (.if_icmp .ne 578, 3) := by decide +kernel
theorem dL_isRefused_388 : decode cL_isRefused 388 = .ok (.aload_n 0, 1) := by decide +kernel
theorem dL_isRefused_389 : decode cL_isRefused 389 = .ok (.bipush 8, 2) := by decide +kernel
theorem dL_isRefused_391 : decode cL_isRefused 391 = .ok (.iload 6, 2) := by decide +kernel
theorem dL_isRefused_393 : decode cL_isRefused 393 = .ok (.iconst 0, 1) := by decide +kernel
theorem dL_isRefused_394 : decode cL_isRefused 394 = .ok (.iconst 0, 1) := by decide +kernel
theorem dL_isRefused_395 : decode cL_isRefused 395 = .ok (.bipush 9, 2) := by decide +kernel
theorem dL_isRefused_397 : decode cL_isRefused 397 = .ok (.iconst 0, 1) := by decide +kernel
theorem dL_isRefused_398 : decode cL_isRefused 398 = .ok (.invokestatic 117, 3) := by decide +kernel
theorem dL_isRefused_401 : decode cL_isRefused 401 = .ok (.ldc 92, 2) := by decide +kernel
theorem dL_isRefused_403 : decode cL_isRefused 403 = .ok (.if_icmp .ne 560, 3) := by decide +kernel
theorem dL_isRefused_406 : decode cL_isRefused 406 = .ok (.aload_n 0, 1) := by decide +kernel
theorem dL_isRefused_407 : decode cL_isRefused 407 = .ok (.bipush 9, 2) := by decide +kernel
theorem dL_isRefused_409 : decode cL_isRefused 409 = .ok (.iload 6, 2) := by decide +kernel
theorem dL_isRefused_411 : decode cL_isRefused 411 = .ok (.iconst 0, 1) := by decide +kernel
theorem dL_isRefused_412 : decode cL_isRefused 412 = .ok (.iconst 0, 1) := by decide +kernel
theorem dL_isRefused_413 : decode cL_isRefused 413 = .ok (.iconst 0, 1) := by decide +kernel
theorem dL_isRefused_414 : decode cL_isRefused 414 = .ok (.iconst 0, 1) := by decide +kernel
theorem dL_isRefused_415 : decode cL_isRefused 415 = .ok (.invokestatic 117, 3) := by decide +kernel
theorem dL_isRefused_418 : decode cL_isRefused 418 = .ok (.ldc 92, 2) := by decide +kernel
theorem dL_isRefused_420 : decode cL_isRefused 420 = .ok (.if_icmp .ne 543, 3) := by decide +kernel
theorem dL_isRefused_423 : decode cL_isRefused 423 = .ok (.aload_n 0, 1) := by decide +kernel
theorem dL_isRefused_424 : decode cL_isRefused 424 = .ok (.bipush 10, 2) := by decide +kernel
theorem dL_isRefused_426 : decode cL_isRefused 426 = .ok (.iload 6, 2) := by decide +kernel
theorem dL_isRefused_428 : decode cL_isRefused 428 = .ok (.iconst 0, 1) := by decide +kernel
theorem dL_isRefused_429 : decode cL_isRefused 429 = .ok (.iconst 0, 1) := by decide +kernel
theorem dL_isRefused_430 : decode cL_isRefused 430 = .ok (.iconst 0, 1) := by decide +kernel
theorem dL_isRefused_431 : decode cL_isRefused 431 = .ok (.iconst 0, 1) := by decide +kernel
theorem dL_isRefused_432 : decode cL_isRefused 432 = .ok (.invokestatic 117, 3) := by decide +kernel
theorem dL_isRefused_435 : decode cL_isRefused 435 = .ok (.ldc 92, 2) := by decide +kernel
theorem dL_isRefused_437 : decode cL_isRefused 437 = .ok (.if_icmp .ne 526, 3) := by decide +kernel
theorem dL_isRefused_440 : decode cL_isRefused 440 = .ok (.aload_n 0, 1) := by decide +kernel
theorem dL_isRefused_441 : decode cL_isRefused 441 = .ok (.bipush 11, 2) := by decide +kernel
theorem dL_isRefused_443 : decode cL_isRefused 443 = .ok (.iload 5, 2) := by decide +kernel
theorem dL_isRefused_445 : decode cL_isRefused 445 = .ok (.ifCond .eq 13, 3) := by decide +kernel
theorem dL_isRefused_448 : decode cL_isRefused 448 = .ok (.iconst 0, 1) := by decide +kernel
theorem dL_isRefused_449 : decode cL_isRefused 449 = .ok (.iload 4, 2) := by decide +kernel
theorem dL_isRefused_451 : decode cL_isRefused 451 = .ok (.bipush 30, 2) := by decide +kernel
theorem dL_isRefused_453 : decode cL_isRefused 453 = .ok (.irem, 1) := by decide +kernel
theorem dL_isRefused_454 : decode cL_isRefused 454 = .ok (.isub, 1) := by decide +kernel
theorem dL_isRefused_455 : decode cL_isRefused 455 = .ok (.goto 5, 3) := by decide +kernel
theorem dL_isRefused_458 : decode cL_isRefused 458 = .ok (.bipush 101, 2) := by decide +kernel
theorem dL_isRefused_460 : decode cL_isRefused 460 = .ok (.iconst 0, 1) := by decide +kernel
theorem dL_isRefused_461 : decode cL_isRefused 461 = .ok (.iconst 0, 1) := by decide +kernel
theorem dL_isRefused_462 : decode cL_isRefused 462 = .ok (.iconst 0, 1) := by decide +kernel
theorem dL_isRefused_463 : decode cL_isRefused 463 = .ok (.iconst 0, 1) := by decide +kernel
theorem dL_isRefused_464 : decode cL_isRefused 464 = .ok (.invokestatic 117, 3) := by decide +kernel
theorem dL_isRefused_467 : decode cL_isRefused 467 = .ok (.ldc 95, 2) := by decide +kernel
theorem dL_isRefused_469 : decode cL_isRefused 469 = .ok (.if_icmp .ne 494, 3) := by decide +kernel
theorem dL_isRefused_472 : decode cL_isRefused 472 = .ok (.aload_n 0, 1) := by decide +kernel
theorem dL_isRefused_473 : decode cL_isRefused 473 = .ok (.bipush 12, 2) := by decide +kernel
theorem dL_isRefused_475 : decode cL_isRefused 475 = .ok (.iload 7, 2) := by decide +kernel
theorem dL_isRefused_477 : decode cL_isRefused 477 = .ok (.iconst 0, 1) := by decide +kernel
theorem dL_isRefused_478 : decode cL_isRefused 478 = .ok (.iconst 0, 1) := by decide +kernel
theorem dL_isRefused_479 : decode cL_isRefused 479 = .ok (.iconst 0, 1) := by decide +kernel
theorem dL_isRefused_480 : decode cL_isRefused 480 = .ok (.iconst 0, 1) := by decide +kernel
theorem dL_isRefused_481 : decode cL_isRefused 481 = .ok (.invokestatic 117, 3) := by decide +kernel
theorem dL_isRefused_484 : decode cL_isRefused 484 = .ok (.ldc 92, 2) := by decide +kernel
theorem dL_isRefused_486 : decode cL_isRefused 486 = .ok (.if_icmp .ne 477, 3) := by decide +kernel
theorem dL_isRefused_489 : decode cL_isRefused 489 = .ok (.aload_n 0, 1) := by decide +kernel
theorem dL_isRefused_490 : decode cL_isRefused 490 = .ok (.bipush 13, 2) := by decide +kernel
theorem dL_isRefused_492 : decode cL_isRefused 492 = .ok (.iload 7, 2) := by decide +kernel
theorem dL_isRefused_494 : decode cL_isRefused 494 = .ok (.iconst 0, 1) := by decide +kernel
theorem dL_isRefused_495 : decode cL_isRefused 495 = .ok (.iconst 0, 1) := by decide +kernel
theorem dL_isRefused_496 : decode cL_isRefused 496 = .ok (.iconst 0, 1) := by decide +kernel
theorem dL_isRefused_497 : decode cL_isRefused 497 = .ok (.iconst 0, 1) := by decide +kernel
theorem dL_isRefused_498 : decode cL_isRefused 498 = .ok (.invokestatic 117, 3) := by decide +kernel
theorem dL_isRefused_501 : decode cL_isRefused 501 = .ok (.ldc 92, 2) := by decide +kernel
theorem dL_isRefused_503 : decode cL_isRefused 503 = .ok (.if_icmp .ne 460, 3) := by decide +kernel
theorem dL_isRefused_506 : decode cL_isRefused 506 = .ok (.aload_n 0, 1) := by decide +kernel
theorem dL_isRefused_507 : decode cL_isRefused 507 = .ok (.bipush 14, 2) := by decide +kernel
theorem dL_isRefused_509 : decode cL_isRefused 509 = .ok (.iload 10, 2) := by decide +kernel
theorem dL_isRefused_511 : decode cL_isRefused 511 = .ok (.iconst 5, 1) := by decide +kernel
theorem dL_isRefused_512 : decode cL_isRefused 512 = .ok (.iconst 0, 1) := by decide +kernel
theorem dL_isRefused_513 : decode cL_isRefused 513 = .ok (.iconst 0, 1) := by decide +kernel
theorem dL_isRefused_514 : decode cL_isRefused 514 = .ok (.iconst 0, 1) := by decide +kernel
theorem dL_isRefused_515 : decode cL_isRefused 515 = .ok (.invokestatic 117, 3) := by decide +kernel
theorem dL_isRefused_518 : decode cL_isRefused 518 = .ok (.ldc 95, 2) := by decide +kernel
theorem dL_isRefused_520 : decode cL_isRefused 520 = .ok (.if_icmp .ne 443, 3) := by decide +kernel
theorem dL_isRefused_523 : decode cL_isRefused 523 = .ok (.aload_n 0, 1) := by decide +kernel
theorem dL_isRefused_524 : decode cL_isRefused 524 = .ok (.bipush 14, 2) := by decide +kernel
theorem dL_isRefused_526 : decode cL_isRefused 526 = .ok (.iconst 5, 1) := by decide +kernel
theorem dL_isRefused_527 : decode cL_isRefused 527 = .ok (.iload 10, 2) := by decide +kernel
theorem dL_isRefused_529 : decode cL_isRefused 529 = .ok (.iconst 0, 1) := by decide +kernel
theorem dL_isRefused_530 : decode cL_isRefused 530 = .ok (.iconst 0, 1) := by decide +kernel
theorem dL_isRefused_531 : decode cL_isRefused 531 = .ok (.iconst 0, 1) := by decide +kernel
theorem dL_isRefused_532 : decode cL_isRefused 532 = .ok (.invokestatic 117, 3) := by decide +kernel
theorem dL_isRefused_535 : decode cL_isRefused 535 = .ok (.ldc 95, 2) := by decide +kernel
theorem dL_isRefused_537 : decode cL_isRefused 537 = .ok (.if_icmp .ne 426, 3) := by decide +kernel
theorem dL_isRefused_540 : decode cL_isRefused 540 = .ok (.aload_n 0, 1) := by decide +kernel
theorem dL_isRefused_541 : decode cL_isRefused 541 = .ok (.bipush 15, 2) := by decide +kernel
theorem dL_isRefused_543 : decode cL_isRefused 543 = .ok (.iload 10, 2) := by decide +kernel
theorem dL_isRefused_545 : decode cL_isRefused 545 = .ok (.iconst 5, 1) := by decide +kernel
theorem dL_isRefused_546 : decode cL_isRefused 546 = .ok (.iconst 0, 1) := by decide +kernel
theorem dL_isRefused_547 : decode cL_isRefused 547 = .ok (.iconst 0, 1) := by decide +kernel
theorem dL_isRefused_548 : decode cL_isRefused 548 = .ok (.iconst 0, 1) := by decide +kernel
theorem dL_isRefused_549 : decode cL_isRefused 549 = .ok (.invokestatic 117, 3) := by decide +kernel
theorem dL_isRefused_552 : decode cL_isRefused 552 = .ok (.ldc 95, 2) := by decide +kernel
theorem dL_isRefused_554 : decode cL_isRefused 554 = .ok (.if_icmp .ne 409, 3) := by decide +kernel
theorem dL_isRefused_557 : decode cL_isRefused 557 = .ok (.aload_n 0, 1) := by decide +kernel
theorem dL_isRefused_558 : decode cL_isRefused 558 = .ok (.bipush 16, 2) := by decide +kernel
theorem dL_isRefused_560 : decode cL_isRefused 560 = .ok (.iload 5, 2) := by decide +kernel
theorem dL_isRefused_562 : decode cL_isRefused 562 = .ok (.ifCond .eq 15, 3) := by decide +kernel
theorem dL_isRefused_565 : decode cL_isRefused 565 = .ok (.sipush 1999, 3) := by decide +kernel
theorem dL_isRefused_568 : decode cL_isRefused 568 = .ok (.iload 4, 2) := by decide +kernel
theorem dL_isRefused_570 : decode cL_isRefused 570 = .ok (.bipush 30, 2) := by decide +kernel
theorem dL_isRefused_572 : decode cL_isRefused 572 = .ok (.irem, 1) := by decide +kernel
theorem dL_isRefused_573 : decode cL_isRefused 573 = .ok (.isub, 1) := by decide +kernel
theorem dL_isRefused_574 : decode cL_isRefused 574 = .ok (.goto 5, 3) := by decide +kernel
theorem dL_isRefused_577 : decode cL_isRefused 577 = .ok (.ldc 121, 2) := by decide +kernel
theorem dL_isRefused_579 : decode cL_isRefused 579 = .ok (.iconst 5, 1) := by decide +kernel
theorem dL_isRefused_580 : decode cL_isRefused 580 = .ok (.iconst 5, 1) := by decide +kernel
theorem dL_isRefused_581 : decode cL_isRefused 581 = .ok (.iconst 0, 1) := by decide +kernel
theorem dL_isRefused_582 : decode cL_isRefused 582 = .ok (.iconst 0, 1) := by decide +kernel
theorem dL_isRefused_583 : decode cL_isRefused 583 = .ok (.invokestatic 117, 3) := by decide +kernel
theorem dL_isRefused_586 : decode cL_isRefused 586 = .ok (.ldc 95, 2) := by decide +kernel
theorem dL_isRefused_588 : decode cL_isRefused 588 = .ok (.if_icmp .ne 375, 3) := by decide +kernel
theorem dL_isRefused_591 : decode cL_isRefused 591 = .ok (.aload_n 0, 1) := by decide +kernel
theorem dL_isRefused_592 : decode cL_isRefused 592 = .ok (.bipush 16, 2) := by decide +kernel
theorem dL_isRefused_594 : decode cL_isRefused 594 = .ok (.sipush 5000, 3) := by decide +kernel
theorem dL_isRefused_597 : decode cL_isRefused 597 = .ok (.iload 5, 2) := by decide +kernel
theorem dL_isRefused_599 : decode cL_isRefused 599 = .ok (.ifCond .eq 13, 3) := by decide +kernel
theorem dL_isRefused_602 : decode cL_isRefused 602 = .ok (.iconst 0, 1) := by decide +kernel
theorem dL_isRefused_603 : decode cL_isRefused 603 = .ok (.iload 4, 2) := by decide +kernel
theorem dL_isRefused_605 : decode cL_isRefused 605 = .ok (.bipush 30, 2) := by decide +kernel
theorem dL_isRefused_607 : decode cL_isRefused 607 = .ok (.irem, 1) := by decide +kernel
theorem dL_isRefused_608 : decode cL_isRefused 608 = .ok (.isub, 1) := by decide +kernel
theorem dL_isRefused_609 : decode cL_isRefused 609 = .ok (.goto 6, 3) := by decide +kernel
theorem dL_isRefused_612 : decode cL_isRefused 612 = .ok (.sipush 1001, 3) := by decide +kernel
theorem dL_isRefused_615 : decode cL_isRefused 615 = .ok (.iconst 5, 1) := by decide +kernel
theorem dL_isRefused_616 : decode cL_isRefused 616 = .ok (.iconst 0, 1) := by decide +kernel
theorem dL_isRefused_617 : decode cL_isRefused 617 = .ok (.iconst 0, 1) := by decide +kernel
theorem dL_isRefused_618 : decode cL_isRefused 618 = .ok (.invokestatic 117, 3) := by decide +kernel
theorem dL_isRefused_621 : decode cL_isRefused 621 = .ok (.ldc 95, 2) := by decide +kernel
theorem dL_isRefused_623 : decode cL_isRefused 623 = .ok (.if_icmp .ne 340, 3) := by decide +kernel
theorem dL_isRefused_626 : decode cL_isRefused 626 = .ok (.aload_n 0, 1) := by decide +kernel
theorem dL_isRefused_627 : decode cL_isRefused 627 = .ok (.bipush 16, 2) := by decide +kernel
theorem dL_isRefused_629 : decode cL_isRefused 629 = .ok (.sipush 5000, 3) := by decide +kernel
theorem dL_isRefused_632 : decode cL_isRefused 632 = .ok (.iconst 5, 1) := by decide +kernel
theorem dL_isRefused_633 : decode cL_isRefused 633 = .ok (.iload 5, 2) := by decide +kernel
theorem dL_isRefused_635 : decode cL_isRefused 635 = .ok (.ifCond .eq 7, 3) := by decide +kernel
theorem dL_isRefused_638 : decode cL_isRefused 638 = .ok (.iconst (-1), 1) := by decide +kernel
theorem dL_isRefused_639 : decode cL_isRefused 639 = .ok (.goto 11, 3) := by decide +kernel
theorem dL_isRefused_642 : decode cL_isRefused 642 = .ok (.bipush 21, 2) := by decide +kernel
theorem dL_isRefused_644 : decode cL_isRefused 644 = .ok (.iload 4, 2) := by decide +kernel
theorem dL_isRefused_646 : decode cL_isRefused 646 = .ok (.bipush 30, 2) := by decide +kernel
theorem dL_isRefused_648 : decode cL_isRefused 648 = .ok (.irem, 1) := by decide +kernel
theorem dL_isRefused_649 : decode cL_isRefused 649 = .ok (.iadd, 1) := by decide +kernel
theorem dL_isRefused_650 : decode cL_isRefused 650 = .ok (.iconst 0, 1) := by decide +kernel
theorem dL_isRefused_651 : decode cL_isRefused 651 = .ok (.iconst 0, 1) := by decide +kernel
theorem dL_isRefused_652 : decode cL_isRefused 652 = .ok (.invokestatic 117, 3) := by decide +kernel
theorem dL_isRefused_655 : decode cL_isRefused 655 = .ok (.ldc 95, 2) := by decide +kernel
theorem dL_isRefused_657 : decode cL_isRefused 657 = .ok (.if_icmp .ne 306, 3) := by decide +kernel
theorem dL_isRefused_660 : decode cL_isRefused 660 = .ok (.aload_n 0, 1) := by decide +kernel
theorem dL_isRefused_661 : decode cL_isRefused 661 = .ok (.bipush 17, 2) := by decide +kernel
theorem dL_isRefused_663 : decode cL_isRefused 663 = .ok (.iload 9, 2) := by decide +kernel
theorem dL_isRefused_665 : decode cL_isRefused 665 = .ok (.bipush 9, 2) := by decide +kernel
theorem dL_isRefused_667 : decode cL_isRefused 667 = .ok (.iconst 0, 1) := by decide +kernel
theorem dL_isRefused_668 : decode cL_isRefused 668 = .ok (.iconst 0, 1) := by decide +kernel
theorem dL_isRefused_669 : decode cL_isRefused 669 = .ok (.iconst 0, 1) := by decide +kernel
theorem dL_isRefused_670 : decode cL_isRefused 670 = .ok (.invokestatic 117, 3) := by decide +kernel
theorem dL_isRefused_673 : decode cL_isRefused 673 = .ok (.ldc 92, 2) := by decide +kernel
theorem dL_isRefused_675 : decode cL_isRefused 675 = .ok (.if_icmp .ne 288, 3) := by decide +kernel
theorem dL_isRefused_678 : decode cL_isRefused 678 = .ok (.aload_n 0, 1) := by decide +kernel
theorem dL_isRefused_679 : decode cL_isRefused 679 = .ok (.bipush 17, 2) := by decide +kernel
theorem dL_isRefused_681 : decode cL_isRefused 681 = .ok (.iload 4, 2) := by decide +kernel
theorem dL_isRefused_683 : decode cL_isRefused 683 = .ok (.bipush 10, 2) := by decide +kernel
theorem dL_isRefused_685 : decode cL_isRefused 685 = .ok (.irem, 1) := by decide +kernel
theorem dL_isRefused_686 : decode cL_isRefused 686 = .ok (.iload 5, 2) := by decide +kernel
theorem dL_isRefused_688 : decode cL_isRefused 688 = .ok (.ifCond .eq 7, 3) := by decide +kernel
theorem dL_isRefused_691 : decode cL_isRefused 691 = .ok (.iconst (-1), 1) := by decide +kernel
theorem dL_isRefused_692 : decode cL_isRefused 692 = .ok (.goto 10, 3) := by decide +kernel
theorem dL_isRefused_695 : decode cL_isRefused 695 = .ok (.iconst 4, 1) := by decide +kernel
theorem dL_isRefused_696 : decode cL_isRefused 696 = .ok (.iload 4, 2) := by decide +kernel
theorem dL_isRefused_698 : decode cL_isRefused 698 = .ok (.bipush 30, 2) := by decide +kernel
theorem dL_isRefused_700 : decode cL_isRefused 700 = .ok (.irem, 1) := by decide +kernel
theorem dL_isRefused_701 : decode cL_isRefused 701 = .ok (.iadd, 1) := by decide +kernel
theorem dL_isRefused_702 : decode cL_isRefused 702 = .ok (.iconst 0, 1) := by decide +kernel
theorem dL_isRefused_703 : decode cL_isRefused 703 = .ok (.iconst 0, 1) := by decide +kernel
theorem dL_isRefused_704 : decode cL_isRefused 704 = .ok (.iconst 0, 1) := by decide +kernel
theorem dL_isRefused_705 : decode cL_isRefused 705 = .ok (.invokestatic 117, 3) := by decide +kernel
theorem dL_isRefused_708 : decode cL_isRefused 708 = .ok (.ldc 95, 2) := by decide +kernel
theorem dL_isRefused_710 : decode cL_isRefused 710 = .ok (.if_icmp .ne 253, 3) := by decide +kernel
theorem dL_isRefused_713 : decode cL_isRefused 713 = .ok (.aload_n 0, 1) := by decide +kernel
theorem dL_isRefused_714 : decode cL_isRefused 714 = .ok (.bipush 18, 2) := by decide +kernel
theorem dL_isRefused_716 : decode cL_isRefused 716 = .ok (.iload 5, 2) := by decide +kernel
theorem dL_isRefused_718 : decode cL_isRefused 718 = .ok (.ifCond .eq 13, 3) := by decide +kernel
theorem dL_isRefused_721 : decode cL_isRefused 721 = .ok (.iconst (-1), 1) := by decide +kernel
theorem dL_isRefused_722 : decode cL_isRefused 722 = .ok (.iload 4, 2) := by decide +kernel
theorem dL_isRefused_724 : decode cL_isRefused 724 = .ok (.bipush 30, 2) := by decide +kernel
theorem dL_isRefused_726 : decode cL_isRefused 726 = .ok (.irem, 1) := by decide +kernel
theorem dL_isRefused_727 : decode cL_isRefused 727 = .ok (.isub, 1) := by decide +kernel
theorem dL_isRefused_728 : decode cL_isRefused 728 = .ok (.goto 5, 3) := by decide +kernel
theorem dL_isRefused_731 : decode cL_isRefused 731 = .ok (.bipush 48, 2) := by decide +kernel
theorem dL_isRefused_733 : decode cL_isRefused 733 = .ok (.bipush 9, 2) := by decide +kernel
theorem dL_isRefused_735 : decode cL_isRefused 735 = .ok (.iconst 0, 1) := by decide +kernel
theorem dL_isRefused_736 : decode cL_isRefused 736 = .ok (.iconst 0, 1) := by decide +kernel
theorem dL_isRefused_737 : decode cL_isRefused 737 = .ok (.iconst 0, 1) := by decide +kernel
theorem dL_isRefused_738 : decode cL_isRefused 738 = .ok (.invokestatic 117, 3) := by decide +kernel
theorem dL_isRefused_741 : decode cL_isRefused 741 = .ok (.ldc 92, 2) := by decide +kernel
theorem dL_isRefused_743 : decode cL_isRefused 743 = .ok (.if_icmp .ne 220, 3) := by decide +kernel
theorem dL_isRefused_746 : decode cL_isRefused 746 = .ok (.aload_n 0, 1) := by decide +kernel
theorem dL_isRefused_747 : decode cL_isRefused 747 = .ok (.bipush 18, 2) := by decide +kernel
theorem dL_isRefused_749 : decode cL_isRefused 749 = .ok (.iload 4, 2) := by decide +kernel
theorem dL_isRefused_751 : decode cL_isRefused 751 = .ok (.bipush 48, 2) := by decide +kernel
theorem dL_isRefused_753 : decode cL_isRefused 753 = .ok (.irem, 1) := by decide +kernel
theorem dL_isRefused_754 : decode cL_isRefused 754 = .ok (.iload 5, 2) := by decide +kernel
theorem dL_isRefused_756 : decode cL_isRefused 756 = .ok (.ifCond .eq 7, 3) := by decide +kernel
theorem dL_isRefused_759 : decode cL_isRefused 759 = .ok (.iconst (-1), 1) := by decide +kernel
theorem dL_isRefused_760 : decode cL_isRefused 760 = .ok (.goto 10, 3) := by decide +kernel
theorem dL_isRefused_763 : decode cL_isRefused 763 = .ok (.iconst 3, 1) := by decide +kernel
theorem dL_isRefused_764 : decode cL_isRefused 764 = .ok (.iload 4, 2) := by decide +kernel
theorem dL_isRefused_766 : decode cL_isRefused 766 = .ok (.bipush 30, 2) := by decide +kernel
theorem dL_isRefused_768 : decode cL_isRefused 768 = .ok (.irem, 1) := by decide +kernel
theorem dL_isRefused_769 : decode cL_isRefused 769 = .ok (.iadd, 1) := by decide +kernel
theorem dL_isRefused_770 : decode cL_isRefused 770 = .ok (.iconst 0, 1) := by decide +kernel
theorem dL_isRefused_771 : decode cL_isRefused 771 = .ok (.iconst 0, 1) := by decide +kernel
theorem dL_isRefused_772 : decode cL_isRefused 772 = .ok (.iconst 0, 1) := by decide +kernel
theorem dL_isRefused_773 : decode cL_isRefused 773 = .ok (.invokestatic 117, 3) := by decide +kernel
theorem dL_isRefused_776 : decode cL_isRefused 776 = .ok (.ldc 95, 2) := by decide +kernel
theorem dL_isRefused_778 : decode cL_isRefused 778 = .ok (.if_icmp .ne 185, 3) := by decide +kernel
theorem dL_isRefused_781 : decode cL_isRefused 781 = .ok (.aload_n 0, 1) := by decide +kernel
theorem dL_isRefused_782 : decode cL_isRefused 782 = .ok (.bipush 19, 2) := by decide +kernel
theorem dL_isRefused_784 : decode cL_isRefused 784 = .ok (.iload 8, 2) := by decide +kernel
theorem dL_isRefused_786 : decode cL_isRefused 786 = .ok (.iconst 0, 1) := by decide +kernel
theorem dL_isRefused_787 : decode cL_isRefused 787 = .ok (.iconst 0, 1) := by decide +kernel
theorem dL_isRefused_788 : decode cL_isRefused 788 = .ok (.iconst 0, 1) := by decide +kernel
theorem dL_isRefused_789 : decode cL_isRefused 789 = .ok (.iconst 0, 1) := by decide +kernel
theorem dL_isRefused_790 : decode cL_isRefused 790 = .ok (.invokestatic 117, 3) := by decide +kernel
theorem dL_isRefused_793 : decode cL_isRefused 793 = .ok (.ldc 92, 2) := by decide +kernel
theorem dL_isRefused_795 : decode cL_isRefused 795 = .ok (.if_icmp .ne 168, 3) := by decide +kernel
theorem dL_isRefused_798 : decode cL_isRefused 798 = .ok (.aload_n 0, 1) := by decide +kernel
theorem dL_isRefused_799 : decode cL_isRefused 799 = .ok (.bipush 20, 2) := by decide +kernel
theorem dL_isRefused_801 : decode cL_isRefused 801 = .ok (.iload 6, 2) := by decide +kernel
theorem dL_isRefused_803 : decode cL_isRefused 803 = .ok (.bipush 9, 2) := by decide +kernel
theorem dL_isRefused_805 : decode cL_isRefused 805 = .ok (.iconst 0, 1) := by decide +kernel
theorem dL_isRefused_806 : decode cL_isRefused 806 = .ok (.iconst 0, 1) := by decide +kernel
theorem dL_isRefused_807 : decode cL_isRefused 807 = .ok (.iconst 0, 1) := by decide +kernel
theorem dL_isRefused_808 : decode cL_isRefused 808 = .ok (.invokestatic 117, 3) := by decide +kernel
theorem dL_isRefused_811 : decode cL_isRefused 811 = .ok (.ldc 92, 2) := by decide +kernel
theorem dL_isRefused_813 : decode cL_isRefused 813 = .ok (.if_icmp .ne 150, 3) := by decide +kernel
theorem dL_isRefused_816 : decode cL_isRefused 816 = .ok (.aload_n 0, 1) := by decide +kernel
theorem dL_isRefused_817 : decode cL_isRefused 817 = .ok (.bipush 21, 2) := by decide +kernel
theorem dL_isRefused_819 : decode cL_isRefused 819 = .ok (.iload 4, 2) := by decide +kernel
theorem dL_isRefused_821 : decode cL_isRefused 821 = .ok (.bipush 100, 2) := by decide +kernel
theorem dL_isRefused_823 : decode cL_isRefused 823 = .ok (.irem, 1) := by decide +kernel
theorem dL_isRefused_824 : decode cL_isRefused 824 = .ok (.iload 5, 2) := by decide +kernel
theorem dL_isRefused_826 : decode cL_isRefused 826 = .ok (.ifCond .eq 13, 3) := by decide +kernel
theorem dL_isRefused_829 : decode cL_isRefused 829 = .ok (.iconst (-1), 1) := by decide +kernel
theorem dL_isRefused_830 : decode cL_isRefused 830 = .ok (.iload 4, 2) := by decide +kernel
theorem dL_isRefused_832 : decode cL_isRefused 832 = .ok (.bipush 30, 2) := by decide +kernel
theorem dL_isRefused_834 : decode cL_isRefused 834 = .ok (.irem, 1) := by decide +kernel
theorem dL_isRefused_835 : decode cL_isRefused 835 = .ok (.isub, 1) := by decide +kernel
theorem dL_isRefused_836 : decode cL_isRefused 836 = .ok (.goto 5, 3) := by decide +kernel
theorem dL_isRefused_839 : decode cL_isRefused 839 = .ok (.bipush 100, 2) := by decide +kernel
theorem dL_isRefused_841 : decode cL_isRefused 841 = .ok (.iconst 5, 1) := by decide +kernel
theorem dL_isRefused_842 : decode cL_isRefused 842 = .ok (.iconst 5, 1) := by decide +kernel
theorem dL_isRefused_843 : decode cL_isRefused 843 = .ok (.iconst 5, 1) := by decide +kernel
theorem dL_isRefused_844 : decode cL_isRefused 844 = .ok (.invokestatic 117, 3) := by decide +kernel
theorem dL_isRefused_847 : decode cL_isRefused 847 = .ok (.ldc 95, 2) := by decide +kernel
theorem dL_isRefused_849 : decode cL_isRefused 849 = .ok (.if_icmp .ne 114, 3) := by decide +kernel
theorem dL_isRefused_852 : decode cL_isRefused 852 = .ok (.aload_n 0, 1) := by decide +kernel
theorem dL_isRefused_853 : decode cL_isRefused 853 = .ok (.iconst 0, 1) := by decide +kernel
theorem dL_isRefused_854 : decode cL_isRefused 854 = .ok (.bipush (-9), 2) := by decide +kernel
theorem dL_isRefused_856 : decode cL_isRefused 856 = .ok (.iload 4, 2) := by decide +kernel
theorem dL_isRefused_858 : decode cL_isRefused 858 = .ok (.ldc 126, 2) := by decide +kernel
theorem dL_isRefused_860 : decode cL_isRefused 860 = .ok (.irem, 1) := by decide +kernel
theorem dL_isRefused_861 : decode cL_isRefused 861 = .ok (.i2l, 1) := by decide +kernel
theorem dL_isRefused_862 : decode cL_isRefused 862 = .ok (.bipush 48, 2) := by decide +kernel
theorem dL_isRefused_864 : decode cL_isRefused 864 = .ok (.lshl, 1) := by decide +kernel
theorem dL_isRefused_865 : decode cL_isRefused 865 = .ok (.iconst 0, 1) := by decide +kernel
theorem dL_isRefused_866 : decode cL_isRefused 866 = .ok (.invokestatic 127, 3) := by decide +kernel
theorem dL_isRefused_869 : decode cL_isRefused 869 = .ok (.ldc 95, 2) := by decide +kernel
theorem dL_isRefused_871 : decode cL_isRefused 871 = .ok (.if_icmp .ne 92, 3) := by decide +kernel
theorem dL_isRefused_874 : decode cL_isRefused 874 = .ok (.aload_n 0, 1) := by decide +kernel
theorem dL_isRefused_875 : decode cL_isRefused 875 = .ok (.iload 8, 2) := by decide +kernel
theorem dL_isRefused_877 : decode cL_isRefused 877 = .ok (.iconst 0, 1) := by decide +kernel
theorem dL_isRefused_878 : decode cL_isRefused 878 = .ok (.lconst 1, 1) := by decide +kernel
theorem dL_isRefused_879 : decode cL_isRefused 879 = .ok (.iconst 0, 1) := by decide +kernel
theorem dL_isRefused_880 : decode cL_isRefused 880 = .ok (.invokestatic 127, 3) := by decide +kernel
theorem dL_isRefused_883 : decode cL_isRefused 883 = .ok (.ldc 92, 2) := by decide +kernel
theorem dL_isRefused_885 : decode cL_isRefused 885 = .ok (.if_icmp .ne 78, 3) := by decide +kernel
theorem dL_isRefused_888 : decode cL_isRefused 888 = .ok (.aload_n 1, 1) := by decide +kernel
theorem dL_isRefused_889 : decode cL_isRefused 889 = .ok (.iconst 1, 1) := by decide +kernel
theorem dL_isRefused_890 : decode cL_isRefused 890 = .ok (.iaload, 1) := by decide +kernel
theorem dL_isRefused_891 : decode cL_isRefused 891 = .ok (.bipush 10, 2) := by decide +kernel
theorem dL_isRefused_893 : decode cL_isRefused 893 = .ok (.if_icmp .lt 18, 3) := by decide +kernel
theorem dL_isRefused_896 : decode cL_isRefused 896 = .ok (.aload_n 0, 1) := by decide +kernel
theorem dL_isRefused_897 : decode cL_isRefused 897 = .ok (.iconst 0, 1) := by decide +kernel
theorem dL_isRefused_898 : decode cL_isRefused 898 = .ok (.iconst 5, 1) := by decide +kernel
theorem dL_isRefused_899 : decode cL_isRefused 899 = .ok (.iconst 1, 1) := by decide +kernel
theorem dL_isRefused_900 : decode cL_isRefused 900 = .ok (.iconst 0, 1) := by decide +kernel
theorem dL_isRefused_901 : decode cL_isRefused 901 = .ok (.iconst 0, 1) := by decide +kernel
theorem dL_isRefused_902 : decode cL_isRefused 902 = .ok (.iconst 0, 1) := by decide +kernel
theorem dL_isRefused_903 : decode cL_isRefused 903 = .ok (.invokestatic 117, 3) := by decide +kernel
theorem dL_isRefused_906 : decode cL_isRefused 906 = .ok (.ldc 98, 2) := by decide +kernel
theorem dL_isRefused_908 : decode cL_isRefused 908 = .ok (.if_icmp .ne 55, 3) := by decide +kernel
theorem dL_isRefused_911 : decode cL_isRefused 911 = .ok (.aload_n 1, 1) := by decide +kernel
theorem dL_isRefused_912 : decode cL_isRefused 912 = .ok (.iconst 2, 1) := by decide +kernel
theorem dL_isRefused_913 : decode cL_isRefused 913 = .ok (.iaload, 1) := by decide +kernel
theorem dL_isRefused_914 : decode cL_isRefused 914 = .ok (.bipush 10, 2) := by decide +kernel
theorem dL_isRefused_916 : decode cL_isRefused 916 = .ok (.if_icmp .lt 19, 3) := by decide +kernel
theorem dL_isRefused_919 : decode cL_isRefused 919 = .ok (.aload_n 0, 1) := by decide +kernel
theorem dL_isRefused_920 : decode cL_isRefused 920 = .ok (.bipush 11, 2) := by decide +kernel
theorem dL_isRefused_922 : decode cL_isRefused 922 = .ok (.iconst 5, 1) := by decide +kernel
theorem dL_isRefused_923 : decode cL_isRefused 923 = .ok (.iconst 0, 1) := by decide +kernel
theorem dL_isRefused_924 : decode cL_isRefused 924 = .ok (.iconst 0, 1) := by decide +kernel
theorem dL_isRefused_925 : decode cL_isRefused 925 = .ok (.iconst 0, 1) := by decide +kernel
theorem dL_isRefused_926 : decode cL_isRefused 926 = .ok (.iconst 0, 1) := by decide +kernel
theorem dL_isRefused_927 : decode cL_isRefused 927 = .ok (.invokestatic 117, 3) := by decide +kernel
theorem dL_isRefused_930 : decode cL_isRefused 930 = .ok (.ldc 98, 2) := by decide +kernel
theorem dL_isRefused_932 : decode cL_isRefused 932 = .ok (.if_icmp .ne 31, 3) := by decide +kernel
theorem dL_isRefused_935 : decode cL_isRefused 935 = .ok (.aload_n 1, 1) := by decide +kernel
theorem dL_isRefused_936 : decode cL_isRefused 936 = .ok (.iconst 3, 1) := by decide +kernel
theorem dL_isRefused_937 : decode cL_isRefused 937 = .ok (.iaload, 1) := by decide +kernel
theorem dL_isRefused_938 : decode cL_isRefused 938 = .ok (.bipush 30, 2) := by decide +kernel
theorem dL_isRefused_940 : decode cL_isRefused 940 = .ok (.if_icmp .lt 19, 3) := by decide +kernel
theorem dL_isRefused_943 : decode cL_isRefused 943 = .ok (.aload_n 0, 1) := by decide +kernel
theorem dL_isRefused_944 : decode cL_isRefused 944 = .ok (.iconst 0, 1) := by decide +kernel
theorem dL_isRefused_945 : decode cL_isRefused 945 = .ok (.bipush (-9), 2) := by decide +kernel
theorem dL_isRefused_947 : decode cL_isRefused 947 = .ok (.ldc2_w 131, 3) := by decide +kernel
theorem dL_isRefused_950 : decode cL_isRefused 950 = .ok (.iconst 0, 1) := by decide +kernel
theorem dL_isRefused_951 : decode cL_isRefused 951 = .ok (.invokestatic 127, 3) := by decide +kernel
theorem dL_isRefused_954 : decode cL_isRefused 954 = .ok (.ldc 98, 2) := by decide +kernel
theorem dL_isRefused_956 : decode cL_isRefused 956 = .ok (.if_icmp .ne 7, 3) := by decide +kernel
theorem dL_isRefused_959 : decode cL_isRefused 959 = .ok (.iconst 1, 1) := by decide +kernel
theorem dL_isRefused_960 : decode cL_isRefused 960 = .ok (.goto 4, 3) := by decide +kernel
theorem dL_isRefused_963 : decode cL_isRefused 963 = .ok (.iconst 0, 1) := by decide +kernel
theorem dL_isRefused_964 : decode cL_isRefused 964 = .ok (.istore 13, 2) := by decide +kernel
theorem dL_isRefused_966 : decode cL_isRefused 966 = .ok (.iconst 0, 1) := by decide +kernel
theorem dL_isRefused_967 : decode cL_isRefused 967 = .ok (.istore 14, 2) := by decide +kernel
theorem dL_isRefused_969 : decode cL_isRefused 969 = .ok (.iload 14, 2) := by decide +kernel
theorem dL_isRefused_971 : decode cL_isRefused 971 = .ok (.aload_n 1, 1) := by decide +kernel
theorem dL_isRefused_972 : decode cL_isRefused 972 = .ok (.iconst 1, 1) := by decide +kernel
theorem dL_isRefused_973 : decode cL_isRefused 973 = .ok (.iaload, 1) := by decide +kernel
theorem dL_isRefused_974 : decode cL_isRefused 974 = .ok (.if_icmp .ge 383, 3) := by decide +kernel
theorem dL_isRefused_977 : decode cL_isRefused 977 = .ok (.iload 14, 2) := by decide +kernel
theorem dL_isRefused_979 : decode cL_isRefused 979 = .ok (.iconst 4, 1) := by decide +kernel
theorem dL_isRefused_980 : decode cL_isRefused 980 = .ok (.if_icmp .ge 377, 3) := by decide +kernel
theorem dL_isRefused_983 : decode cL_isRefused 983 = .ok (.iload 13, 2) := by decide +kernel
theorem dL_isRefused_985 : decode cL_isRefused 985 = .ok (.ifCond .eq 372, 3) := by decide +kernel
theorem dL_isRefused_988 : decode cL_isRefused 988 = .ok (.iload 5, 2) := by decide +kernel
theorem dL_isRefused_990 : decode cL_isRefused 990 = .ok (.ifCond .eq 13, 3) := by decide +kernel
theorem dL_isRefused_993 : decode cL_isRefused 993 = .ok (.iconst (-1), 1) := by decide +kernel
theorem dL_isRefused_994 : decode cL_isRefused 994 = .ok (.iload 4, 2) := by decide +kernel
theorem dL_isRefused_996 : decode cL_isRefused 996 = .ok (.bipush 30, 2) := by decide +kernel
theorem dL_isRefused_998 : decode cL_isRefused 998 = .ok (.irem, 1) := by decide +kernel
theorem dL_isRefused_999 : decode cL_isRefused 999 = .ok (.isub, 1) := by decide +kernel
theorem dL_isRefused_1000 : decode cL_isRefused 1000 = .ok (.goto 13, 3) := by decide +kernel
theorem dL_isRefused_1003 : decode cL_isRefused 1003 = .ok (.aload_n 2, 1) := by decide +kernel
theorem dL_isRefused_1004 : decode cL_isRefused 1004 = .ok (.iload 14, 2) := by decide +kernel
theorem dL_isRefused_1006 : decode cL_isRefused 1006 = .ok (.iaload, 1) := by decide +kernel
theorem dL_isRefused_1007 : decode cL_isRefused 1007 = .ok (.iload 4, 2) := by decide +kernel
theorem dL_isRefused_1009 : decode cL_isRefused 1009 = .ok (.bipush 30, 2) := by decide +kernel
theorem dL_isRefused_1011 : decode cL_isRefused 1011 = .ok (.irem, 1) := by decide +kernel
theorem dL_isRefused_1012 : decode cL_isRefused 1012 = .ok (.iadd, 1) := by decide +kernel
theorem dL_isRefused_1013 : decode cL_isRefused 1013 = .ok (.istore 15, 2) := by decide +kernel
theorem dL_isRefused_1015 : decode cL_isRefused 1015 = .ok (.iload 4, 2) := by decide +kernel
theorem dL_isRefused_1017 : decode cL_isRefused 1017 = .ok (.aload_n 2, 1) := by decide +kernel
theorem dL_isRefused_1018 : decode cL_isRefused 1018 = .ok (.iload 14, 2) := by decide +kernel
theorem dL_isRefused_1020 : decode cL_isRefused 1020 = .ok (.iaload, 1) := by decide +kernel
theorem dL_isRefused_1021 : decode cL_isRefused 1021 = .ok (.irem, 1) := by decide +kernel
theorem dL_isRefused_1022 : decode cL_isRefused 1022 = .ok (.istore 16, 2) := by decide +kernel
theorem dL_isRefused_1024 : decode cL_isRefused 1024 = .ok (.aload_n 0, 1) := by decide +kernel
theorem dL_isRefused_1025 : decode cL_isRefused 1025 = .ok (.iconst 2, 1) := by decide +kernel
theorem dL_isRefused_1026 : decode cL_isRefused 1026 = .ok (.iload 14, 2) := by decide +kernel
theorem dL_isRefused_1028 : decode cL_isRefused 1028 = .ok (.iload 5, 2) := by decide +kernel
theorem dL_isRefused_1030 : decode cL_isRefused 1030 = .ok (.ifCond .eq 7, 3) := by decide +kernel
theorem dL_isRefused_1033 : decode cL_isRefused 1033 = .ok (.iconst (-1), 1) := by decide +kernel
theorem dL_isRefused_1034 : decode cL_isRefused 1034 = .ok (.goto 11, 3) := by decide +kernel
theorem dL_isRefused_1037 : decode cL_isRefused 1037 = .ok (.bipush 31, 2) := by decide +kernel
theorem dL_isRefused_1039 : decode cL_isRefused 1039 = .ok (.iload 4, 2) := by decide +kernel
theorem dL_isRefused_1041 : decode cL_isRefused 1041 = .ok (.bipush 30, 2) := by decide +kernel
theorem dL_isRefused_1043 : decode cL_isRefused 1043 = .ok (.irem, 1) := by decide +kernel
theorem dL_isRefused_1044 : decode cL_isRefused 1044 = .ok (.iadd, 1) := by decide +kernel
theorem dL_isRefused_1045 : decode cL_isRefused 1045 = .ok (.iconst 0, 1) := by decide +kernel
theorem dL_isRefused_1046 : decode cL_isRefused 1046 = .ok (.iconst 0, 1) := by decide +kernel
theorem dL_isRefused_1047 : decode cL_isRefused 1047 = .ok (.iconst 0, 1) := by decide +kernel
theorem dL_isRefused_1048 : decode cL_isRefused 1048 = .ok (.invokestatic 117, 3) := by decide +kernel
theorem dL_isRefused_1051 : decode cL_isRefused 1051 = .ok (.ldc 95, 2) := by decide +kernel
theorem dL_isRefused_1053 : decode cL_isRefused 1053 = .ok (.if_icmp .ne 295, 3) := by decide +kernel
theorem dL_isRefused_1056 : decode cL_isRefused 1056 = .ok (.aload_n 0, 1) := by decide +kernel
theorem dL_isRefused_1057 : decode cL_isRefused 1057 = .ok (.iconst 3, 1) := by decide +kernel
theorem dL_isRefused_1058 : decode cL_isRefused 1058 = .ok (.iload 14, 2) := by decide +kernel
theorem dL_isRefused_1060 : decode cL_isRefused 1060 = .ok (.iload 5, 2) := by decide +kernel
theorem dL_isRefused_1062 : decode cL_isRefused 1062 = .ok (.ifCond .eq 8, 3) := by decide +kernel
theorem dL_isRefused_1065 : decode cL_isRefused 1065 = .ok (.iload 15, 2) := by decide +kernel
theorem dL_isRefused_1067 : decode cL_isRefused 1067 = .ok (.goto 9, 3) := by decide +kernel
theorem dL_isRefused_1070 : decode cL_isRefused 1070 = .ok (.aload_n 2, 1) := by decide +kernel
theorem dL_isRefused_1071 : decode cL_isRefused 1071 = .ok (.iload 14, 2) := by decide +kernel
theorem dL_isRefused_1073 : decode cL_isRefused 1073 = .ok (.iaload, 1) := by decide +kernel
theorem dL_isRefused_1074 : decode cL_isRefused 1074 = .ok (.iconst 1, 1) := by decide +kernel
theorem dL_isRefused_1075 : decode cL_isRefused 1075 = .ok (.isub, 1) := by decide +kernel
theorem dL_isRefused_1076 : decode cL_isRefused 1076 = .ok (.iconst 0, 1) := by decide +kernel
theorem dL_isRefused_1077 : decode cL_isRefused 1077 = .ok (.iconst 0, 1) := by decide +kernel
theorem dL_isRefused_1078 : decode cL_isRefused 1078 = .ok (.iconst 0, 1) := by decide +kernel
theorem dL_isRefused_1079 : decode cL_isRefused 1079 = .ok (.invokestatic 117, 3) := by decide +kernel
theorem dL_isRefused_1082 : decode cL_isRefused 1082 = .ok (.ldc 92, 2) := by decide +kernel
theorem dL_isRefused_1084 : decode cL_isRefused 1084 = .ok (.if_icmp .ne 264, 3) := by decide +kernel
theorem dL_isRefused_1087 : decode cL_isRefused 1087 = .ok (.aload_n 0, 1) := by decide +kernel
theorem dL_isRefused_1088 : decode cL_isRefused 1088 = .ok (.iconst 4, 1) := by decide +kernel
theorem dL_isRefused_1089 : decode cL_isRefused 1089 = .ok (.iload 14, 2) := by decide +kernel
theorem dL_isRefused_1091 : decode cL_isRefused 1091 = .ok (.iload 15, 2) := by decide +kernel
theorem dL_isRefused_1093 : decode cL_isRefused 1093 = .ok (.iconst 0, 1) := by decide +kernel
theorem dL_isRefused_1094 : decode cL_isRefused 1094 = .ok (.bipush 9, 2) := by decide +kernel
theorem dL_isRefused_1096 : decode cL_isRefused 1096 = .ok (.iconst 0, 1) := by decide +kernel
theorem dL_isRefused_1097 : decode cL_isRefused 1097 = .ok (.invokestatic 117, 3) := by decide +kernel
theorem dL_isRefused_1100 : decode cL_isRefused 1100 = .ok (.ldc 92, 2) := by decide +kernel
theorem dL_isRefused_1102 : decode cL_isRefused 1102 = .ok (.if_icmp .ne 246, 3) := by decide +kernel
theorem dL_isRefused_1105 : decode cL_isRefused 1105 = .ok (.aload_n 0, 1) := by decide +kernel
theorem dL_isRefused_1106 : decode cL_isRefused 1106 = .ok (.iconst 4, 1) := by decide +kernel
theorem dL_isRefused_1107 : decode cL_isRefused 1107 = .ok (.iload 14, 2) := by decide +kernel
theorem dL_isRefused_1109 : decode cL_isRefused 1109 = .ok (.iconst 0, 1) := by decide +kernel
theorem dL_isRefused_1110 : decode cL_isRefused 1110 = .ok (.iload 15, 2) := by decide +kernel
theorem dL_isRefused_1112 : decode cL_isRefused 1112 = .ok (.bipush 9, 2) := by decide +kernel
theorem dL_isRefused_1114 : decode cL_isRefused 1114 = .ok (.iconst 0, 1) := by decide +kernel
theorem dL_isRefused_1115 : decode cL_isRefused 1115 = .ok (.invokestatic 117, 3) := by decide +kernel
theorem dL_isRefused_1118 : decode cL_isRefused 1118 = .ok (.ldc 92, 2) := by decide +kernel
theorem dL_isRefused_1120 : decode cL_isRefused 1120 = .ok (.if_icmp .ne 228, 3) := by decide +kernel
theorem dL_isRefused_1123 : decode cL_isRefused 1123 = .ok (.aload_n 0, 1) := by decide +kernel
theorem dL_isRefused_1124 : decode cL_isRefused 1124 = .ok (.iconst 4, 1) := by decide +kernel
theorem dL_isRefused_1125 : decode cL_isRefused 1125 = .ok (.iload 14, 2) := by decide +kernel
theorem dL_isRefused_1127 : decode cL_isRefused 1127 = .ok (.iload 16, 2) := by decide +kernel
theorem dL_isRefused_1129 : decode cL_isRefused 1129 = .ok (.iload 16, 2) := by decide +kernel
theorem dL_isRefused_1131 : decode cL_isRefused 1131 = .ok (.iload 5, 2) := by decide +kernel
theorem dL_isRefused_1133 : decode cL_isRefused 1133 = .ok (.ifCond .eq 13, 3) := by decide +kernel
theorem dL_isRefused_1136 : decode cL_isRefused 1136 = .ok (.iconst (-1), 1) := by decide +kernel
theorem dL_isRefused_1137 : decode cL_isRefused 1137 = .ok (.iload 4, 2) := by decide +kernel
theorem dL_isRefused_1139 : decode cL_isRefused 1139 = .ok (.bipush 30, 2) := by decide +kernel
theorem dL_isRefused_1141 : decode cL_isRefused 1141 = .ok (.irem, 1) := by decide +kernel
theorem dL_isRefused_1142 : decode cL_isRefused 1142 = .ok (.isub, 1) := by decide +kernel
theorem dL_isRefused_1143 : decode cL_isRefused 1143 = .ok (.goto 4, 3) := by decide +kernel
theorem dL_isRefused_1146 : decode cL_isRefused 1146 = .ok (.iconst 4, 1) := by decide +kernel
theorem dL_isRefused_1147 : decode cL_isRefused 1147 = .ok (.iconst 5, 1) := by decide +kernel
theorem dL_isRefused_1148 : decode cL_isRefused 1148 = .ok (.invokestatic 117, 3) := by decide +kernel
theorem dL_isRefused_1151 : decode cL_isRefused 1151 = .ok (.ldc 95, 2) := by decide +kernel
theorem dL_isRefused_1153 : decode cL_isRefused 1153 = .ok (.if_icmp .ne 195, 3) := by decide +kernel
theorem dL_isRefused_1156 : decode cL_isRefused 1156 = .ok (.aload_n 0, 1) := by decide +kernel
theorem dL_isRefused_1157 : decode cL_isRefused 1157 = .ok (.iconst 4, 1) := by decide +kernel
theorem dL_isRefused_1158 : decode cL_isRefused 1158 = .ok (.iload 14, 2) := by decide +kernel
theorem dL_isRefused_1160 : decode cL_isRefused 1160 = .ok (.iload 16, 2) := by decide +kernel
theorem dL_isRefused_1162 : decode cL_isRefused 1162 = .ok (.iload 16, 2) := by decide +kernel
theorem dL_isRefused_1164 : decode cL_isRefused 1164 = .ok (.iload 4, 2) := by decide +kernel
theorem dL_isRefused_1166 : decode cL_isRefused 1166 = .ok (.iconst 4, 1) := by decide +kernel
theorem dL_isRefused_1167 : decode cL_isRefused 1167 = .ok (.irem, 1) := by decide +kernel
theorem dL_isRefused_1168 : decode cL_isRefused 1168 = .ok (.iload 5, 2) := by decide +kernel
theorem dL_isRefused_1170 : decode cL_isRefused 1170 = .ok (.ifCond .eq 7, 3) := by decide +kernel
theorem dL_isRefused_1173 : decode cL_isRefused 1173 = .ok (.iconst 0, 1) := by decide +kernel
theorem dL_isRefused_1174 : decode cL_isRefused 1174 = .ok (.goto 11, 3) := by decide +kernel
theorem dL_isRefused_1177 : decode cL_isRefused 1177 = .ok (.bipush 21, 2) := by decide +kernel
theorem dL_isRefused_1179 : decode cL_isRefused 1179 = .ok (.iload 4, 2) := by decide +kernel
theorem dL_isRefused_1181 : decode cL_isRefused 1181 = .ok (.bipush 30, 2) := by decide +kernel
theorem dL_isRefused_1183 : decode cL_isRefused 1183 = .ok (.irem, 1) := by decide +kernel
theorem dL_isRefused_1184 : decode cL_isRefused 1184 = .ok (.iadd, 1) := by decide +kernel
theorem dL_isRefused_1185 : decode cL_isRefused 1185 = .ok (.invokestatic 117, 3) := by decide +kernel
theorem dL_isRefused_1188 : decode cL_isRefused 1188 = .ok (.ldc 95, 2) := by decide +kernel
theorem dL_isRefused_1190 : decode cL_isRefused 1190 = .ok (.if_icmp .ne 158, 3) := by decide +kernel
theorem dL_isRefused_1193 : decode cL_isRefused 1193 = .ok (.iload 16, 2) := by decide +kernel
theorem dL_isRefused_1195 : decode cL_isRefused 1195 = .ok (.ifCond .eq 40, 3) := by decide +kernel
theorem dL_isRefused_1198 : decode cL_isRefused 1198 = .ok (.aload_n 0, 1) := by decide +kernel
theorem dL_isRefused_1199 : decode cL_isRefused 1199 = .ok (.iconst 4, 1) := by decide +kernel
theorem dL_isRefused_1200 : decode cL_isRefused 1200 = .ok (.iload 14, 2) := by decide +kernel
theorem dL_isRefused_1202 : decode cL_isRefused 1202 = .ok (.iload 16, 2) := by decide +kernel
theorem dL_isRefused_1204 : decode cL_isRefused 1204 = .ok (.iload 16, 2) := by decide +kernel
theorem dL_isRefused_1206 : decode cL_isRefused 1206 = .ok (.iconst 1, 1) := by decide +kernel
theorem dL_isRefused_1207 : decode cL_isRefused 1207 = .ok (.isub, 1) := by decide +kernel
theorem dL_isRefused_1208 : decode cL_isRefused 1208 = .ok (.iconst 0, 1) := by decide +kernel
theorem dL_isRefused_1209 : decode cL_isRefused 1209 = .ok (.iconst 5, 1) := by decide +kernel
theorem dL_isRefused_1210 : decode cL_isRefused 1210 = .ok (.invokestatic 117, 3) := by decide +kernel
theorem dL_isRefused_1213 : decode cL_isRefused 1213 = .ok (.ldc 95, 2) := by decide +kernel
theorem dL_isRefused_1215 : decode cL_isRefused 1215 = .ok (.if_icmp .ne 133, 3) := by decide +kernel
theorem dL_isRefused_1218 : decode cL_isRefused 1218 = .ok (.aload_n 0, 1) := by decide +kernel
theorem dL_isRefused_1219 : decode cL_isRefused 1219 = .ok (.iconst 5, 1) := by decide +kernel
theorem dL_isRefused_1220 : decode cL_isRefused 1220 = .ok (.iload 14, 2) := by decide +kernel
theorem dL_isRefused_1222 : decode cL_isRefused 1222 = .ok (.iload 16, 2) := by decide +kernel
theorem dL_isRefused_1224 : decode cL_isRefused 1224 = .ok (.iconst 0, 1) := by decide +kernel
theorem dL_isRefused_1225 : decode cL_isRefused 1225 = .ok (.iconst 0, 1) := by decide +kernel
theorem dL_isRefused_1226 : decode cL_isRefused 1226 = .ok (.iconst 0, 1) := by decide +kernel
theorem dL_isRefused_1227 : decode cL_isRefused 1227 = .ok (.invokestatic 117, 3) := by decide +kernel
theorem dL_isRefused_1230 : decode cL_isRefused 1230 = .ok (.ldc 95, 2) := by decide +kernel
theorem dL_isRefused_1232 : decode cL_isRefused 1232 = .ok (.if_icmp .ne 116, 3) := by decide +kernel
theorem dL_isRefused_1235 : decode cL_isRefused 1235 = .ok (.aload_n 0, 1) := by decide +kernel
theorem dL_isRefused_1236 : decode cL_isRefused 1236 = .ok (.bipush 8, 2) := by decide +kernel
theorem dL_isRefused_1238 : decode cL_isRefused 1238 = .ok (.iload 14, 2) := by decide +kernel
theorem dL_isRefused_1240 : decode cL_isRefused 1240 = .ok (.iload 16, 2) := by decide +kernel
theorem dL_isRefused_1242 : decode cL_isRefused 1242 = .ok (.aload_n 3, 1) := by decide +kernel
theorem dL_isRefused_1243 : decode cL_isRefused 1243 = .ok (.bipush 12, 2) := by decide +kernel
theorem dL_isRefused_1245 : decode cL_isRefused 1245 = .ok (.iload 14, 2) := by decide +kernel
theorem dL_isRefused_1247 : decode cL_isRefused 1247 = .ok (.imul, 1) := by decide +kernel
theorem dL_isRefused_1248 : decode cL_isRefused 1248 = .ok (.iload 16, 2) := by decide +kernel
theorem dL_isRefused_1250 : decode cL_isRefused 1250 = .ok (.iadd, 1) := by decide +kernel
theorem dL_isRefused_1251 : decode cL_isRefused 1251 = .ok (.iaload, 1) := by decide +kernel
theorem dL_isRefused_1252 : decode cL_isRefused 1252 = .ok (.iconst 0, 1) := by decide +kernel
theorem dL_isRefused_1253 : decode cL_isRefused 1253 = .ok (.iconst 0, 1) := by decide +kernel
theorem dL_isRefused_1254 : decode cL_isRefused 1254 = .ok (.invokestatic 117, 3) := by decide +kernel
theorem dL_isRefused_1257 : decode cL_isRefused 1257 = .ok (.ldc 92, 2) := by decide +kernel
theorem dL_isRefused_1259 : decode cL_isRefused 1259 = .ok (.if_icmp .ne 89, 3) := by decide +kernel
theorem dL_isRefused_1262 : decode cL_isRefused 1262 = .ok (.aload_n 3, 1) := by decide +kernel
theorem dL_isRefused_1263 : decode cL_isRefused 1263 = .ok (.bipush 12, 2) := by decide +kernel
theorem dL_isRefused_1265 : decode cL_isRefused 1265 = .ok (.iload 14, 2) := by decide +kernel
theorem dL_isRefused_1267 : decode cL_isRefused 1267 = .ok (.imul, 1) := by decide +kernel
theorem dL_isRefused_1268 : decode cL_isRefused 1268 = .ok (.iload 16, 2) := by decide +kernel
theorem dL_isRefused_1270 : decode cL_isRefused 1270 = .ok (.iadd, 1) := by decide +kernel
theorem dL_isRefused_1271 : decode cL_isRefused 1271 = .ok (.iaload, 1) := by decide +kernel
theorem dL_isRefused_1272 : decode cL_isRefused 1272 = .ok (.ifCond .gt 39, 3) := by decide +kernel
theorem dL_isRefused_1275 : decode cL_isRefused 1275 = .ok (.aload_n 0, 1) := by decide +kernel
theorem dL_isRefused_1276 : decode cL_isRefused 1276 = .ok (.bipush 6, 2) := by decide +kernel
theorem dL_isRefused_1278 : decode cL_isRefused 1278 = .ok (.iload 14, 2) := by decide +kernel
theorem dL_isRefused_1280 : decode cL_isRefused 1280 = .ok (.iload 16, 2) := by decide +kernel
theorem dL_isRefused_1282 : decode cL_isRefused 1282 = .ok (.iconst 0, 1) := by decide +kernel
theorem dL_isRefused_1283 : decode cL_isRefused 1283 = .ok (.iconst 0, 1) := by decide +kernel
theorem dL_isRefused_1284 : decode cL_isRefused 1284 = .ok (.iconst 0, 1) := by decide +kernel
theorem dL_isRefused_1285 : decode cL_isRefused 1285 = .ok (.invokestatic 117, 3) := by decide +kernel
theorem dL_isRefused_1288 : decode cL_isRefused 1288 = .ok (.ldc 98, 2) := by decide +kernel
theorem dL_isRefused_1290 : decode cL_isRefused 1290 = .ok (.if_icmp .ne 58, 3) := by decide +kernel
theorem dL_isRefused_1293 : decode cL_isRefused 1293 = .ok (.aload_n 0, 1) := by decide +kernel
theorem dL_isRefused_1294 : decode cL_isRefused 1294 = .ok (.iconst 5, 1) := by decide +kernel
theorem dL_isRefused_1295 : decode cL_isRefused 1295 = .ok (.iload 14, 2) := by decide +kernel
theorem dL_isRefused_1297 : decode cL_isRefused 1297 = .ok (.iload 16, 2) := by decide +kernel
theorem dL_isRefused_1299 : decode cL_isRefused 1299 = .ok (.iload 16, 2) := by decide +kernel
theorem dL_isRefused_1301 : decode cL_isRefused 1301 = .ok (.iconst 0, 1) := by decide +kernel
theorem dL_isRefused_1302 : decode cL_isRefused 1302 = .ok (.iconst 0, 1) := by decide +kernel
theorem dL_isRefused_1303 : decode cL_isRefused 1303 = .ok (.invokestatic 117, 3) := by decide +kernel
theorem dL_isRefused_1306 : decode cL_isRefused 1306 = .ok (.ldc 98, 2) := by decide +kernel
theorem dL_isRefused_1308 : decode cL_isRefused 1308 = .ok (.if_icmp .ne 40, 3) := by decide +kernel
theorem dL_isRefused_1311 : decode cL_isRefused 1311 = .ok (.aload_n 0, 1) := by decide +kernel
theorem dL_isRefused_1312 : decode cL_isRefused 1312 = .ok (.bipush 20, 2) := by decide +kernel
theorem dL_isRefused_1314 : decode cL_isRefused 1314 = .ok (.iload 14, 2) := by decide +kernel
theorem dL_isRefused_1316 : decode cL_isRefused 1316 = .ok (.iload 5, 2) := by decide +kernel
theorem dL_isRefused_1318 : decode cL_isRefused 1318 = .ok (.ifCond .eq 13, 3) := by decide +kernel
theorem dL_isRefused_1321 : decode cL_isRefused 1321 = .ok (.iconst (-1), 1) := by decide +kernel
theorem dL_isRefused_1322 : decode cL_isRefused 1322 = .ok (.iload 4, 2) := by decide +kernel
theorem dL_isRefused_1324 : decode cL_isRefused 1324 = .ok (.bipush 30, 2) := by decide +kernel
theorem dL_isRefused_1326 : decode cL_isRefused 1326 = .ok (.irem, 1) := by decide +kernel
theorem dL_isRefused_1327 : decode cL_isRefused 1327 = .ok (.isub, 1) := by decide +kernel
theorem dL_isRefused_1328 : decode cL_isRefused 1328 = .ok (.goto 5, 3) := by decide +kernel
theorem dL_isRefused_1331 : decode cL_isRefused 1331 = .ok (.bipush 6, 2) := by decide +kernel
theorem dL_isRefused_1333 : decode cL_isRefused 1333 = .ok (.iconst 5, 1) := by decide +kernel
theorem dL_isRefused_1334 : decode cL_isRefused 1334 = .ok (.iconst 0, 1) := by decide +kernel
theorem dL_isRefused_1335 : decode cL_isRefused 1335 = .ok (.iconst 0, 1) := by decide +kernel
theorem dL_isRefused_1336 : decode cL_isRefused 1336 = .ok (.invokestatic 117, 3) := by decide +kernel
theorem dL_isRefused_1339 : decode cL_isRefused 1339 = .ok (.ldc 95, 2) := by decide +kernel
theorem dL_isRefused_1341 : decode cL_isRefused 1341 = .ok (.if_icmp .ne 7, 3) := by decide +kernel
theorem dL_isRefused_1344 : decode cL_isRefused 1344 = .ok (.iconst 1, 1) := by decide +kernel
theorem dL_isRefused_1345 : decode cL_isRefused 1345 = .ok (.goto 4, 3) := by decide +kernel
theorem dL_isRefused_1348 : decode cL_isRefused 1348 = .ok (.iconst 0, 1) := by decide +kernel
theorem dL_isRefused_1349 : decode cL_isRefused 1349 = .ok (.istore 13, 2) := by decide +kernel
theorem dL_isRefused_1351 : decode cL_isRefused 1351 = .ok (.iinc 14 1, 3) := by decide +kernel
theorem dL_isRefused_1354 : decode cL_isRefused 1354 = .ok (.goto (-385), 3) := by decide +kernel
theorem dL_isRefused_1357 : decode cL_isRefused 1357 = .ok (.iload 13, 2) := by decide +kernel
theorem dL_isRefused_1359 : decode cL_isRefused 1359 = .ok (.ifCond .eq 19, 3) := by decide +kernel
theorem dL_isRefused_1362 : decode cL_isRefused 1362 = .ok (.aload_n 0, 1) := by decide +kernel
theorem dL_isRefused_1363 : decode cL_isRefused 1363 = .ok (.aload_n 1, 1) := by decide +kernel
theorem dL_isRefused_1364 : decode cL_isRefused 1364 = .ok (.aload_n 3, 1) := by decide +kernel
theorem dL_isRefused_1365 : decode cL_isRefused 1365 = .ok (.invokestatic 122, 3) := by decide +kernel
theorem dL_isRefused_1368 : decode cL_isRefused 1368 = .ok (.lload 11, 2) := by decide +kernel
theorem dL_isRefused_1370 : decode cL_isRefused 1370 = .ok (.lcmp, 1) := by decide +kernel
theorem dL_isRefused_1371 : decode cL_isRefused 1371 = .ok (.ifCond .ne 7, 3) := by decide +kernel
theorem dL_isRefused_1374 : decode cL_isRefused 1374 = .ok (.iconst 1, 1) := by decide +kernel
theorem dL_isRefused_1375 : decode cL_isRefused 1375 = .ok (.goto 4, 3) := by decide +kernel
theorem dL_isRefused_1378 : decode cL_isRefused 1378 = .ok (.iconst 0, 1) := by decide +kernel
theorem dL_isRefused_1379 : decode cL_isRefused 1379 = .ok (.ireturn, 1) := by decide +kernel
