/-! decode rows -/
theorem d_M_init_0 : decode b_M_init 0 = .ok (.aload_n 0, 1) := by decide +kernel
theorem d_M_init_1 : decode b_M_init 1 = .ok (.invokespecial 1, 3) := by decide +kernel
theorem d_M_init_4 : decode b_M_init 4 = .ok (.aload_n 0, 1) := by decide +kernel
theorem d_M_init_5 : decode b_M_init 5 = .ok (.bipush (40), 2) := by decide +kernel
theorem d_M_init_7 : decode b_M_init 7 = .ok (.newarray .int, 2) := by decide +kernel
theorem d_M_init_9 : decode b_M_init 9 = .ok (.putfield 7, 3) := by decide +kernel
theorem d_M_init_12 : decode b_M_init 12 = .ok (.aload_n 0, 1) := by decide +kernel
theorem d_M_init_13 : decode b_M_init 13 = .ok (.sipush (432), 3) := by decide +kernel
theorem d_M_init_16 : decode b_M_init 16 = .ok (.newarray .int, 2) := by decide +kernel
theorem d_M_init_18 : decode b_M_init 18 = .ok (.putfield 13, 3) := by decide +kernel
theorem d_M_init_21 : decode b_M_init 21 = .ok (.aload_n 0, 1) := by decide +kernel
theorem d_M_init_22 : decode b_M_init 22 = .ok (.sipush (432), 3) := by decide +kernel
theorem d_M_init_25 : decode b_M_init 25 = .ok (.newarray .int, 2) := by decide +kernel
theorem d_M_init_27 : decode b_M_init 27 = .ok (.putfield 16, 3) := by decide +kernel
theorem d_M_init_30 : decode b_M_init 30 = .ok (.aload_n 0, 1) := by decide +kernel
theorem d_M_init_31 : decode b_M_init 31 = .ok (.sipush (432), 3) := by decide +kernel
theorem d_M_init_34 : decode b_M_init 34 = .ok (.newarray .int, 2) := by decide +kernel
theorem d_M_init_36 : decode b_M_init 36 = .ok (.putfield 19, 3) := by decide +kernel
theorem d_M_init_39 : decode b_M_init 39 = .ok (.aload_n 0, 1) := by decide +kernel
theorem d_M_init_40 : decode b_M_init 40 = .ok (.sipush (432), 3) := by decide +kernel
theorem d_M_init_43 : decode b_M_init 43 = .ok (.newarray .int, 2) := by decide +kernel
theorem d_M_init_45 : decode b_M_init 45 = .ok (.putfield 22, 3) := by decide +kernel
theorem d_M_init_48 : decode b_M_init 48 = .ok (.aload_n 0, 1) := by decide +kernel
theorem d_M_init_49 : decode b_M_init 49 = .ok (.sipush (432), 3) := by decide +kernel
theorem d_M_init_52 : decode b_M_init 52 = .ok (.newarray .int, 2) := by decide +kernel
theorem d_M_init_54 : decode b_M_init 54 = .ok (.putfield 25, 3) := by decide +kernel
theorem d_M_init_57 : decode b_M_init 57 = .ok (.aload_n 0, 1) := by decide +kernel
theorem d_M_init_58 : decode b_M_init 58 = .ok (.sipush (432), 3) := by decide +kernel
theorem d_M_init_61 : decode b_M_init 61 = .ok (.newarray .int, 2) := by decide +kernel
theorem d_M_init_63 : decode b_M_init 63 = .ok (.putfield 28, 3) := by decide +kernel
theorem d_M_init_66 : decode b_M_init 66 = .ok (.aload_n 0, 1) := by decide +kernel
theorem d_M_init_67 : decode b_M_init 67 = .ok (.sipush (432), 3) := by decide +kernel
theorem d_M_init_70 : decode b_M_init 70 = .ok (.newarray .int, 2) := by decide +kernel
theorem d_M_init_72 : decode b_M_init 72 = .ok (.putfield 31, 3) := by decide +kernel
theorem d_M_init_75 : decode b_M_init 75 = .ok (.aload_n 0, 1) := by decide +kernel
theorem d_M_init_76 : decode b_M_init 76 = .ok (.bipush (9), 2) := by decide +kernel
theorem d_M_init_78 : decode b_M_init 78 = .ok (.newarray .int, 2) := by decide +kernel
theorem d_M_init_80 : decode b_M_init 80 = .ok (.putfield 34, 3) := by decide +kernel
theorem d_M_init_83 : decode b_M_init 83 = .ok (.aload_n 0, 1) := by decide +kernel
theorem d_M_init_84 : decode b_M_init 84 = .ok (.bipush (9), 2) := by decide +kernel
theorem d_M_init_86 : decode b_M_init 86 = .ok (.newarray .int, 2) := by decide +kernel
theorem d_M_init_88 : decode b_M_init 88 = .ok (.putfield 37, 3) := by decide +kernel
theorem d_M_init_91 : decode b_M_init 91 = .ok (.aload_n 0, 1) := by decide +kernel
theorem d_M_init_92 : decode b_M_init 92 = .ok (.bipush (9), 2) := by decide +kernel
theorem d_M_init_94 : decode b_M_init 94 = .ok (.newarray .int, 2) := by decide +kernel
theorem d_M_init_96 : decode b_M_init 96 = .ok (.putfield 40, 3) := by decide +kernel
theorem d_M_init_99 : decode b_M_init 99 = .ok (.aload_n 0, 1) := by decide +kernel
theorem d_M_init_100 : decode b_M_init 100 = .ok (.bipush (50), 2) := by decide +kernel
theorem d_M_init_102 : decode b_M_init 102 = .ok (.newarray .int, 2) := by decide +kernel
theorem d_M_init_104 : decode b_M_init 104 = .ok (.putfield 43, 3) := by decide +kernel
theorem d_M_init_107 : decode b_M_init 107 = .ok (.aload_n 0, 1) := by decide +kernel
theorem d_M_init_108 : decode b_M_init 108 = .ok (.bipush (50), 2) := by decide +kernel
theorem d_M_init_110 : decode b_M_init 110 = .ok (.newarray .int, 2) := by decide +kernel
theorem d_M_init_112 : decode b_M_init 112 = .ok (.putfield 46, 3) := by decide +kernel
theorem d_M_init_115 : decode b_M_init 115 = .ok (.aload_n 0, 1) := by decide +kernel
theorem d_M_init_116 : decode b_M_init 116 = .ok (.bipush (50), 2) := by decide +kernel
theorem d_M_init_118 : decode b_M_init 118 = .ok (.newarray .int, 2) := by decide +kernel
theorem d_M_init_120 : decode b_M_init 120 = .ok (.putfield 49, 3) := by decide +kernel
theorem d_M_init_123 : decode b_M_init 123 = .ok (.aload_n 0, 1) := by decide +kernel
theorem d_M_init_124 : decode b_M_init 124 = .ok (.bipush (50), 2) := by decide +kernel
theorem d_M_init_126 : decode b_M_init 126 = .ok (.newarray .long, 2) := by decide +kernel
theorem d_M_init_128 : decode b_M_init 128 = .ok (.putfield 52, 3) := by decide +kernel
theorem d_M_init_131 : decode b_M_init 131 = .ok (.aload_n 0, 1) := by decide +kernel
theorem d_M_init_132 : decode b_M_init 132 = .ok (.bipush (50), 2) := by decide +kernel
theorem d_M_init_134 : decode b_M_init 134 = .ok (.newarray .long, 2) := by decide +kernel
theorem d_M_init_136 : decode b_M_init 136 = .ok (.putfield 56, 3) := by decide +kernel
theorem d_M_init_139 : decode b_M_init 139 = .ok (.aload_n 0, 1) := by decide +kernel
theorem d_M_init_140 : decode b_M_init 140 = .ok (.bipush (50), 2) := by decide +kernel
theorem d_M_init_142 : decode b_M_init 142 = .ok (.newarray .long, 2) := by decide +kernel
theorem d_M_init_144 : decode b_M_init 144 = .ok (.putfield 59, 3) := by decide +kernel
theorem d_M_init_147 : decode b_M_init 147 = .ok (.aload_n 0, 1) := by decide +kernel
theorem d_M_init_148 : decode b_M_init 148 = .ok (.bipush (50), 2) := by decide +kernel
theorem d_M_init_150 : decode b_M_init 150 = .ok (.newarray .long, 2) := by decide +kernel
theorem d_M_init_152 : decode b_M_init 152 = .ok (.putfield 62, 3) := by decide +kernel
theorem d_M_init_155 : decode b_M_init 155 = .ok (.aload_n 0, 1) := by decide +kernel
theorem d_M_init_156 : decode b_M_init 156 = .ok (.bipush (50), 2) := by decide +kernel
theorem d_M_init_158 : decode b_M_init 158 = .ok (.newarray .long, 2) := by decide +kernel
theorem d_M_init_160 : decode b_M_init 160 = .ok (.putfield 65, 3) := by decide +kernel
theorem d_M_init_163 : decode b_M_init 163 = .ok (.aload_n 0, 1) := by decide +kernel
theorem d_M_init_164 : decode b_M_init 164 = .ok (.bipush (50), 2) := by decide +kernel
theorem d_M_init_166 : decode b_M_init 166 = .ok (.newarray .long, 2) := by decide +kernel
theorem d_M_init_168 : decode b_M_init 168 = .ok (.putfield 68, 3) := by decide +kernel
theorem d_M_init_171 : decode b_M_init 171 = .ok (.aload_n 0, 1) := by decide +kernel
theorem d_M_init_172 : decode b_M_init 172 = .ok (.bipush (50), 2) := by decide +kernel
theorem d_M_init_174 : decode b_M_init 174 = .ok (.newarray .int, 2) := by decide +kernel
theorem d_M_init_176 : decode b_M_init 176 = .ok (.putfield 71, 3) := by decide +kernel
theorem d_M_init_179 : decode b_M_init 179 = .ok (.aload_n 0, 1) := by decide +kernel
theorem d_M_init_180 : decode b_M_init 180 = .ok (.iconst 3, 1) := by decide +kernel
theorem d_M_init_181 : decode b_M_init 181 = .ok (.newarray .int, 2) := by decide +kernel
theorem d_M_init_183 : decode b_M_init 183 = .ok (.putfield 74, 3) := by decide +kernel
theorem d_M_init_186 : decode b_M_init 186 = .ok (.aload_n 0, 1) := by decide +kernel
theorem d_M_init_187 : decode b_M_init 187 = .ok (.iconst 3, 1) := by decide +kernel
theorem d_M_init_188 : decode b_M_init 188 = .ok (.newarray .boolean, 2) := by decide +kernel
theorem d_M_init_190 : decode b_M_init 190 = .ok (.putfield 77, 3) := by decide +kernel
theorem d_M_init_193 : decode b_M_init 193 = .ok (.aload_n 0, 1) := by decide +kernel
theorem d_M_init_194 : decode b_M_init 194 = .ok (.sipush (603), 3) := by decide +kernel
theorem d_M_init_197 : decode b_M_init 197 = .ok (.newarray .long, 2) := by decide +kernel
theorem d_M_init_199 : decode b_M_init 199 = .ok (.putfield 81, 3) := by decide +kernel
theorem d_M_init_202 : decode b_M_init 202 = .ok (.aload_n 0, 1) := by decide +kernel
theorem d_M_init_203 : decode b_M_init 203 = .ok (.sipush (603), 3) := by decide +kernel
theorem d_M_init_206 : decode b_M_init 206 = .ok (.newarray .long, 2) := by decide +kernel
theorem d_M_init_208 : decode b_M_init 208 = .ok (.putfield 84, 3) := by decide +kernel
theorem d_M_init_211 : decode b_M_init 211 = .ok (.aload_n 0, 1) := by decide +kernel
theorem d_M_init_212 : decode b_M_init 212 = .ok (.sipush (603), 3) := by decide +kernel
theorem d_M_init_215 : decode b_M_init 215 = .ok (.newarray .long, 2) := by decide +kernel
theorem d_M_init_217 : decode b_M_init 217 = .ok (.putfield 87, 3) := by decide +kernel
theorem d_M_init_220 : decode b_M_init 220 = .ok (.aload_n 0, 1) := by decide +kernel
theorem d_M_init_221 : decode b_M_init 221 = .ok (.sipush (603), 3) := by decide +kernel
theorem d_M_init_224 : decode b_M_init 224 = .ok (.newarray .long, 2) := by decide +kernel
theorem d_M_init_226 : decode b_M_init 226 = .ok (.putfield 90, 3) := by decide +kernel
theorem d_M_init_229 : decode b_M_init 229 = .ok (.aload_n 0, 1) := by decide +kernel
theorem d_M_init_230 : decode b_M_init 230 = .ok (.sipush (603), 3) := by decide +kernel
theorem d_M_init_233 : decode b_M_init 233 = .ok (.newarray .int, 2) := by decide +kernel
theorem d_M_init_235 : decode b_M_init 235 = .ok (.putfield 93, 3) := by decide +kernel
theorem d_M_init_238 : decode b_M_init 238 = .ok (.aload_n 0, 1) := by decide +kernel
theorem d_M_init_239 : decode b_M_init 239 = .ok (.iconst 1, 1) := by decide +kernel
theorem d_M_init_240 : decode b_M_init 240 = .ok (.putfield 96, 3) := by decide +kernel
theorem d_M_init_243 : decode b_M_init 243 = .ok (.aload_n 0, 1) := by decide +kernel
theorem d_M_init_244 : decode b_M_init 244 = .ok (.bipush (101), 2) := by decide +kernel
theorem d_M_init_246 : decode b_M_init 246 = .ok (.newarray .int, 2) := by decide +kernel
theorem d_M_init_248 : decode b_M_init 248 = .ok (.putfield 100, 3) := by decide +kernel
theorem d_M_init_251 : decode b_M_init 251 = .ok (.aload_n 0, 1) := by decide +kernel
theorem d_M_init_252 : decode b_M_init 252 = .ok (.bipush (101), 2) := by decide +kernel
theorem d_M_init_254 : decode b_M_init 254 = .ok (.newarray .int, 2) := by decide +kernel
theorem d_M_init_256 : decode b_M_init 256 = .ok (.putfield 103, 3) := by decide +kernel
theorem d_M_init_259 : decode b_M_init 259 = .ok (.aload_n 0, 1) := by decide +kernel
theorem d_M_init_260 : decode b_M_init 260 = .ok (.bipush (101), 2) := by decide +kernel
theorem d_M_init_262 : decode b_M_init 262 = .ok (.newarray .int, 2) := by decide +kernel
theorem d_M_init_264 : decode b_M_init 264 = .ok (.putfield 106, 3) := by decide +kernel
theorem d_M_init_267 : decode b_M_init 267 = .ok (.aload_n 0, 1) := by decide +kernel
theorem d_M_init_268 : decode b_M_init 268 = .ok (.bipush (101), 2) := by decide +kernel
theorem d_M_init_270 : decode b_M_init 270 = .ok (.newarray .int, 2) := by decide +kernel
theorem d_M_init_272 : decode b_M_init 272 = .ok (.putfield 109, 3) := by decide +kernel
theorem d_M_init_275 : decode b_M_init 275 = .ok (.aload_n 0, 1) := by decide +kernel
theorem d_M_init_276 : decode b_M_init 276 = .ok (.bipush (101), 2) := by decide +kernel
theorem d_M_init_278 : decode b_M_init 278 = .ok (.newarray .long, 2) := by decide +kernel
theorem d_M_init_280 : decode b_M_init 280 = .ok (.putfield 112, 3) := by decide +kernel
theorem d_M_init_283 : decode b_M_init 283 = .ok (.aload_n 0, 1) := by decide +kernel
theorem d_M_init_284 : decode b_M_init 284 = .ok (.bipush (101), 2) := by decide +kernel
theorem d_M_init_286 : decode b_M_init 286 = .ok (.newarray .long, 2) := by decide +kernel
theorem d_M_init_288 : decode b_M_init 288 = .ok (.putfield 115, 3) := by decide +kernel
theorem d_M_init_291 : decode b_M_init 291 = .ok (.iconst 0, 1) := by decide +kernel
theorem d_M_init_292 : decode b_M_init 292 = .ok (.istore_n 1, 1) := by decide +kernel
theorem d_M_init_293 : decode b_M_init 293 = .ok (.iload_n 1, 1) := by decide +kernel
theorem d_M_init_294 : decode b_M_init 294 = .ok (.bipush (8), 2) := by decide +kernel
theorem d_M_init_296 : decode b_M_init 296 = .ok (.if_icmp .ge (61), 3) := by decide +kernel
theorem d_M_init_299 : decode b_M_init 299 = .ok (.aload_n 0, 1) := by decide +kernel
theorem d_M_init_300 : decode b_M_init 300 = .ok (.getfield 13, 3) := by decide +kernel
theorem d_M_init_303 : decode b_M_init 303 = .ok (.bipush (48), 2) := by decide +kernel
theorem d_M_init_305 : decode b_M_init 305 = .ok (.iload_n 1, 1) := by decide +kernel
theorem d_M_init_306 : decode b_M_init 306 = .ok (.imul, 1) := by decide +kernel
theorem d_M_init_307 : decode b_M_init 307 = .ok (.bipush (10), 2) := by decide +kernel
theorem d_M_init_309 : decode b_M_init 309 = .ok (.iastore, 1) := by decide +kernel
theorem d_M_init_310 : decode b_M_init 310 = .ok (.aload_n 0, 1) := by decide +kernel
theorem d_M_init_311 : decode b_M_init 311 = .ok (.getfield 34, 3) := by decide +kernel
theorem d_M_init_314 : decode b_M_init 314 = .ok (.iload_n 1, 1) := by decide +kernel
theorem d_M_init_315 : decode b_M_init 315 = .ok (.iconst 0, 1) := by decide +kernel
theorem d_M_init_316 : decode b_M_init 316 = .ok (.iastore, 1) := by decide +kernel
theorem d_M_init_317 : decode b_M_init 317 = .ok (.aload_n 0, 1) := by decide +kernel
theorem d_M_init_318 : decode b_M_init 318 = .ok (.getfield 37, 3) := by decide +kernel
theorem d_M_init_321 : decode b_M_init 321 = .ok (.iload_n 1, 1) := by decide +kernel
theorem d_M_init_322 : decode b_M_init 322 = .ok (.iconst 1, 1) := by decide +kernel
theorem d_M_init_323 : decode b_M_init 323 = .ok (.iastore, 1) := by decide +kernel
theorem d_M_init_324 : decode b_M_init 324 = .ok (.aload_n 0, 1) := by decide +kernel
theorem d_M_init_325 : decode b_M_init 325 = .ok (.getfield 40, 3) := by decide +kernel
theorem d_M_init_328 : decode b_M_init 328 = .ok (.iload_n 1, 1) := by decide +kernel
theorem d_M_init_329 : decode b_M_init 329 = .ok (.iconst 1, 1) := by decide +kernel
theorem d_M_init_330 : decode b_M_init 330 = .ok (.iastore, 1) := by decide +kernel
theorem d_M_init_331 : decode b_M_init 331 = .ok (.aload_n 0, 1) := by decide +kernel
theorem d_M_init_332 : decode b_M_init 332 = .ok (.getfield 25, 3) := by decide +kernel
theorem d_M_init_335 : decode b_M_init 335 = .ok (.bipush (48), 2) := by decide +kernel
theorem d_M_init_337 : decode b_M_init 337 = .ok (.iload_n 1, 1) := by decide +kernel
theorem d_M_init_338 : decode b_M_init 338 = .ok (.imul, 1) := by decide +kernel
theorem d_M_init_339 : decode b_M_init 339 = .ok (.iconst (-1), 1) := by decide +kernel
theorem d_M_init_340 : decode b_M_init 340 = .ok (.iastore, 1) := by decide +kernel
theorem d_M_init_341 : decode b_M_init 341 = .ok (.aload_n 0, 1) := by decide +kernel
theorem d_M_init_342 : decode b_M_init 342 = .ok (.getfield 28, 3) := by decide +kernel
theorem d_M_init_345 : decode b_M_init 345 = .ok (.bipush (48), 2) := by decide +kernel
theorem d_M_init_347 : decode b_M_init 347 = .ok (.iload_n 1, 1) := by decide +kernel
theorem d_M_init_348 : decode b_M_init 348 = .ok (.imul, 1) := by decide +kernel
theorem d_M_init_349 : decode b_M_init 349 = .ok (.iconst (-1), 1) := by decide +kernel
theorem d_M_init_350 : decode b_M_init 350 = .ok (.iastore, 1) := by decide +kernel
theorem d_M_init_351 : decode b_M_init 351 = .ok (.iinc 1 (1), 3) := by decide +kernel
theorem d_M_init_354 : decode b_M_init 354 = .ok (.goto (-61), 3) := by decide +kernel
theorem d_M_init_357 : decode b_M_init 357 = .ok (.return_, 1) := by decide +kernel
theorem d_M_type_0 : decode b_M_type 0 = .ok (.iload_n 3, 1) := by decide +kernel
theorem d_M_type_1 : decode b_M_type 1 = .ok (.iconst 1, 1) := by decide +kernel
theorem d_M_type_2 : decode b_M_type 2 = .ok (.if_icmp .lt (13), 3) := by decide +kernel
theorem d_M_type_5 : decode b_M_type 5 = .ok (.iload_n 3, 1) := by decide +kernel
theorem d_M_type_6 : decode b_M_type 6 = .ok (.bipush (8), 2) := by decide +kernel
theorem d_M_type_8 : decode b_M_type 8 = .ok (.if_icmp .gt (7), 3) := by decide +kernel
theorem d_M_type_11 : decode b_M_type 11 = .ok (.iconst 1, 1) := by decide +kernel
theorem d_M_type_12 : decode b_M_type 12 = .ok (.goto (4), 3) := by decide +kernel
theorem d_M_type_15 : decode b_M_type 15 = .ok (.iconst 0, 1) := by decide +kernel
theorem d_M_type_16 : decode b_M_type 16 = .ok (.istore 4, 2) := by decide +kernel
theorem d_M_type_18 : decode b_M_type 18 = .ok (.iconst 0, 1) := by decide +kernel
theorem d_M_type_19 : decode b_M_type 19 = .ok (.istore 5, 2) := by decide +kernel
theorem d_M_type_21 : decode b_M_type 21 = .ok (.iload 5, 2) := by decide +kernel
theorem d_M_type_23 : decode b_M_type 23 = .ok (.iload_n 3, 1) := by decide +kernel
theorem d_M_type_24 : decode b_M_type 24 = .ok (.if_icmp .ge (49), 3) := by decide +kernel
theorem d_M_type_27 : decode b_M_type 27 = .ok (.iload 4, 2) := by decide +kernel
theorem d_M_type_29 : decode b_M_type 29 = .ok (.ifCond .eq (44), 3) := by decide +kernel
theorem d_M_type_32 : decode b_M_type 32 = .ok (.lload_n 1, 1) := by decide +kernel
theorem d_M_type_33 : decode b_M_type 33 = .ok (.bipush (8), 2) := by decide +kernel
theorem d_M_type_35 : decode b_M_type 35 = .ok (.iload 5, 2) := by decide +kernel
theorem d_M_type_37 : decode b_M_type 37 = .ok (.imul, 1) := by decide +kernel
theorem d_M_type_38 : decode b_M_type 38 = .ok (.lshr, 1) := by decide +kernel
theorem d_M_type_39 : decode b_M_type 39 = .ok (.ldc2_w 118, 3) := by decide +kernel
theorem d_M_type_42 : decode b_M_type 42 = .ok (.land, 1) := by decide +kernel
theorem d_M_type_43 : decode b_M_type 43 = .ok (.l2i, 1) := by decide +kernel
theorem d_M_type_44 : decode b_M_type 44 = .ok (.istore 6, 2) := by decide +kernel
theorem d_M_type_46 : decode b_M_type 46 = .ok (.iload 6, 2) := by decide +kernel
theorem d_M_type_48 : decode b_M_type 48 = .ok (.bipush (33), 2) := by decide +kernel
theorem d_M_type_50 : decode b_M_type 50 = .ok (.if_icmp .lt (14), 3) := by decide +kernel
theorem d_M_type_53 : decode b_M_type 53 = .ok (.iload 6, 2) := by decide +kernel
theorem d_M_type_55 : decode b_M_type 55 = .ok (.bipush (126), 2) := by decide +kernel
theorem d_M_type_57 : decode b_M_type 57 = .ok (.if_icmp .gt (7), 3) := by decide +kernel
theorem d_M_type_60 : decode b_M_type 60 = .ok (.iconst 1, 1) := by decide +kernel
theorem d_M_type_61 : decode b_M_type 61 = .ok (.goto (4), 3) := by decide +kernel
theorem d_M_type_64 : decode b_M_type 64 = .ok (.iconst 0, 1) := by decide +kernel
theorem d_M_type_65 : decode b_M_type 65 = .ok (.istore 4, 2) := by decide +kernel
theorem d_M_type_67 : decode b_M_type 67 = .ok (.iinc 5 (1), 3) := by decide +kernel
theorem d_M_type_70 : decode b_M_type 70 = .ok (.goto (-49), 3) := by decide +kernel
theorem d_M_type_73 : decode b_M_type 73 = .ok (.iload 4, 2) := by decide +kernel
theorem d_M_type_75 : decode b_M_type 75 = .ok (.ifCond .ne (5), 3) := by decide +kernel
theorem d_M_type_78 : decode b_M_type 78 = .ok (.iconst (-1), 1) := by decide +kernel
theorem d_M_type_79 : decode b_M_type 79 = .ok (.ireturn, 1) := by decide +kernel
theorem d_M_type_80 : decode b_M_type 80 = .ok (.aload_n 0, 1) := by decide +kernel
theorem d_M_type_81 : decode b_M_type 81 = .ok (.getfield 120, 3) := by decide +kernel
theorem d_M_type_84 : decode b_M_type 84 = .ok (.iload_n 3, 1) := by decide +kernel
theorem d_M_type_85 : decode b_M_type 85 = .ok (.iadd, 1) := by decide +kernel
theorem d_M_type_86 : decode b_M_type 86 = .ok (.bipush (40), 2) := by decide +kernel
theorem d_M_type_88 : decode b_M_type 88 = .ok (.if_icmp .le (6), 3) := by decide +kernel
theorem d_M_type_91 : decode b_M_type 91 = .ok (.bipush (-3), 2) := by decide +kernel
theorem d_M_type_93 : decode b_M_type 93 = .ok (.ireturn, 1) := by decide +kernel
theorem d_M_type_94 : decode b_M_type 94 = .ok (.iload_n 3, 1) := by decide +kernel
theorem d_M_type_95 : decode b_M_type 95 = .ok (.iconst 1, 1) := by decide +kernel
theorem d_M_type_96 : decode b_M_type 96 = .ok (.isub, 1) := by decide +kernel
theorem d_M_type_97 : decode b_M_type 97 = .ok (.istore 5, 2) := by decide +kernel
theorem d_M_type_99 : decode b_M_type 99 = .ok (.iload 5, 2) := by decide +kernel
theorem d_M_type_101 : decode b_M_type 101 = .ok (.ifCond .lt (40), 3) := by decide +kernel
theorem d_M_type_104 : decode b_M_type 104 = .ok (.aload_n 0, 1) := by decide +kernel
theorem d_M_type_105 : decode b_M_type 105 = .ok (.getfield 7, 3) := by decide +kernel
theorem d_M_type_108 : decode b_M_type 108 = .ok (.aload_n 0, 1) := by decide +kernel
theorem d_M_type_109 : decode b_M_type 109 = .ok (.getfield 120, 3) := by decide +kernel
theorem d_M_type_112 : decode b_M_type 112 = .ok (.lload_n 1, 1) := by decide +kernel
theorem d_M_type_113 : decode b_M_type 113 = .ok (.bipush (8), 2) := by decide +kernel
theorem d_M_type_115 : decode b_M_type 115 = .ok (.iload 5, 2) := by decide +kernel
theorem d_M_type_117 : decode b_M_type 117 = .ok (.imul, 1) := by decide +kernel
theorem d_M_type_118 : decode b_M_type 118 = .ok (.lshr, 1) := by decide +kernel
theorem d_M_type_119 : decode b_M_type 119 = .ok (.ldc2_w 118, 3) := by decide +kernel
theorem d_M_type_122 : decode b_M_type 122 = .ok (.land, 1) := by decide +kernel
theorem d_M_type_123 : decode b_M_type 123 = .ok (.l2i, 1) := by decide +kernel
theorem d_M_type_124 : decode b_M_type 124 = .ok (.iastore, 1) := by decide +kernel
theorem d_M_type_125 : decode b_M_type 125 = .ok (.aload_n 0, 1) := by decide +kernel
theorem d_M_type_126 : decode b_M_type 126 = .ok (.dup, 1) := by decide +kernel
theorem d_M_type_127 : decode b_M_type 127 = .ok (.getfield 120, 3) := by decide +kernel
theorem d_M_type_130 : decode b_M_type 130 = .ok (.iconst 1, 1) := by decide +kernel
theorem d_M_type_131 : decode b_M_type 131 = .ok (.iadd, 1) := by decide +kernel
theorem d_M_type_132 : decode b_M_type 132 = .ok (.putfield 120, 3) := by decide +kernel
theorem d_M_type_135 : decode b_M_type 135 = .ok (.iinc 5 (-1), 3) := by decide +kernel
theorem d_M_type_138 : decode b_M_type 138 = .ok (.goto (-39), 3) := by decide +kernel
theorem d_M_type_141 : decode b_M_type 141 = .ok (.aload_n 0, 1) := by decide +kernel
theorem d_M_type_142 : decode b_M_type 142 = .ok (.getfield 120, 3) := by decide +kernel
theorem d_M_type_145 : decode b_M_type 145 = .ok (.ireturn, 1) := by decide +kernel
theorem d_M_node_0 : decode b_M_node 0 = .ok (.sipush (384), 3) := by decide +kernel
theorem d_M_node_3 : decode b_M_node 3 = .ok (.aload_n 0, 1) := by decide +kernel
theorem d_M_node_4 : decode b_M_node 4 = .ok (.getfield 37, 3) := by decide +kernel
theorem d_M_node_7 : decode b_M_node 7 = .ok (.bipush (8), 2) := by decide +kernel
theorem d_M_node_9 : decode b_M_node 9 = .ok (.iaload, 1) := by decide +kernel
theorem d_M_node_10 : decode b_M_node 10 = .ok (.iadd, 1) := by decide +kernel
theorem d_M_node_11 : decode b_M_node 11 = .ok (.istore_n 2, 1) := by decide +kernel
theorem d_M_node_12 : decode b_M_node 12 = .ok (.aload_n 0, 1) := by decide +kernel
theorem d_M_node_13 : decode b_M_node 13 = .ok (.getfield 13, 3) := by decide +kernel
theorem d_M_node_16 : decode b_M_node 16 = .ok (.iload_n 2, 1) := by decide +kernel
theorem d_M_node_17 : decode b_M_node 17 = .ok (.iload_n 1, 1) := by decide +kernel
theorem d_M_node_18 : decode b_M_node 18 = .ok (.iastore, 1) := by decide +kernel
theorem d_M_node_19 : decode b_M_node 19 = .ok (.aload_n 0, 1) := by decide +kernel
theorem d_M_node_20 : decode b_M_node 20 = .ok (.getfield 25, 3) := by decide +kernel
theorem d_M_node_23 : decode b_M_node 23 = .ok (.iload_n 2, 1) := by decide +kernel
theorem d_M_node_24 : decode b_M_node 24 = .ok (.iconst (-1), 1) := by decide +kernel
theorem d_M_node_25 : decode b_M_node 25 = .ok (.iastore, 1) := by decide +kernel
theorem d_M_node_26 : decode b_M_node 26 = .ok (.aload_n 0, 1) := by decide +kernel
theorem d_M_node_27 : decode b_M_node 27 = .ok (.getfield 28, 3) := by decide +kernel
theorem d_M_node_30 : decode b_M_node 30 = .ok (.iload_n 2, 1) := by decide +kernel
theorem d_M_node_31 : decode b_M_node 31 = .ok (.iconst (-1), 1) := by decide +kernel
theorem d_M_node_32 : decode b_M_node 32 = .ok (.iastore, 1) := by decide +kernel
theorem d_M_node_33 : decode b_M_node 33 = .ok (.aload_n 0, 1) := by decide +kernel
theorem d_M_node_34 : decode b_M_node 34 = .ok (.getfield 31, 3) := by decide +kernel
theorem d_M_node_37 : decode b_M_node 37 = .ok (.iload_n 2, 1) := by decide +kernel
theorem d_M_node_38 : decode b_M_node 38 = .ok (.iconst 0, 1) := by decide +kernel
theorem d_M_node_39 : decode b_M_node 39 = .ok (.iastore, 1) := by decide +kernel
theorem d_M_node_40 : decode b_M_node 40 = .ok (.aload_n 0, 1) := by decide +kernel
theorem d_M_node_41 : decode b_M_node 41 = .ok (.getfield 37, 3) := by decide +kernel
theorem d_M_node_44 : decode b_M_node 44 = .ok (.bipush (8), 2) := by decide +kernel
theorem d_M_node_46 : decode b_M_node 46 = .ok (.dup2, 1) := by decide +kernel
theorem d_M_node_47 : decode b_M_node 47 = .ok (.iaload, 1) := by decide +kernel
theorem d_M_node_48 : decode b_M_node 48 = .ok (.iconst 1, 1) := by decide +kernel
theorem d_M_node_49 : decode b_M_node 49 = .ok (.iadd, 1) := by decide +kernel
theorem d_M_node_50 : decode b_M_node 50 = .ok (.iastore, 1) := by decide +kernel
theorem d_M_node_51 : decode b_M_node 51 = .ok (.aload_n 0, 1) := by decide +kernel
theorem d_M_node_52 : decode b_M_node 52 = .ok (.getfield 37, 3) := by decide +kernel
theorem d_M_node_55 : decode b_M_node 55 = .ok (.bipush (8), 2) := by decide +kernel
theorem d_M_node_57 : decode b_M_node 57 = .ok (.iaload, 1) := by decide +kernel
theorem d_M_node_58 : decode b_M_node 58 = .ok (.iconst 1, 1) := by decide +kernel
theorem d_M_node_59 : decode b_M_node 59 = .ok (.isub, 1) := by decide +kernel
theorem d_M_node_60 : decode b_M_node 60 = .ok (.ireturn, 1) := by decide +kernel
theorem d_M_wants_0 : decode b_M_wants 0 = .ok (.iload_n 0, 1) := by decide +kernel
theorem d_M_wants_1 : decode b_M_wants 1 = .ok (.iconst 1, 1) := by decide +kernel
theorem d_M_wants_2 : decode b_M_wants 2 = .ok (.if_icmp .eq (13), 3) := by decide +kernel
theorem d_M_wants_5 : decode b_M_wants 5 = .ok (.iload_n 0, 1) := by decide +kernel
theorem d_M_wants_6 : decode b_M_wants 6 = .ok (.iconst 2, 1) := by decide +kernel
theorem d_M_wants_7 : decode b_M_wants 7 = .ok (.if_icmp .eq (8), 3) := by decide +kernel
theorem d_M_wants_10 : decode b_M_wants 10 = .ok (.iload_n 0, 1) := by decide +kernel
theorem d_M_wants_11 : decode b_M_wants 11 = .ok (.iconst 3, 1) := by decide +kernel
theorem d_M_wants_12 : decode b_M_wants 12 = .ok (.if_icmp .ne (8), 3) := by decide +kernel
theorem d_M_wants_15 : decode b_M_wants 15 = .ok (.bipush (10), 2) := by decide +kernel
theorem d_M_wants_17 : decode b_M_wants 17 = .ok (.goto (28), 3) := by decide +kernel
theorem d_M_wants_20 : decode b_M_wants 20 = .ok (.iload_n 0, 1) := by decide +kernel
theorem d_M_wants_21 : decode b_M_wants 21 = .ok (.bipush (8), 2) := by decide +kernel
theorem d_M_wants_23 : decode b_M_wants 23 = .ok (.if_icmp .ne (7), 3) := by decide +kernel
theorem d_M_wants_26 : decode b_M_wants 26 = .ok (.iconst 2, 1) := by decide +kernel
theorem d_M_wants_27 : decode b_M_wants 27 = .ok (.goto (18), 3) := by decide +kernel
theorem d_M_wants_30 : decode b_M_wants 30 = .ok (.iload_n 0, 1) := by decide +kernel
theorem d_M_wants_31 : decode b_M_wants 31 = .ok (.ifCond .eq (9), 3) := by decide +kernel
theorem d_M_wants_34 : decode b_M_wants 34 = .ok (.iload_n 0, 1) := by decide +kernel
theorem d_M_wants_35 : decode b_M_wants 35 = .ok (.bipush (10), 2) := by decide +kernel
theorem d_M_wants_37 : decode b_M_wants 37 = .ok (.if_icmp .ne (7), 3) := by decide +kernel
theorem d_M_wants_40 : decode b_M_wants 40 = .ok (.iconst 0, 1) := by decide +kernel
theorem d_M_wants_41 : decode b_M_wants 41 = .ok (.goto (4), 3) := by decide +kernel
theorem d_M_wants_44 : decode b_M_wants 44 = .ok (.iconst 1, 1) := by decide +kernel
theorem d_M_wants_45 : decode b_M_wants 45 = .ok (.ireturn, 1) := by decide +kernel
theorem d_M_whole_0 : decode b_M_whole 0 = .ok (.iload_n 1, 1) := by decide +kernel
theorem d_M_whole_1 : decode b_M_whole 1 = .ok (.istore_n 2, 1) := by decide +kernel
theorem d_M_whole_2 : decode b_M_whole 2 = .ok (.iconst 1, 1) := by decide +kernel
theorem d_M_whole_3 : decode b_M_whole 3 = .ok (.istore_n 3, 1) := by decide +kernel
theorem d_M_whole_4 : decode b_M_whole 4 = .ok (.iload_n 3, 1) := by decide +kernel
theorem d_M_whole_5 : decode b_M_whole 5 = .ok (.ifCond .eq (154), 3) := by decide +kernel
theorem d_M_whole_8 : decode b_M_whole 8 = .ok (.aload_n 0, 1) := by decide +kernel
theorem d_M_whole_9 : decode b_M_whole 9 = .ok (.getfield 123, 3) := by decide +kernel
theorem d_M_whole_12 : decode b_M_whole 12 = .ok (.ifCond .le (147), 3) := by decide +kernel
theorem d_M_whole_15 : decode b_M_whole 15 = .ok (.aload_n 0, 1) := by decide +kernel
theorem d_M_whole_16 : decode b_M_whole 16 = .ok (.getfield 43, 3) := by decide +kernel
theorem d_M_whole_19 : decode b_M_whole 19 = .ok (.aload_n 0, 1) := by decide +kernel
theorem d_M_whole_20 : decode b_M_whole 20 = .ok (.getfield 123, 3) := by decide +kernel
theorem d_M_whole_23 : decode b_M_whole 23 = .ok (.iconst 1, 1) := by decide +kernel
theorem d_M_whole_24 : decode b_M_whole 24 = .ok (.isub, 1) := by decide +kernel
theorem d_M_whole_25 : decode b_M_whole 25 = .ok (.iaload, 1) := by decide +kernel
theorem d_M_whole_26 : decode b_M_whole 26 = .ok (.istore 4, 2) := by decide +kernel
theorem d_M_whole_28 : decode b_M_whole 28 = .ok (.aload_n 0, 1) := by decide +kernel
theorem d_M_whole_29 : decode b_M_whole 29 = .ok (.getfield 31, 3) := by decide +kernel
theorem d_M_whole_32 : decode b_M_whole 32 = .ok (.sipush (384), 3) := by decide +kernel
theorem d_M_whole_35 : decode b_M_whole 35 = .ok (.iload 4, 2) := by decide +kernel
theorem d_M_whole_37 : decode b_M_whole 37 = .ok (.iadd, 1) := by decide +kernel
theorem d_M_whole_38 : decode b_M_whole 38 = .ok (.iaload, 1) := by decide +kernel
theorem d_M_whole_39 : decode b_M_whole 39 = .ok (.ifCond .ne (18), 3) := by decide +kernel
theorem d_M_whole_42 : decode b_M_whole 42 = .ok (.aload_n 0, 1) := by decide +kernel
theorem d_M_whole_43 : decode b_M_whole 43 = .ok (.getfield 25, 3) := by decide +kernel
theorem d_M_whole_46 : decode b_M_whole 46 = .ok (.sipush (384), 3) := by decide +kernel
theorem d_M_whole_49 : decode b_M_whole 49 = .ok (.iload 4, 2) := by decide +kernel
theorem d_M_whole_51 : decode b_M_whole 51 = .ok (.iadd, 1) := by decide +kernel
theorem d_M_whole_52 : decode b_M_whole 52 = .ok (.iload_n 2, 1) := by decide +kernel
theorem d_M_whole_53 : decode b_M_whole 53 = .ok (.iastore, 1) := by decide +kernel
theorem d_M_whole_54 : decode b_M_whole 54 = .ok (.goto (24), 3) := by decide +kernel
theorem d_M_whole_57 : decode b_M_whole 57 = .ok (.aload_n 0, 1) := by decide +kernel
theorem d_M_whole_58 : decode b_M_whole 58 = .ok (.getfield 28, 3) := by decide +kernel
theorem d_M_whole_61 : decode b_M_whole 61 = .ok (.sipush (384), 3) := by decide +kernel
theorem d_M_whole_64 : decode b_M_whole 64 = .ok (.aload_n 0, 1) := by decide +kernel
theorem d_M_whole_65 : decode b_M_whole 65 = .ok (.getfield 46, 3) := by decide +kernel
theorem d_M_whole_68 : decode b_M_whole 68 = .ok (.aload_n 0, 1) := by decide +kernel
theorem d_M_whole_69 : decode b_M_whole 69 = .ok (.getfield 123, 3) := by decide +kernel
theorem d_M_whole_72 : decode b_M_whole 72 = .ok (.iconst 1, 1) := by decide +kernel
theorem d_M_whole_73 : decode b_M_whole 73 = .ok (.isub, 1) := by decide +kernel
theorem d_M_whole_74 : decode b_M_whole 74 = .ok (.iaload, 1) := by decide +kernel
theorem d_M_whole_75 : decode b_M_whole 75 = .ok (.iadd, 1) := by decide +kernel
theorem d_M_whole_76 : decode b_M_whole 76 = .ok (.iload_n 2, 1) := by decide +kernel
theorem d_M_whole_77 : decode b_M_whole 77 = .ok (.iastore, 1) := by decide +kernel
theorem d_M_whole_78 : decode b_M_whole 78 = .ok (.aload_n 0, 1) := by decide +kernel
theorem d_M_whole_79 : decode b_M_whole 79 = .ok (.getfield 46, 3) := by decide +kernel
theorem d_M_whole_82 : decode b_M_whole 82 = .ok (.aload_n 0, 1) := by decide +kernel
theorem d_M_whole_83 : decode b_M_whole 83 = .ok (.getfield 123, 3) := by decide +kernel
theorem d_M_whole_86 : decode b_M_whole 86 = .ok (.iconst 1, 1) := by decide +kernel
theorem d_M_whole_87 : decode b_M_whole 87 = .ok (.isub, 1) := by decide +kernel
theorem d_M_whole_88 : decode b_M_whole 88 = .ok (.iload_n 2, 1) := by decide +kernel
theorem d_M_whole_89 : decode b_M_whole 89 = .ok (.iastore, 1) := by decide +kernel
theorem d_M_whole_90 : decode b_M_whole 90 = .ok (.aload_n 0, 1) := by decide +kernel
theorem d_M_whole_91 : decode b_M_whole 91 = .ok (.getfield 31, 3) := by decide +kernel
theorem d_M_whole_94 : decode b_M_whole 94 = .ok (.sipush (384), 3) := by decide +kernel
theorem d_M_whole_97 : decode b_M_whole 97 = .ok (.iload 4, 2) := by decide +kernel
theorem d_M_whole_99 : decode b_M_whole 99 = .ok (.iadd, 1) := by decide +kernel
theorem d_M_whole_100 : decode b_M_whole 100 = .ok (.dup2, 1) := by decide +kernel
theorem d_M_whole_101 : decode b_M_whole 101 = .ok (.iaload, 1) := by decide +kernel
theorem d_M_whole_102 : decode b_M_whole 102 = .ok (.iconst 1, 1) := by decide +kernel
theorem d_M_whole_103 : decode b_M_whole 103 = .ok (.iadd, 1) := by decide +kernel
theorem d_M_whole_104 : decode b_M_whole 104 = .ok (.iastore, 1) := by decide +kernel
theorem d_M_whole_105 : decode b_M_whole 105 = .ok (.aload_n 0, 1) := by decide +kernel
theorem d_M_whole_106 : decode b_M_whole 106 = .ok (.getfield 31, 3) := by decide +kernel
theorem d_M_whole_109 : decode b_M_whole 109 = .ok (.sipush (384), 3) := by decide +kernel
theorem d_M_whole_112 : decode b_M_whole 112 = .ok (.iload 4, 2) := by decide +kernel
theorem d_M_whole_114 : decode b_M_whole 114 = .ok (.iadd, 1) := by decide +kernel
theorem d_M_whole_115 : decode b_M_whole 115 = .ok (.iaload, 1) := by decide +kernel
theorem d_M_whole_116 : decode b_M_whole 116 = .ok (.aload_n 0, 1) := by decide +kernel
theorem d_M_whole_117 : decode b_M_whole 117 = .ok (.getfield 13, 3) := by decide +kernel
theorem d_M_whole_120 : decode b_M_whole 120 = .ok (.sipush (384), 3) := by decide +kernel
theorem d_M_whole_123 : decode b_M_whole 123 = .ok (.iload 4, 2) := by decide +kernel
theorem d_M_whole_125 : decode b_M_whole 125 = .ok (.iadd, 1) := by decide +kernel
theorem d_M_whole_126 : decode b_M_whole 126 = .ok (.iaload, 1) := by decide +kernel
theorem d_M_whole_127 : decode b_M_whole 127 = .ok (.invokestatic 126, 3) := by decide +kernel
theorem d_M_whole_130 : decode b_M_whole 130 = .ok (.if_icmp .ne (7), 3) := by decide +kernel
theorem d_M_whole_133 : decode b_M_whole 133 = .ok (.iconst 1, 1) := by decide +kernel
theorem d_M_whole_134 : decode b_M_whole 134 = .ok (.goto (4), 3) := by decide +kernel
theorem d_M_whole_137 : decode b_M_whole 137 = .ok (.iconst 0, 1) := by decide +kernel
theorem d_M_whole_138 : decode b_M_whole 138 = .ok (.istore_n 3, 1) := by decide +kernel
theorem d_M_whole_139 : decode b_M_whole 139 = .ok (.iload_n 3, 1) := by decide +kernel
theorem d_M_whole_140 : decode b_M_whole 140 = .ok (.ifCond .eq (16), 3) := by decide +kernel
theorem d_M_whole_143 : decode b_M_whole 143 = .ok (.aload_n 0, 1) := by decide +kernel
theorem d_M_whole_144 : decode b_M_whole 144 = .ok (.dup, 1) := by decide +kernel
theorem d_M_whole_145 : decode b_M_whole 145 = .ok (.getfield 123, 3) := by decide +kernel
theorem d_M_whole_148 : decode b_M_whole 148 = .ok (.iconst 1, 1) := by decide +kernel
theorem d_M_whole_149 : decode b_M_whole 149 = .ok (.isub, 1) := by decide +kernel
theorem d_M_whole_150 : decode b_M_whole 150 = .ok (.putfield 123, 3) := by decide +kernel
theorem d_M_whole_153 : decode b_M_whole 153 = .ok (.iload 4, 2) := by decide +kernel
theorem d_M_whole_155 : decode b_M_whole 155 = .ok (.istore_n 2, 1) := by decide +kernel
theorem d_M_whole_156 : decode b_M_whole 156 = .ok (.goto (-152), 3) := by decide +kernel
theorem d_M_whole_159 : decode b_M_whole 159 = .ok (.aload_n 0, 1) := by decide +kernel
theorem d_M_whole_160 : decode b_M_whole 160 = .ok (.getfield 123, 3) := by decide +kernel
theorem d_M_whole_163 : decode b_M_whole 163 = .ok (.ifCond .ne (11), 3) := by decide +kernel
theorem d_M_whole_166 : decode b_M_whole 166 = .ok (.aload_n 0, 1) := by decide +kernel
theorem d_M_whole_167 : decode b_M_whole 167 = .ok (.getfield 34, 3) := by decide +kernel
theorem d_M_whole_170 : decode b_M_whole 170 = .ok (.bipush (8), 2) := by decide +kernel
theorem d_M_whole_172 : decode b_M_whole 172 = .ok (.iload_n 2, 1) := by decide +kernel
theorem d_M_whole_173 : decode b_M_whole 173 = .ok (.iastore, 1) := by decide +kernel
theorem d_M_whole_174 : decode b_M_whole 174 = .ok (.return_, 1) := by decide +kernel
theorem d_M_digit_0 : decode b_M_digit 0 = .ok (.aload_n 0, 1) := by decide +kernel
theorem d_M_digit_1 : decode b_M_digit 1 = .ok (.getfield 130, 3) := by decide +kernel
theorem d_M_digit_4 : decode b_M_digit 4 = .ok (.aload_n 0, 1) := by decide +kernel
theorem d_M_digit_5 : decode b_M_digit 5 = .ok (.getfield 120, 3) := by decide +kernel
theorem d_M_digit_8 : decode b_M_digit 8 = .ok (.if_icmp .ge (18), 3) := by decide +kernel
theorem d_M_digit_11 : decode b_M_digit 11 = .ok (.aload_n 0, 1) := by decide +kernel
theorem d_M_digit_12 : decode b_M_digit 12 = .ok (.getfield 7, 3) := by decide +kernel
theorem d_M_digit_15 : decode b_M_digit 15 = .ok (.aload_n 0, 1) := by decide +kernel
theorem d_M_digit_16 : decode b_M_digit 16 = .ok (.getfield 130, 3) := by decide +kernel
theorem d_M_digit_19 : decode b_M_digit 19 = .ok (.iaload, 1) := by decide +kernel
theorem d_M_digit_20 : decode b_M_digit 20 = .ok (.bipush (48), 2) := by decide +kernel
theorem d_M_digit_22 : decode b_M_digit 22 = .ok (.isub, 1) := by decide +kernel
theorem d_M_digit_23 : decode b_M_digit 23 = .ok (.goto (4), 3) := by decide +kernel
theorem d_M_digit_26 : decode b_M_digit 26 = .ok (.iconst (-1), 1) := by decide +kernel
theorem d_M_digit_27 : decode b_M_digit 27 = .ok (.istore_n 3, 1) := by decide +kernel
theorem d_M_digit_28 : decode b_M_digit 28 = .ok (.iload_n 3, 1) := by decide +kernel
theorem d_M_digit_29 : decode b_M_digit 29 = .ok (.iload_n 1, 1) := by decide +kernel
theorem d_M_digit_30 : decode b_M_digit 30 = .ok (.if_icmp .lt (8), 3) := by decide +kernel
theorem d_M_digit_33 : decode b_M_digit 33 = .ok (.iload_n 3, 1) := by decide +kernel
theorem d_M_digit_34 : decode b_M_digit 34 = .ok (.iload_n 2, 1) := by decide +kernel
theorem d_M_digit_35 : decode b_M_digit 35 = .ok (.if_icmp .le (5), 3) := by decide +kernel
theorem d_M_digit_38 : decode b_M_digit 38 = .ok (.iconst (-1), 1) := by decide +kernel
theorem d_M_digit_39 : decode b_M_digit 39 = .ok (.ireturn, 1) := by decide +kernel
theorem d_M_digit_40 : decode b_M_digit 40 = .ok (.aload_n 0, 1) := by decide +kernel
theorem d_M_digit_41 : decode b_M_digit 41 = .ok (.dup, 1) := by decide +kernel
theorem d_M_digit_42 : decode b_M_digit 42 = .ok (.getfield 130, 3) := by decide +kernel
theorem d_M_digit_45 : decode b_M_digit 45 = .ok (.iconst 1, 1) := by decide +kernel
theorem d_M_digit_46 : decode b_M_digit 46 = .ok (.iadd, 1) := by decide +kernel
theorem d_M_digit_47 : decode b_M_digit 47 = .ok (.putfield 130, 3) := by decide +kernel
theorem d_M_digit_50 : decode b_M_digit 50 = .ok (.iload_n 3, 1) := by decide +kernel
theorem d_M_digit_51 : decode b_M_digit 51 = .ok (.ireturn, 1) := by decide +kernel
theorem d_M_kindOf_0 : decode b_M_kindOf 0 = .ok (.iload_n 0, 1) := by decide +kernel
theorem d_M_kindOf_1 : decode b_M_kindOf 1 = .ok (.bipush (97), 2) := by decide +kernel
theorem d_M_kindOf_3 : decode b_M_kindOf 3 = .ok (.if_icmp .lt (11), 3) := by decide +kernel
theorem d_M_kindOf_6 : decode b_M_kindOf 6 = .ok (.iload_n 0, 1) := by decide +kernel
theorem d_M_kindOf_7 : decode b_M_kindOf 7 = .ok (.bipush (122), 2) := by decide +kernel
theorem d_M_kindOf_9 : decode b_M_kindOf 9 = .ok (.if_icmp .gt (5), 3) := by decide +kernel
theorem d_M_kindOf_12 : decode b_M_kindOf 12 = .ok (.iconst 0, 1) := by decide +kernel
theorem d_M_kindOf_13 : decode b_M_kindOf 13 = .ok (.ireturn, 1) := by decide +kernel
theorem d_M_kindOf_14 : decode b_M_kindOf 14 = .ok (.iload_n 0, 1) := by decide +kernel
theorem d_M_kindOf_15 : decode b_M_kindOf 15 = .ok (.lookupswitch (114) #[(60, 94), (69, 111), (70, 98), (76, 102), (82, 105), (83, 100), (86, 108), (91, 92), (123, 96), (126, 89)], 89) := by decide +kernel
theorem d_M_kindOf_104 : decode b_M_kindOf 104 = .ok (.bipush (10), 2) := by decide +kernel
theorem d_M_kindOf_106 : decode b_M_kindOf 106 = .ok (.ireturn, 1) := by decide +kernel
theorem d_M_kindOf_107 : decode b_M_kindOf 107 = .ok (.iconst 1, 1) := by decide +kernel
theorem d_M_kindOf_108 : decode b_M_kindOf 108 = .ok (.ireturn, 1) := by decide +kernel
theorem d_M_kindOf_109 : decode b_M_kindOf 109 = .ok (.iconst 2, 1) := by decide +kernel
theorem d_M_kindOf_110 : decode b_M_kindOf 110 = .ok (.ireturn, 1) := by decide +kernel
theorem d_M_kindOf_111 : decode b_M_kindOf 111 = .ok (.iconst 3, 1) := by decide +kernel
theorem d_M_kindOf_112 : decode b_M_kindOf 112 = .ok (.ireturn, 1) := by decide +kernel
theorem d_M_kindOf_113 : decode b_M_kindOf 113 = .ok (.iconst 4, 1) := by decide +kernel
theorem d_M_kindOf_114 : decode b_M_kindOf 114 = .ok (.ireturn, 1) := by decide +kernel
theorem d_M_kindOf_115 : decode b_M_kindOf 115 = .ok (.iconst 5, 1) := by decide +kernel
theorem d_M_kindOf_116 : decode b_M_kindOf 116 = .ok (.ireturn, 1) := by decide +kernel
theorem d_M_kindOf_117 : decode b_M_kindOf 117 = .ok (.bipush (6), 2) := by decide +kernel
theorem d_M_kindOf_119 : decode b_M_kindOf 119 = .ok (.ireturn, 1) := by decide +kernel
theorem d_M_kindOf_120 : decode b_M_kindOf 120 = .ok (.bipush (7), 2) := by decide +kernel
theorem d_M_kindOf_122 : decode b_M_kindOf 122 = .ok (.ireturn, 1) := by decide +kernel
theorem d_M_kindOf_123 : decode b_M_kindOf 123 = .ok (.bipush (8), 2) := by decide +kernel
theorem d_M_kindOf_125 : decode b_M_kindOf 125 = .ok (.ireturn, 1) := by decide +kernel
theorem d_M_kindOf_126 : decode b_M_kindOf 126 = .ok (.bipush (9), 2) := by decide +kernel
theorem d_M_kindOf_128 : decode b_M_kindOf 128 = .ok (.ireturn, 1) := by decide +kernel
theorem d_M_kindOf_129 : decode b_M_kindOf 129 = .ok (.iconst (-1), 1) := by decide +kernel
theorem d_M_kindOf_130 : decode b_M_kindOf 130 = .ok (.ireturn, 1) := by decide +kernel
theorem d_M_hasDigits_0 : decode b_M_hasDigits 0 = .ok (.aload_n 0, 1) := by decide +kernel
theorem d_M_hasDigits_1 : decode b_M_hasDigits 1 = .ok (.getfield 13, 3) := by decide +kernel
theorem d_M_hasDigits_4 : decode b_M_hasDigits 4 = .ok (.sipush (384), 3) := by decide +kernel
theorem d_M_hasDigits_7 : decode b_M_hasDigits 7 = .ok (.iload_n 1, 1) := by decide +kernel
theorem d_M_hasDigits_8 : decode b_M_hasDigits 8 = .ok (.iadd, 1) := by decide +kernel
theorem d_M_hasDigits_9 : decode b_M_hasDigits 9 = .ok (.iaload, 1) := by decide +kernel
theorem d_M_hasDigits_10 : decode b_M_hasDigits 10 = .ok (.istore_n 2, 1) := by decide +kernel
theorem d_M_hasDigits_11 : decode b_M_hasDigits 11 = .ok (.iload_n 2, 1) := by decide +kernel
theorem d_M_hasDigits_12 : decode b_M_hasDigits 12 = .ok (.iconst 4, 1) := by decide +kernel
theorem d_M_hasDigits_13 : decode b_M_hasDigits 13 = .ok (.if_icmp .eq (14), 3) := by decide +kernel
theorem d_M_hasDigits_16 : decode b_M_hasDigits 16 = .ok (.iload_n 2, 1) := by decide +kernel
theorem d_M_hasDigits_17 : decode b_M_hasDigits 17 = .ok (.iconst 5, 1) := by decide +kernel
theorem d_M_hasDigits_18 : decode b_M_hasDigits 18 = .ok (.if_icmp .eq (9), 3) := by decide +kernel
theorem d_M_hasDigits_21 : decode b_M_hasDigits 21 = .ok (.iload_n 2, 1) := by decide +kernel
theorem d_M_hasDigits_22 : decode b_M_hasDigits 22 = .ok (.bipush (8), 2) := by decide +kernel
theorem d_M_hasDigits_24 : decode b_M_hasDigits 24 = .ok (.if_icmp .ne (39), 3) := by decide +kernel
theorem d_M_hasDigits_27 : decode b_M_hasDigits 27 = .ok (.aload_n 0, 1) := by decide +kernel
theorem d_M_hasDigits_28 : decode b_M_hasDigits 28 = .ok (.getfield 16, 3) := by decide +kernel
theorem d_M_hasDigits_31 : decode b_M_hasDigits 31 = .ok (.sipush (384), 3) := by decide +kernel
theorem d_M_hasDigits_34 : decode b_M_hasDigits 34 = .ok (.iload_n 1, 1) := by decide +kernel
theorem d_M_hasDigits_35 : decode b_M_hasDigits 35 = .ok (.iadd, 1) := by decide +kernel
theorem d_M_hasDigits_36 : decode b_M_hasDigits 36 = .ok (.aload_n 0, 1) := by decide +kernel
theorem d_M_hasDigits_37 : decode b_M_hasDigits 37 = .ok (.iconst 1, 1) := by decide +kernel
theorem d_M_hasDigits_38 : decode b_M_hasDigits 38 = .ok (.bipush (9), 2) := by decide +kernel
theorem d_M_hasDigits_40 : decode b_M_hasDigits 40 = .ok (.invokevirtual 133, 3) := by decide +kernel
theorem d_M_hasDigits_43 : decode b_M_hasDigits 43 = .ok (.iastore, 1) := by decide +kernel
theorem d_M_hasDigits_44 : decode b_M_hasDigits 44 = .ok (.aload_n 0, 1) := by decide +kernel
theorem d_M_hasDigits_45 : decode b_M_hasDigits 45 = .ok (.getfield 16, 3) := by decide +kernel
theorem d_M_hasDigits_48 : decode b_M_hasDigits 48 = .ok (.sipush (384), 3) := by decide +kernel
theorem d_M_hasDigits_51 : decode b_M_hasDigits 51 = .ok (.iload_n 1, 1) := by decide +kernel
theorem d_M_hasDigits_52 : decode b_M_hasDigits 52 = .ok (.iadd, 1) := by decide +kernel
theorem d_M_hasDigits_53 : decode b_M_hasDigits 53 = .ok (.iaload, 1) := by decide +kernel
theorem d_M_hasDigits_54 : decode b_M_hasDigits 54 = .ok (.ifCond .le (7), 3) := by decide +kernel
theorem d_M_hasDigits_57 : decode b_M_hasDigits 57 = .ok (.iconst 1, 1) := by decide +kernel
theorem d_M_hasDigits_58 : decode b_M_hasDigits 58 = .ok (.goto (4), 3) := by decide +kernel
theorem d_M_hasDigits_61 : decode b_M_hasDigits 61 = .ok (.iconst 0, 1) := by decide +kernel
theorem d_M_hasDigits_62 : decode b_M_hasDigits 62 = .ok (.ireturn, 1) := by decide +kernel
theorem d_M_hasDigits_63 : decode b_M_hasDigits 63 = .ok (.iload_n 2, 1) := by decide +kernel
theorem d_M_hasDigits_64 : decode b_M_hasDigits 64 = .ok (.bipush (6), 2) := by decide +kernel
theorem d_M_hasDigits_66 : decode b_M_hasDigits 66 = .ok (.if_icmp .ne (71), 3) := by decide +kernel
theorem d_M_hasDigits_69 : decode b_M_hasDigits 69 = .ok (.aload_n 0, 1) := by decide +kernel
theorem d_M_hasDigits_70 : decode b_M_hasDigits 70 = .ok (.getfield 16, 3) := by decide +kernel
theorem d_M_hasDigits_73 : decode b_M_hasDigits 73 = .ok (.sipush (384), 3) := by decide +kernel
theorem d_M_hasDigits_76 : decode b_M_hasDigits 76 = .ok (.iload_n 1, 1) := by decide +kernel
theorem d_M_hasDigits_77 : decode b_M_hasDigits 77 = .ok (.iadd, 1) := by decide +kernel
theorem d_M_hasDigits_78 : decode b_M_hasDigits 78 = .ok (.aload_n 0, 1) := by decide +kernel
theorem d_M_hasDigits_79 : decode b_M_hasDigits 79 = .ok (.iconst 1, 1) := by decide +kernel
theorem d_M_hasDigits_80 : decode b_M_hasDigits 80 = .ok (.bipush (9), 2) := by decide +kernel
theorem d_M_hasDigits_82 : decode b_M_hasDigits 82 = .ok (.invokevirtual 133, 3) := by decide +kernel
theorem d_M_hasDigits_85 : decode b_M_hasDigits 85 = .ok (.iastore, 1) := by decide +kernel
theorem d_M_hasDigits_86 : decode b_M_hasDigits 86 = .ok (.aload_n 0, 1) := by decide +kernel
theorem d_M_hasDigits_87 : decode b_M_hasDigits 87 = .ok (.getfield 16, 3) := by decide +kernel
theorem d_M_hasDigits_90 : decode b_M_hasDigits 90 = .ok (.sipush (384), 3) := by decide +kernel
theorem d_M_hasDigits_93 : decode b_M_hasDigits 93 = .ok (.iload_n 1, 1) := by decide +kernel
theorem d_M_hasDigits_94 : decode b_M_hasDigits 94 = .ok (.iadd, 1) := by decide +kernel
theorem d_M_hasDigits_95 : decode b_M_hasDigits 95 = .ok (.iaload, 1) := by decide +kernel
theorem d_M_hasDigits_96 : decode b_M_hasDigits 96 = .ok (.ifCond .ge (5), 3) := by decide +kernel
theorem d_M_hasDigits_99 : decode b_M_hasDigits 99 = .ok (.iconst 0, 1) := by decide +kernel
theorem d_M_hasDigits_100 : decode b_M_hasDigits 100 = .ok (.ireturn, 1) := by decide +kernel
theorem d_M_hasDigits_101 : decode b_M_hasDigits 101 = .ok (.aload_n 0, 1) := by decide +kernel
theorem d_M_hasDigits_102 : decode b_M_hasDigits 102 = .ok (.getfield 19, 3) := by decide +kernel
theorem d_M_hasDigits_105 : decode b_M_hasDigits 105 = .ok (.sipush (384), 3) := by decide +kernel
theorem d_M_hasDigits_108 : decode b_M_hasDigits 108 = .ok (.iload_n 1, 1) := by decide +kernel
theorem d_M_hasDigits_109 : decode b_M_hasDigits 109 = .ok (.iadd, 1) := by decide +kernel
theorem d_M_hasDigits_110 : decode b_M_hasDigits 110 = .ok (.aload_n 0, 1) := by decide +kernel
theorem d_M_hasDigits_111 : decode b_M_hasDigits 111 = .ok (.iconst 1, 1) := by decide +kernel
theorem d_M_hasDigits_112 : decode b_M_hasDigits 112 = .ok (.bipush (9), 2) := by decide +kernel
theorem d_M_hasDigits_114 : decode b_M_hasDigits 114 = .ok (.invokevirtual 133, 3) := by decide +kernel
theorem d_M_hasDigits_117 : decode b_M_hasDigits 117 = .ok (.iastore, 1) := by decide +kernel
theorem d_M_hasDigits_118 : decode b_M_hasDigits 118 = .ok (.aload_n 0, 1) := by decide +kernel
theorem d_M_hasDigits_119 : decode b_M_hasDigits 119 = .ok (.getfield 19, 3) := by decide +kernel
theorem d_M_hasDigits_122 : decode b_M_hasDigits 122 = .ok (.sipush (384), 3) := by decide +kernel
theorem d_M_hasDigits_125 : decode b_M_hasDigits 125 = .ok (.iload_n 1, 1) := by decide +kernel
theorem d_M_hasDigits_126 : decode b_M_hasDigits 126 = .ok (.iadd, 1) := by decide +kernel
theorem d_M_hasDigits_127 : decode b_M_hasDigits 127 = .ok (.iaload, 1) := by decide +kernel
theorem d_M_hasDigits_128 : decode b_M_hasDigits 128 = .ok (.ifCond .le (7), 3) := by decide +kernel
theorem d_M_hasDigits_131 : decode b_M_hasDigits 131 = .ok (.iconst 1, 1) := by decide +kernel
theorem d_M_hasDigits_132 : decode b_M_hasDigits 132 = .ok (.goto (4), 3) := by decide +kernel
theorem d_M_hasDigits_135 : decode b_M_hasDigits 135 = .ok (.iconst 0, 1) := by decide +kernel
theorem d_M_hasDigits_136 : decode b_M_hasDigits 136 = .ok (.ireturn, 1) := by decide +kernel
theorem d_M_hasDigits_137 : decode b_M_hasDigits 137 = .ok (.iload_n 2, 1) := by decide +kernel
theorem d_M_hasDigits_138 : decode b_M_hasDigits 138 = .ok (.bipush (9), 2) := by decide +kernel
theorem d_M_hasDigits_140 : decode b_M_hasDigits 140 = .ok (.if_icmp .eq (5), 3) := by decide +kernel
theorem d_M_hasDigits_143 : decode b_M_hasDigits 143 = .ok (.iconst 1, 1) := by decide +kernel
theorem d_M_hasDigits_144 : decode b_M_hasDigits 144 = .ok (.ireturn, 1) := by decide +kernel
theorem d_M_hasDigits_145 : decode b_M_hasDigits 145 = .ok (.aload_n 0, 1) := by decide +kernel
theorem d_M_hasDigits_146 : decode b_M_hasDigits 146 = .ok (.getfield 16, 3) := by decide +kernel
theorem d_M_hasDigits_149 : decode b_M_hasDigits 149 = .ok (.sipush (384), 3) := by decide +kernel
theorem d_M_hasDigits_152 : decode b_M_hasDigits 152 = .ok (.iload_n 1, 1) := by decide +kernel
theorem d_M_hasDigits_153 : decode b_M_hasDigits 153 = .ok (.iadd, 1) := by decide +kernel
theorem d_M_hasDigits_154 : decode b_M_hasDigits 154 = .ok (.aload_n 0, 1) := by decide +kernel
theorem d_M_hasDigits_155 : decode b_M_hasDigits 155 = .ok (.iconst 0, 1) := by decide +kernel
theorem d_M_hasDigits_156 : decode b_M_hasDigits 156 = .ok (.bipush (9), 2) := by decide +kernel
theorem d_M_hasDigits_158 : decode b_M_hasDigits 158 = .ok (.invokevirtual 133, 3) := by decide +kernel
theorem d_M_hasDigits_161 : decode b_M_hasDigits 161 = .ok (.iastore, 1) := by decide +kernel
theorem d_M_hasDigits_162 : decode b_M_hasDigits 162 = .ok (.aload_n 0, 1) := by decide +kernel
theorem d_M_hasDigits_163 : decode b_M_hasDigits 163 = .ok (.getfield 16, 3) := by decide +kernel
theorem d_M_hasDigits_166 : decode b_M_hasDigits 166 = .ok (.sipush (384), 3) := by decide +kernel
theorem d_M_hasDigits_169 : decode b_M_hasDigits 169 = .ok (.iload_n 1, 1) := by decide +kernel
theorem d_M_hasDigits_170 : decode b_M_hasDigits 170 = .ok (.iadd, 1) := by decide +kernel
theorem d_M_hasDigits_171 : decode b_M_hasDigits 171 = .ok (.iaload, 1) := by decide +kernel
theorem d_M_hasDigits_172 : decode b_M_hasDigits 172 = .ok (.ifCond .ge (5), 3) := by decide +kernel
theorem d_M_hasDigits_175 : decode b_M_hasDigits 175 = .ok (.iconst 0, 1) := by decide +kernel
theorem d_M_hasDigits_176 : decode b_M_hasDigits 176 = .ok (.ireturn, 1) := by decide +kernel
theorem d_M_hasDigits_177 : decode b_M_hasDigits 177 = .ok (.aload_n 0, 1) := by decide +kernel
theorem d_M_hasDigits_178 : decode b_M_hasDigits 178 = .ok (.getfield 19, 3) := by decide +kernel
theorem d_M_hasDigits_181 : decode b_M_hasDigits 181 = .ok (.sipush (384), 3) := by decide +kernel
theorem d_M_hasDigits_184 : decode b_M_hasDigits 184 = .ok (.iload_n 1, 1) := by decide +kernel
theorem d_M_hasDigits_185 : decode b_M_hasDigits 185 = .ok (.iadd, 1) := by decide +kernel
theorem d_M_hasDigits_186 : decode b_M_hasDigits 186 = .ok (.aload_n 0, 1) := by decide +kernel
theorem d_M_hasDigits_187 : decode b_M_hasDigits 187 = .ok (.aload_n 0, 1) := by decide +kernel
theorem d_M_hasDigits_188 : decode b_M_hasDigits 188 = .ok (.getfield 16, 3) := by decide +kernel
theorem d_M_hasDigits_191 : decode b_M_hasDigits 191 = .ok (.sipush (384), 3) := by decide +kernel
theorem d_M_hasDigits_194 : decode b_M_hasDigits 194 = .ok (.iload_n 1, 1) := by decide +kernel
theorem d_M_hasDigits_195 : decode b_M_hasDigits 195 = .ok (.iadd, 1) := by decide +kernel
theorem d_M_hasDigits_196 : decode b_M_hasDigits 196 = .ok (.iaload, 1) := by decide +kernel
theorem d_M_hasDigits_197 : decode b_M_hasDigits 197 = .ok (.ifCond .le (16), 3) := by decide +kernel
theorem d_M_hasDigits_200 : decode b_M_hasDigits 200 = .ok (.aload_n 0, 1) := by decide +kernel
theorem d_M_hasDigits_201 : decode b_M_hasDigits 201 = .ok (.getfield 16, 3) := by decide +kernel
theorem d_M_hasDigits_204 : decode b_M_hasDigits 204 = .ok (.sipush (384), 3) := by decide +kernel
theorem d_M_hasDigits_207 : decode b_M_hasDigits 207 = .ok (.iload_n 1, 1) := by decide +kernel
theorem d_M_hasDigits_208 : decode b_M_hasDigits 208 = .ok (.iadd, 1) := by decide +kernel
theorem d_M_hasDigits_209 : decode b_M_hasDigits 209 = .ok (.iaload, 1) := by decide +kernel
theorem d_M_hasDigits_210 : decode b_M_hasDigits 210 = .ok (.goto (4), 3) := by decide +kernel
theorem d_M_hasDigits_213 : decode b_M_hasDigits 213 = .ok (.iconst 1, 1) := by decide +kernel
theorem d_M_hasDigits_214 : decode b_M_hasDigits 214 = .ok (.bipush (9), 2) := by decide +kernel
theorem d_M_hasDigits_216 : decode b_M_hasDigits 216 = .ok (.invokevirtual 133, 3) := by decide +kernel
theorem d_M_hasDigits_219 : decode b_M_hasDigits 219 = .ok (.iastore, 1) := by decide +kernel
theorem d_M_hasDigits_220 : decode b_M_hasDigits 220 = .ok (.aload_n 0, 1) := by decide +kernel
theorem d_M_hasDigits_221 : decode b_M_hasDigits 221 = .ok (.getfield 19, 3) := by decide +kernel
theorem d_M_hasDigits_224 : decode b_M_hasDigits 224 = .ok (.sipush (384), 3) := by decide +kernel
theorem d_M_hasDigits_227 : decode b_M_hasDigits 227 = .ok (.iload_n 1, 1) := by decide +kernel
theorem d_M_hasDigits_228 : decode b_M_hasDigits 228 = .ok (.iadd, 1) := by decide +kernel
theorem d_M_hasDigits_229 : decode b_M_hasDigits 229 = .ok (.iaload, 1) := by decide +kernel
theorem d_M_hasDigits_230 : decode b_M_hasDigits 230 = .ok (.ifCond .ge (5), 3) := by decide +kernel
theorem d_M_hasDigits_233 : decode b_M_hasDigits 233 = .ok (.iconst 0, 1) := by decide +kernel
theorem d_M_hasDigits_234 : decode b_M_hasDigits 234 = .ok (.ireturn, 1) := by decide +kernel
theorem d_M_hasDigits_235 : decode b_M_hasDigits 235 = .ok (.aload_n 0, 1) := by decide +kernel
theorem d_M_hasDigits_236 : decode b_M_hasDigits 236 = .ok (.getfield 22, 3) := by decide +kernel
theorem d_M_hasDigits_239 : decode b_M_hasDigits 239 = .ok (.sipush (384), 3) := by decide +kernel
theorem d_M_hasDigits_242 : decode b_M_hasDigits 242 = .ok (.iload_n 1, 1) := by decide +kernel
theorem d_M_hasDigits_243 : decode b_M_hasDigits 243 = .ok (.iadd, 1) := by decide +kernel
theorem d_M_hasDigits_244 : decode b_M_hasDigits 244 = .ok (.aload_n 0, 1) := by decide +kernel
theorem d_M_hasDigits_245 : decode b_M_hasDigits 245 = .ok (.iconst 0, 1) := by decide +kernel
theorem d_M_hasDigits_246 : decode b_M_hasDigits 246 = .ok (.bipush (9), 2) := by decide +kernel
theorem d_M_hasDigits_248 : decode b_M_hasDigits 248 = .ok (.invokevirtual 133, 3) := by decide +kernel
theorem d_M_hasDigits_251 : decode b_M_hasDigits 251 = .ok (.iastore, 1) := by decide +kernel
theorem d_M_hasDigits_252 : decode b_M_hasDigits 252 = .ok (.aload_n 0, 1) := by decide +kernel
theorem d_M_hasDigits_253 : decode b_M_hasDigits 253 = .ok (.getfield 22, 3) := by decide +kernel
theorem d_M_hasDigits_256 : decode b_M_hasDigits 256 = .ok (.sipush (384), 3) := by decide +kernel
theorem d_M_hasDigits_259 : decode b_M_hasDigits 259 = .ok (.iload_n 1, 1) := by decide +kernel
theorem d_M_hasDigits_260 : decode b_M_hasDigits 260 = .ok (.iadd, 1) := by decide +kernel
theorem d_M_hasDigits_261 : decode b_M_hasDigits 261 = .ok (.iaload, 1) := by decide +kernel
theorem d_M_hasDigits_262 : decode b_M_hasDigits 262 = .ok (.ifCond .lt (7), 3) := by decide +kernel
theorem d_M_hasDigits_265 : decode b_M_hasDigits 265 = .ok (.iconst 1, 1) := by decide +kernel
theorem d_M_hasDigits_266 : decode b_M_hasDigits 266 = .ok (.goto (4), 3) := by decide +kernel
theorem d_M_hasDigits_269 : decode b_M_hasDigits 269 = .ok (.iconst 0, 1) := by decide +kernel
theorem d_M_hasDigits_270 : decode b_M_hasDigits 270 = .ok (.ireturn, 1) := by decide +kernel
theorem d_M_closes_0 : decode b_M_closes 0 = .ok (.aload_n 0, 1) := by decide +kernel
theorem d_M_closes_1 : decode b_M_closes 1 = .ok (.getfield 123, 3) := by decide +kernel
theorem d_M_closes_4 : decode b_M_closes 4 = .ok (.ifCond .ne (5), 3) := by decide +kernel
theorem d_M_closes_7 : decode b_M_closes 7 = .ok (.iconst 0, 1) := by decide +kernel
theorem d_M_closes_8 : decode b_M_closes 8 = .ok (.ireturn, 1) := by decide +kernel
theorem d_M_closes_9 : decode b_M_closes 9 = .ok (.sipush (384), 3) := by decide +kernel
theorem d_M_closes_12 : decode b_M_closes 12 = .ok (.aload_n 0, 1) := by decide +kernel
theorem d_M_closes_13 : decode b_M_closes 13 = .ok (.getfield 43, 3) := by decide +kernel
theorem d_M_closes_16 : decode b_M_closes 16 = .ok (.aload_n 0, 1) := by decide +kernel
theorem d_M_closes_17 : decode b_M_closes 17 = .ok (.getfield 123, 3) := by decide +kernel
theorem d_M_closes_20 : decode b_M_closes 20 = .ok (.iconst 1, 1) := by decide +kernel
theorem d_M_closes_21 : decode b_M_closes 21 = .ok (.isub, 1) := by decide +kernel
theorem d_M_closes_22 : decode b_M_closes 22 = .ok (.iaload, 1) := by decide +kernel
theorem d_M_closes_23 : decode b_M_closes 23 = .ok (.iadd, 1) := by decide +kernel
theorem d_M_closes_24 : decode b_M_closes 24 = .ok (.istore_n 2, 1) := by decide +kernel
theorem d_M_closes_25 : decode b_M_closes 25 = .ok (.aload_n 0, 1) := by decide +kernel
theorem d_M_closes_26 : decode b_M_closes 26 = .ok (.getfield 13, 3) := by decide +kernel
theorem d_M_closes_29 : decode b_M_closes 29 = .ok (.iload_n 2, 1) := by decide +kernel
theorem d_M_closes_30 : decode b_M_closes 30 = .ok (.iaload, 1) := by decide +kernel
theorem d_M_closes_31 : decode b_M_closes 31 = .ok (.iconst 1, 1) := by decide +kernel
theorem d_M_closes_32 : decode b_M_closes 32 = .ok (.if_icmp .ne (8), 3) := by decide +kernel
theorem d_M_closes_35 : decode b_M_closes 35 = .ok (.bipush (93), 2) := by decide +kernel
theorem d_M_closes_37 : decode b_M_closes 37 = .ok (.goto (34), 3) := by decide +kernel
theorem d_M_closes_40 : decode b_M_closes 40 = .ok (.aload_n 0, 1) := by decide +kernel
theorem d_M_closes_41 : decode b_M_closes 41 = .ok (.getfield 13, 3) := by decide +kernel
theorem d_M_closes_44 : decode b_M_closes 44 = .ok (.iload_n 2, 1) := by decide +kernel
theorem d_M_closes_45 : decode b_M_closes 45 = .ok (.iaload, 1) := by decide +kernel
theorem d_M_closes_46 : decode b_M_closes 46 = .ok (.iconst 2, 1) := by decide +kernel
theorem d_M_closes_47 : decode b_M_closes 47 = .ok (.if_icmp .ne (8), 3) := by decide +kernel
theorem d_M_closes_50 : decode b_M_closes 50 = .ok (.bipush (62), 2) := by decide +kernel
theorem d_M_closes_52 : decode b_M_closes 52 = .ok (.goto (19), 3) := by decide +kernel
theorem d_M_closes_55 : decode b_M_closes 55 = .ok (.aload_n 0, 1) := by decide +kernel
theorem d_M_closes_56 : decode b_M_closes 56 = .ok (.getfield 13, 3) := by decide +kernel
theorem d_M_closes_59 : decode b_M_closes 59 = .ok (.iload_n 2, 1) := by decide +kernel
theorem d_M_closes_60 : decode b_M_closes 60 = .ok (.iaload, 1) := by decide +kernel
theorem d_M_closes_61 : decode b_M_closes 61 = .ok (.iconst 3, 1) := by decide +kernel
theorem d_M_closes_62 : decode b_M_closes 62 = .ok (.if_icmp .ne (8), 3) := by decide +kernel
theorem d_M_closes_65 : decode b_M_closes 65 = .ok (.bipush (125), 2) := by decide +kernel
theorem d_M_closes_67 : decode b_M_closes 67 = .ok (.goto (4), 3) := by decide +kernel
theorem d_M_closes_70 : decode b_M_closes 70 = .ok (.iconst 0, 1) := by decide +kernel
theorem d_M_closes_71 : decode b_M_closes 71 = .ok (.istore_n 3, 1) := by decide +kernel
theorem d_M_closes_72 : decode b_M_closes 72 = .ok (.aload_n 0, 1) := by decide +kernel
theorem d_M_closes_73 : decode b_M_closes 73 = .ok (.getfield 31, 3) := by decide +kernel
theorem d_M_closes_76 : decode b_M_closes 76 = .ok (.iload_n 2, 1) := by decide +kernel
theorem d_M_closes_77 : decode b_M_closes 77 = .ok (.iaload, 1) := by decide +kernel
theorem d_M_closes_78 : decode b_M_closes 78 = .ok (.ifCond .le (12), 3) := by decide +kernel
theorem d_M_closes_81 : decode b_M_closes 81 = .ok (.iload_n 1, 1) := by decide +kernel
theorem d_M_closes_82 : decode b_M_closes 82 = .ok (.iload_n 3, 1) := by decide +kernel
theorem d_M_closes_83 : decode b_M_closes 83 = .ok (.if_icmp .ne (7), 3) := by decide +kernel
theorem d_M_closes_86 : decode b_M_closes 86 = .ok (.iconst 1, 1) := by decide +kernel
theorem d_M_closes_87 : decode b_M_closes 87 = .ok (.goto (4), 3) := by decide +kernel
theorem d_M_closes_90 : decode b_M_closes 90 = .ok (.iconst 0, 1) := by decide +kernel
theorem d_M_closes_91 : decode b_M_closes 91 = .ok (.ireturn, 1) := by decide +kernel
theorem d_M_isFilled_0 : decode b_M_isFilled 0 = .ok (.aload_n 0, 1) := by decide +kernel
theorem d_M_isFilled_1 : decode b_M_isFilled 1 = .ok (.getfield 123, 3) := by decide +kernel
theorem d_M_isFilled_4 : decode b_M_isFilled 4 = .ok (.ifCond .le (60), 3) := by decide +kernel
theorem d_M_isFilled_7 : decode b_M_isFilled 7 = .ok (.aload_n 0, 1) := by decide +kernel
theorem d_M_isFilled_8 : decode b_M_isFilled 8 = .ok (.getfield 13, 3) := by decide +kernel
theorem d_M_isFilled_11 : decode b_M_isFilled 11 = .ok (.sipush (384), 3) := by decide +kernel
theorem d_M_isFilled_14 : decode b_M_isFilled 14 = .ok (.aload_n 0, 1) := by decide +kernel
theorem d_M_isFilled_15 : decode b_M_isFilled 15 = .ok (.getfield 43, 3) := by decide +kernel
theorem d_M_isFilled_18 : decode b_M_isFilled 18 = .ok (.aload_n 0, 1) := by decide +kernel
theorem d_M_isFilled_19 : decode b_M_isFilled 19 = .ok (.getfield 123, 3) := by decide +kernel
theorem d_M_isFilled_22 : decode b_M_isFilled 22 = .ok (.iconst 1, 1) := by decide +kernel
theorem d_M_isFilled_23 : decode b_M_isFilled 23 = .ok (.isub, 1) := by decide +kernel
theorem d_M_isFilled_24 : decode b_M_isFilled 24 = .ok (.iaload, 1) := by decide +kernel
theorem d_M_isFilled_25 : decode b_M_isFilled 25 = .ok (.iadd, 1) := by decide +kernel
theorem d_M_isFilled_26 : decode b_M_isFilled 26 = .ok (.iaload, 1) := by decide +kernel
theorem d_M_isFilled_27 : decode b_M_isFilled 27 = .ok (.invokestatic 126, 3) := by decide +kernel
theorem d_M_isFilled_30 : decode b_M_isFilled 30 = .ok (.bipush (10), 2) := by decide +kernel
theorem d_M_isFilled_32 : decode b_M_isFilled 32 = .ok (.if_icmp .ne (32), 3) := by decide +kernel
theorem d_M_isFilled_35 : decode b_M_isFilled 35 = .ok (.aload_n 0, 1) := by decide +kernel
theorem d_M_isFilled_36 : decode b_M_isFilled 36 = .ok (.getfield 31, 3) := by decide +kernel
theorem d_M_isFilled_39 : decode b_M_isFilled 39 = .ok (.sipush (384), 3) := by decide +kernel
theorem d_M_isFilled_42 : decode b_M_isFilled 42 = .ok (.aload_n 0, 1) := by decide +kernel
theorem d_M_isFilled_43 : decode b_M_isFilled 43 = .ok (.getfield 43, 3) := by decide +kernel
theorem d_M_isFilled_46 : decode b_M_isFilled 46 = .ok (.aload_n 0, 1) := by decide +kernel
theorem d_M_isFilled_47 : decode b_M_isFilled 47 = .ok (.getfield 123, 3) := by decide +kernel
theorem d_M_isFilled_50 : decode b_M_isFilled 50 = .ok (.iconst 1, 1) := by decide +kernel
theorem d_M_isFilled_51 : decode b_M_isFilled 51 = .ok (.isub, 1) := by decide +kernel
theorem d_M_isFilled_52 : decode b_M_isFilled 52 = .ok (.iaload, 1) := by decide +kernel
theorem d_M_isFilled_53 : decode b_M_isFilled 53 = .ok (.iadd, 1) := by decide +kernel
theorem d_M_isFilled_54 : decode b_M_isFilled 54 = .ok (.iaload, 1) := by decide +kernel
theorem d_M_isFilled_55 : decode b_M_isFilled 55 = .ok (.bipush (9), 2) := by decide +kernel
theorem d_M_isFilled_57 : decode b_M_isFilled 57 = .ok (.if_icmp .ne (7), 3) := by decide +kernel
theorem d_M_isFilled_60 : decode b_M_isFilled 60 = .ok (.iconst 1, 1) := by decide +kernel
theorem d_M_isFilled_61 : decode b_M_isFilled 61 = .ok (.goto (4), 3) := by decide +kernel
theorem d_M_isFilled_64 : decode b_M_isFilled 64 = .ok (.iconst 0, 1) := by decide +kernel
theorem d_M_isFilled_65 : decode b_M_isFilled 65 = .ok (.ireturn, 1) := by decide +kernel
theorem d_M_goesOn_0 : decode b_M_goesOn 0 = .ok (.aload_n 0, 1) := by decide +kernel
theorem d_M_goesOn_1 : decode b_M_goesOn 1 = .ok (.getfield 7, 3) := by decide +kernel
theorem d_M_goesOn_4 : decode b_M_goesOn 4 = .ok (.aload_n 0, 1) := by decide +kernel
theorem d_M_goesOn_5 : decode b_M_goesOn 5 = .ok (.getfield 130, 3) := by decide +kernel
theorem d_M_goesOn_8 : decode b_M_goesOn 8 = .ok (.iaload, 1) := by decide +kernel
theorem d_M_goesOn_9 : decode b_M_goesOn 9 = .ok (.istore_n 1, 1) := by decide +kernel
theorem d_M_goesOn_10 : decode b_M_goesOn 10 = .ok (.aload_n 0, 1) := by decide +kernel
theorem d_M_goesOn_11 : decode b_M_goesOn 11 = .ok (.iload_n 1, 1) := by decide +kernel
theorem d_M_goesOn_12 : decode b_M_goesOn 12 = .ok (.invokevirtual 137, 3) := by decide +kernel
theorem d_M_goesOn_15 : decode b_M_goesOn 15 = .ok (.ifCond .eq (38), 3) := by decide +kernel
theorem d_M_goesOn_18 : decode b_M_goesOn 18 = .ok (.aload_n 0, 1) := by decide +kernel
theorem d_M_goesOn_19 : decode b_M_goesOn 19 = .ok (.dup, 1) := by decide +kernel
theorem d_M_goesOn_20 : decode b_M_goesOn 20 = .ok (.getfield 130, 3) := by decide +kernel
theorem d_M_goesOn_23 : decode b_M_goesOn 23 = .ok (.iconst 1, 1) := by decide +kernel
theorem d_M_goesOn_24 : decode b_M_goesOn 24 = .ok (.iadd, 1) := by decide +kernel
theorem d_M_goesOn_25 : decode b_M_goesOn 25 = .ok (.putfield 130, 3) := by decide +kernel
theorem d_M_goesOn_28 : decode b_M_goesOn 28 = .ok (.aload_n 0, 1) := by decide +kernel
theorem d_M_goesOn_29 : decode b_M_goesOn 29 = .ok (.dup, 1) := by decide +kernel
theorem d_M_goesOn_30 : decode b_M_goesOn 30 = .ok (.getfield 123, 3) := by decide +kernel
theorem d_M_goesOn_33 : decode b_M_goesOn 33 = .ok (.iconst 1, 1) := by decide +kernel
theorem d_M_goesOn_34 : decode b_M_goesOn 34 = .ok (.isub, 1) := by decide +kernel
theorem d_M_goesOn_35 : decode b_M_goesOn 35 = .ok (.putfield 123, 3) := by decide +kernel
theorem d_M_goesOn_38 : decode b_M_goesOn 38 = .ok (.aload_n 0, 1) := by decide +kernel
theorem d_M_goesOn_39 : decode b_M_goesOn 39 = .ok (.aload_n 0, 1) := by decide +kernel
theorem d_M_goesOn_40 : decode b_M_goesOn 40 = .ok (.getfield 43, 3) := by decide +kernel
theorem d_M_goesOn_43 : decode b_M_goesOn 43 = .ok (.aload_n 0, 1) := by decide +kernel
theorem d_M_goesOn_44 : decode b_M_goesOn 44 = .ok (.getfield 123, 3) := by decide +kernel
theorem d_M_goesOn_47 : decode b_M_goesOn 47 = .ok (.iaload, 1) := by decide +kernel
theorem d_M_goesOn_48 : decode b_M_goesOn 48 = .ok (.invokevirtual 141, 3) := by decide +kernel
theorem d_M_goesOn_51 : decode b_M_goesOn 51 = .ok (.iconst 1, 1) := by decide +kernel
theorem d_M_goesOn_52 : decode b_M_goesOn 52 = .ok (.ireturn, 1) := by decide +kernel
theorem d_M_goesOn_53 : decode b_M_goesOn 53 = .ok (.iload_n 1, 1) := by decide +kernel
theorem d_M_goesOn_54 : decode b_M_goesOn 54 = .ok (.invokestatic 145, 3) := by decide +kernel
theorem d_M_goesOn_57 : decode b_M_goesOn 57 = .ok (.istore_n 2, 1) := by decide +kernel
theorem d_M_goesOn_58 : decode b_M_goesOn 58 = .ok (.iload_n 2, 1) := by decide +kernel
theorem d_M_goesOn_59 : decode b_M_goesOn 59 = .ok (.ifCond .lt (10), 3) := by decide +kernel
theorem d_M_goesOn_62 : decode b_M_goesOn 62 = .ok (.aload_n 0, 1) := by decide +kernel
theorem d_M_goesOn_63 : decode b_M_goesOn 63 = .ok (.invokevirtual 148, 3) := by decide +kernel
theorem d_M_goesOn_66 : decode b_M_goesOn 66 = .ok (.ifCond .eq (5), 3) := by decide +kernel
theorem d_M_goesOn_69 : decode b_M_goesOn 69 = .ok (.iconst 0, 1) := by decide +kernel
theorem d_M_goesOn_70 : decode b_M_goesOn 70 = .ok (.ireturn, 1) := by decide +kernel
theorem d_M_goesOn_71 : decode b_M_goesOn 71 = .ok (.aload_n 0, 1) := by decide +kernel
theorem d_M_goesOn_72 : decode b_M_goesOn 72 = .ok (.iload_n 2, 1) := by decide +kernel
theorem d_M_goesOn_73 : decode b_M_goesOn 73 = .ok (.invokevirtual 152, 3) := by decide +kernel
theorem d_M_goesOn_76 : decode b_M_goesOn 76 = .ok (.istore_n 3, 1) := by decide +kernel
theorem d_M_goesOn_77 : decode b_M_goesOn 77 = .ok (.aload_n 0, 1) := by decide +kernel
theorem d_M_goesOn_78 : decode b_M_goesOn 78 = .ok (.getfield 16, 3) := by decide +kernel
theorem d_M_goesOn_81 : decode b_M_goesOn 81 = .ok (.sipush (384), 3) := by decide +kernel
theorem d_M_goesOn_84 : decode b_M_goesOn 84 = .ok (.iload_n 3, 1) := by decide +kernel
theorem d_M_goesOn_85 : decode b_M_goesOn 85 = .ok (.iadd, 1) := by decide +kernel
theorem d_M_goesOn_86 : decode b_M_goesOn 86 = .ok (.iload_n 1, 1) := by decide +kernel
theorem d_M_goesOn_87 : decode b_M_goesOn 87 = .ok (.iastore, 1) := by decide +kernel
theorem d_M_goesOn_88 : decode b_M_goesOn 88 = .ok (.aload_n 0, 1) := by decide +kernel
theorem d_M_goesOn_89 : decode b_M_goesOn 89 = .ok (.dup, 1) := by decide +kernel
theorem d_M_goesOn_90 : decode b_M_goesOn 90 = .ok (.getfield 130, 3) := by decide +kernel
theorem d_M_goesOn_93 : decode b_M_goesOn 93 = .ok (.iconst 1, 1) := by decide +kernel
theorem d_M_goesOn_94 : decode b_M_goesOn 94 = .ok (.iadd, 1) := by decide +kernel
theorem d_M_goesOn_95 : decode b_M_goesOn 95 = .ok (.putfield 130, 3) := by decide +kernel
theorem d_M_goesOn_98 : decode b_M_goesOn 98 = .ok (.aload_n 0, 1) := by decide +kernel
theorem d_M_goesOn_99 : decode b_M_goesOn 99 = .ok (.iload_n 3, 1) := by decide +kernel
theorem d_M_goesOn_100 : decode b_M_goesOn 100 = .ok (.invokevirtual 155, 3) := by decide +kernel
theorem d_M_goesOn_103 : decode b_M_goesOn 103 = .ok (.ifCond .ne (5), 3) := by decide +kernel
theorem d_M_goesOn_106 : decode b_M_goesOn 106 = .ok (.iconst 0, 1) := by decide +kernel
theorem d_M_goesOn_107 : decode b_M_goesOn 107 = .ok (.ireturn, 1) := by decide +kernel
theorem d_M_goesOn_108 : decode b_M_goesOn 108 = .ok (.iload_n 2, 1) := by decide +kernel
theorem d_M_goesOn_109 : decode b_M_goesOn 109 = .ok (.invokestatic 126, 3) := by decide +kernel
theorem d_M_goesOn_112 : decode b_M_goesOn 112 = .ok (.ifCond .ne (11), 3) := by decide +kernel
theorem d_M_goesOn_115 : decode b_M_goesOn 115 = .ok (.aload_n 0, 1) := by decide +kernel
theorem d_M_goesOn_116 : decode b_M_goesOn 116 = .ok (.iload_n 3, 1) := by decide +kernel
theorem d_M_goesOn_117 : decode b_M_goesOn 117 = .ok (.invokevirtual 141, 3) := by decide +kernel
theorem d_M_goesOn_120 : decode b_M_goesOn 120 = .ok (.goto (23), 3) := by decide +kernel
theorem d_M_goesOn_123 : decode b_M_goesOn 123 = .ok (.aload_n 0, 1) := by decide +kernel
theorem d_M_goesOn_124 : decode b_M_goesOn 124 = .ok (.getfield 43, 3) := by decide +kernel
theorem d_M_goesOn_127 : decode b_M_goesOn 127 = .ok (.aload_n 0, 1) := by decide +kernel
theorem d_M_goesOn_128 : decode b_M_goesOn 128 = .ok (.getfield 123, 3) := by decide +kernel
theorem d_M_goesOn_131 : decode b_M_goesOn 131 = .ok (.iload_n 3, 1) := by decide +kernel
theorem d_M_goesOn_132 : decode b_M_goesOn 132 = .ok (.iastore, 1) := by decide +kernel
theorem d_M_goesOn_133 : decode b_M_goesOn 133 = .ok (.aload_n 0, 1) := by decide +kernel
theorem d_M_goesOn_134 : decode b_M_goesOn 134 = .ok (.dup, 1) := by decide +kernel
theorem d_M_goesOn_135 : decode b_M_goesOn 135 = .ok (.getfield 123, 3) := by decide +kernel
theorem d_M_goesOn_138 : decode b_M_goesOn 138 = .ok (.iconst 1, 1) := by decide +kernel
theorem d_M_goesOn_139 : decode b_M_goesOn 139 = .ok (.iadd, 1) := by decide +kernel
theorem d_M_goesOn_140 : decode b_M_goesOn 140 = .ok (.putfield 123, 3) := by decide +kernel
theorem d_M_goesOn_143 : decode b_M_goesOn 143 = .ok (.iconst 1, 1) := by decide +kernel
theorem d_M_goesOn_144 : decode b_M_goesOn 144 = .ok (.ireturn, 1) := by decide +kernel
theorem d_M_wrong_0 : decode b_M_wrong 0 = .ok (.aload_n 0, 1) := by decide +kernel
theorem d_M_wrong_1 : decode b_M_wrong 1 = .ok (.iconst 0, 1) := by decide +kernel
theorem d_M_wrong_2 : decode b_M_wrong 2 = .ok (.putfield 130, 3) := by decide +kernel
theorem d_M_wrong_5 : decode b_M_wrong 5 = .ok (.aload_n 0, 1) := by decide +kernel
theorem d_M_wrong_6 : decode b_M_wrong 6 = .ok (.iconst 0, 1) := by decide +kernel
theorem d_M_wrong_7 : decode b_M_wrong 7 = .ok (.putfield 123, 3) := by decide +kernel
theorem d_M_wrong_10 : decode b_M_wrong 10 = .ok (.aload_n 0, 1) := by decide +kernel
theorem d_M_wrong_11 : decode b_M_wrong 11 = .ok (.getfield 37, 3) := by decide +kernel
theorem d_M_wrong_14 : decode b_M_wrong 14 = .ok (.bipush (8), 2) := by decide +kernel
theorem d_M_wrong_16 : decode b_M_wrong 16 = .ok (.iconst 0, 1) := by decide +kernel
theorem d_M_wrong_17 : decode b_M_wrong 17 = .ok (.iastore, 1) := by decide +kernel
theorem d_M_wrong_18 : decode b_M_wrong 18 = .ok (.aload_n 0, 1) := by decide +kernel
theorem d_M_wrong_19 : decode b_M_wrong 19 = .ok (.getfield 34, 3) := by decide +kernel
theorem d_M_wrong_22 : decode b_M_wrong 22 = .ok (.bipush (8), 2) := by decide +kernel
theorem d_M_wrong_24 : decode b_M_wrong 24 = .ok (.iconst (-1), 1) := by decide +kernel
theorem d_M_wrong_25 : decode b_M_wrong 25 = .ok (.iastore, 1) := by decide +kernel
theorem d_M_wrong_26 : decode b_M_wrong 26 = .ok (.aload_n 0, 1) := by decide +kernel
theorem d_M_wrong_27 : decode b_M_wrong 27 = .ok (.getfield 34, 3) := by decide +kernel
theorem d_M_wrong_30 : decode b_M_wrong 30 = .ok (.bipush (8), 2) := by decide +kernel
theorem d_M_wrong_32 : decode b_M_wrong 32 = .ok (.iaload, 1) := by decide +kernel
theorem d_M_wrong_33 : decode b_M_wrong 33 = .ok (.ifCond .ge (26), 3) := by decide +kernel
theorem d_M_wrong_36 : decode b_M_wrong 36 = .ok (.aload_n 0, 1) := by decide +kernel
theorem d_M_wrong_37 : decode b_M_wrong 37 = .ok (.getfield 130, 3) := by decide +kernel
theorem d_M_wrong_40 : decode b_M_wrong 40 = .ok (.aload_n 0, 1) := by decide +kernel
theorem d_M_wrong_41 : decode b_M_wrong 41 = .ok (.getfield 120, 3) := by decide +kernel
theorem d_M_wrong_44 : decode b_M_wrong 44 = .ok (.if_icmp .eq (10), 3) := by decide +kernel
theorem d_M_wrong_47 : decode b_M_wrong 47 = .ok (.aload_n 0, 1) := by decide +kernel
theorem d_M_wrong_48 : decode b_M_wrong 48 = .ok (.invokevirtual 158, 3) := by decide +kernel
theorem d_M_wrong_51 : decode b_M_wrong 51 = .ok (.ifCond .ne (-25), 3) := by decide +kernel
theorem d_M_wrong_54 : decode b_M_wrong 54 = .ok (.aload_n 0, 1) := by decide +kernel
theorem d_M_wrong_55 : decode b_M_wrong 55 = .ok (.getfield 130, 3) := by decide +kernel
theorem d_M_wrong_58 : decode b_M_wrong 58 = .ok (.ireturn, 1) := by decide +kernel
theorem d_M_wrong_59 : decode b_M_wrong 59 = .ok (.aload_n 0, 1) := by decide +kernel
theorem d_M_wrong_60 : decode b_M_wrong 60 = .ok (.getfield 130, 3) := by decide +kernel
theorem d_M_wrong_63 : decode b_M_wrong 63 = .ok (.aload_n 0, 1) := by decide +kernel
theorem d_M_wrong_64 : decode b_M_wrong 64 = .ok (.getfield 120, 3) := by decide +kernel
theorem d_M_wrong_67 : decode b_M_wrong 67 = .ok (.if_icmp .ge (10), 3) := by decide +kernel
theorem d_M_wrong_70 : decode b_M_wrong 70 = .ok (.aload_n 0, 1) := by decide +kernel
theorem d_M_wrong_71 : decode b_M_wrong 71 = .ok (.getfield 130, 3) := by decide +kernel
theorem d_M_wrong_74 : decode b_M_wrong 74 = .ok (.goto (4), 3) := by decide +kernel
theorem d_M_wrong_77 : decode b_M_wrong 77 = .ok (.iconst (-1), 1) := by decide +kernel
theorem d_M_wrong_78 : decode b_M_wrong 78 = .ok (.ireturn, 1) := by decide +kernel
theorem d_M_grainOf_0 : decode b_M_grainOf 0 = .ok (.iconst 1, 1) := by decide +kernel
theorem d_M_grainOf_1 : decode b_M_grainOf 1 = .ok (.istore_n 1, 1) := by decide +kernel
theorem d_M_grainOf_2 : decode b_M_grainOf 2 = .ok (.sipush (384), 3) := by decide +kernel
theorem d_M_grainOf_5 : decode b_M_grainOf 5 = .ok (.istore_n 2, 1) := by decide +kernel
theorem d_M_grainOf_6 : decode b_M_grainOf 6 = .ok (.iload_n 2, 1) := by decide +kernel
theorem d_M_grainOf_7 : decode b_M_grainOf 7 = .ok (.sipush (384), 3) := by decide +kernel
theorem d_M_grainOf_10 : decode b_M_grainOf 10 = .ok (.aload_n 0, 1) := by decide +kernel
theorem d_M_grainOf_11 : decode b_M_grainOf 11 = .ok (.getfield 37, 3) := by decide +kernel
theorem d_M_grainOf_14 : decode b_M_grainOf 14 = .ok (.bipush (8), 2) := by decide +kernel
theorem d_M_grainOf_16 : decode b_M_grainOf 16 = .ok (.iaload, 1) := by decide +kernel
theorem d_M_grainOf_17 : decode b_M_grainOf 17 = .ok (.iadd, 1) := by decide +kernel
theorem d_M_grainOf_18 : decode b_M_grainOf 18 = .ok (.if_icmp .ge (81), 3) := by decide +kernel
theorem d_M_grainOf_21 : decode b_M_grainOf 21 = .ok (.iload_n 1, 1) := by decide +kernel
theorem d_M_grainOf_22 : decode b_M_grainOf 22 = .ok (.sipush (5040), 3) := by decide +kernel
theorem d_M_grainOf_25 : decode b_M_grainOf 25 = .ok (.if_icmp .gt (74), 3) := by decide +kernel
theorem d_M_grainOf_28 : decode b_M_grainOf 28 = .ok (.aload_n 0, 1) := by decide +kernel
theorem d_M_grainOf_29 : decode b_M_grainOf 29 = .ok (.getfield 13, 3) := by decide +kernel
theorem d_M_grainOf_32 : decode b_M_grainOf 32 = .ok (.iload_n 2, 1) := by decide +kernel
theorem d_M_grainOf_33 : decode b_M_grainOf 33 = .ok (.iaload, 1) := by decide +kernel
theorem d_M_grainOf_34 : decode b_M_grainOf 34 = .ok (.istore_n 3, 1) := by decide +kernel
theorem d_M_grainOf_35 : decode b_M_grainOf 35 = .ok (.iload_n 1, 1) := by decide +kernel
theorem d_M_grainOf_36 : decode b_M_grainOf 36 = .ok (.iload_n 3, 1) := by decide +kernel
theorem d_M_grainOf_37 : decode b_M_grainOf 37 = .ok (.iconst 1, 1) := by decide +kernel
theorem d_M_grainOf_38 : decode b_M_grainOf 38 = .ok (.if_icmp .ne (12), 3) := by decide +kernel
theorem d_M_grainOf_41 : decode b_M_grainOf 41 = .ok (.aload_n 0, 1) := by decide +kernel
theorem d_M_grainOf_42 : decode b_M_grainOf 42 = .ok (.getfield 31, 3) := by decide +kernel
theorem d_M_grainOf_45 : decode b_M_grainOf 45 = .ok (.iload_n 2, 1) := by decide +kernel
theorem d_M_grainOf_46 : decode b_M_grainOf 46 = .ok (.iaload, 1) := by decide +kernel
theorem d_M_grainOf_47 : decode b_M_grainOf 47 = .ok (.goto (44), 3) := by decide +kernel
theorem d_M_grainOf_50 : decode b_M_grainOf 50 = .ok (.iload_n 3, 1) := by decide +kernel
theorem d_M_grainOf_51 : decode b_M_grainOf 51 = .ok (.iconst 4, 1) := by decide +kernel
theorem d_M_grainOf_52 : decode b_M_grainOf 52 = .ok (.if_icmp .eq (8), 3) := by decide +kernel
theorem d_M_grainOf_55 : decode b_M_grainOf 55 = .ok (.iload_n 3, 1) := by decide +kernel
theorem d_M_grainOf_56 : decode b_M_grainOf 56 = .ok (.iconst 5, 1) := by decide +kernel
theorem d_M_grainOf_57 : decode b_M_grainOf 57 = .ok (.if_icmp .ne (12), 3) := by decide +kernel
theorem d_M_grainOf_60 : decode b_M_grainOf 60 = .ok (.aload_n 0, 1) := by decide +kernel
theorem d_M_grainOf_61 : decode b_M_grainOf 61 = .ok (.getfield 16, 3) := by decide +kernel
theorem d_M_grainOf_64 : decode b_M_grainOf 64 = .ok (.iload_n 2, 1) := by decide +kernel
theorem d_M_grainOf_65 : decode b_M_grainOf 65 = .ok (.iaload, 1) := by decide +kernel
theorem d_M_grainOf_66 : decode b_M_grainOf 66 = .ok (.goto (25), 3) := by decide +kernel
theorem d_M_grainOf_69 : decode b_M_grainOf 69 = .ok (.iload_n 3, 1) := by decide +kernel
theorem d_M_grainOf_70 : decode b_M_grainOf 70 = .ok (.bipush (6), 2) := by decide +kernel
theorem d_M_grainOf_72 : decode b_M_grainOf 72 = .ok (.if_icmp .eq (9), 3) := by decide +kernel
theorem d_M_grainOf_75 : decode b_M_grainOf 75 = .ok (.iload_n 3, 1) := by decide +kernel
theorem d_M_grainOf_76 : decode b_M_grainOf 76 = .ok (.bipush (9), 2) := by decide +kernel
theorem d_M_grainOf_78 : decode b_M_grainOf 78 = .ok (.if_icmp .ne (12), 3) := by decide +kernel
theorem d_M_grainOf_81 : decode b_M_grainOf 81 = .ok (.aload_n 0, 1) := by decide +kernel
theorem d_M_grainOf_82 : decode b_M_grainOf 82 = .ok (.getfield 19, 3) := by decide +kernel
theorem d_M_grainOf_85 : decode b_M_grainOf 85 = .ok (.iload_n 2, 1) := by decide +kernel
theorem d_M_grainOf_86 : decode b_M_grainOf 86 = .ok (.iaload, 1) := by decide +kernel
theorem d_M_grainOf_87 : decode b_M_grainOf 87 = .ok (.goto (4), 3) := by decide +kernel
theorem d_M_grainOf_90 : decode b_M_grainOf 90 = .ok (.iconst 1, 1) := by decide +kernel
theorem d_M_grainOf_91 : decode b_M_grainOf 91 = .ok (.imul, 1) := by decide +kernel
theorem d_M_grainOf_92 : decode b_M_grainOf 92 = .ok (.istore_n 1, 1) := by decide +kernel
theorem d_M_grainOf_93 : decode b_M_grainOf 93 = .ok (.iinc 2 (1), 3) := by decide +kernel
theorem d_M_grainOf_96 : decode b_M_grainOf 96 = .ok (.goto (-90), 3) := by decide +kernel
theorem d_M_grainOf_99 : decode b_M_grainOf 99 = .ok (.iload_n 1, 1) := by decide +kernel
theorem d_M_grainOf_100 : decode b_M_grainOf 100 = .ok (.ireturn, 1) := by decide +kernel
theorem d_M_define_0 : decode b_M_define 0 = .ok (.iload_n 1, 1) := by decide +kernel
theorem d_M_define_1 : decode b_M_define 1 = .ok (.ifCond .lt (9), 3) := by decide +kernel
theorem d_M_define_4 : decode b_M_define 4 = .ok (.iload_n 1, 1) := by decide +kernel
theorem d_M_define_5 : decode b_M_define 5 = .ok (.bipush (7), 2) := by decide +kernel
theorem d_M_define_7 : decode b_M_define 7 = .ok (.if_icmp .le (5), 3) := by decide +kernel
theorem d_M_define_10 : decode b_M_define 10 = .ok (.iconst (-1), 1) := by decide +kernel
theorem d_M_define_11 : decode b_M_define 11 = .ok (.ireturn, 1) := by decide +kernel
theorem d_M_define_12 : decode b_M_define 12 = .ok (.aload_n 0, 1) := by decide +kernel
theorem d_M_define_13 : decode b_M_define 13 = .ok (.iconst 0, 1) := by decide +kernel
theorem d_M_define_14 : decode b_M_define 14 = .ok (.putfield 161, 3) := by decide +kernel
theorem d_M_define_17 : decode b_M_define 17 = .ok (.aload_n 0, 1) := by decide +kernel
theorem d_M_define_18 : decode b_M_define 18 = .ok (.iconst 0, 1) := by decide +kernel
theorem d_M_define_19 : decode b_M_define 19 = .ok (.putfield 164, 3) := by decide +kernel
theorem d_M_define_22 : decode b_M_define 22 = .ok (.aload_n 0, 1) := by decide +kernel
theorem d_M_define_23 : decode b_M_define 23 = .ok (.iconst 0, 1) := by decide +kernel
theorem d_M_define_24 : decode b_M_define 24 = .ok (.putfield 167, 3) := by decide +kernel
theorem d_M_define_27 : decode b_M_define 27 = .ok (.aload_n 0, 1) := by decide +kernel
theorem d_M_define_28 : decode b_M_define 28 = .ok (.invokevirtual 170, 3) := by decide +kernel
theorem d_M_define_31 : decode b_M_define 31 = .ok (.istore_n 2, 1) := by decide +kernel
theorem d_M_define_32 : decode b_M_define 32 = .ok (.aload_n 0, 1) := by decide +kernel
theorem d_M_define_33 : decode b_M_define 33 = .ok (.iconst 0, 1) := by decide +kernel
theorem d_M_define_34 : decode b_M_define 34 = .ok (.putfield 120, 3) := by decide +kernel
theorem d_M_define_37 : decode b_M_define 37 = .ok (.iload_n 2, 1) := by decide +kernel
theorem d_M_define_38 : decode b_M_define 38 = .ok (.ifCond .lt (8), 3) := by decide +kernel
theorem d_M_define_41 : decode b_M_define 41 = .ok (.bipush (-100), 2) := by decide +kernel
theorem d_M_define_43 : decode b_M_define 43 = .ok (.iload_n 2, 1) := by decide +kernel
theorem d_M_define_44 : decode b_M_define 44 = .ok (.isub, 1) := by decide +kernel
theorem d_M_define_45 : decode b_M_define 45 = .ok (.ireturn, 1) := by decide +kernel
theorem d_M_define_46 : decode b_M_define 46 = .ok (.aload_n 0, 1) := by decide +kernel
theorem d_M_define_47 : decode b_M_define 47 = .ok (.invokevirtual 174, 3) := by decide +kernel
theorem d_M_define_50 : decode b_M_define 50 = .ok (.istore_n 3, 1) := by decide +kernel
theorem d_M_define_51 : decode b_M_define 51 = .ok (.iload_n 3, 1) := by decide +kernel
theorem d_M_define_52 : decode b_M_define 52 = .ok (.sipush (5040), 3) := by decide +kernel
theorem d_M_define_55 : decode b_M_define 55 = .ok (.if_icmp .le (6), 3) := by decide +kernel
theorem d_M_define_58 : decode b_M_define 58 = .ok (.bipush (-3), 2) := by decide +kernel
theorem d_M_define_60 : decode b_M_define 60 = .ok (.ireturn, 1) := by decide +kernel
theorem d_M_define_61 : decode b_M_define 61 = .ok (.iconst 0, 1) := by decide +kernel
theorem d_M_define_62 : decode b_M_define 62 = .ok (.istore 4, 2) := by decide +kernel
theorem d_M_define_64 : decode b_M_define 64 = .ok (.iload 4, 2) := by decide +kernel
theorem d_M_define_66 : decode b_M_define 66 = .ok (.aload_n 0, 1) := by decide +kernel
theorem d_M_define_67 : decode b_M_define 67 = .ok (.getfield 37, 3) := by decide +kernel
theorem d_M_define_70 : decode b_M_define 70 = .ok (.bipush (8), 2) := by decide +kernel
theorem d_M_define_72 : decode b_M_define 72 = .ok (.iaload, 1) := by decide +kernel
theorem d_M_define_73 : decode b_M_define 73 = .ok (.if_icmp .ge (170), 3) := by decide +kernel
theorem d_M_define_76 : decode b_M_define 76 = .ok (.aload_n 0, 1) := by decide +kernel
theorem d_M_define_77 : decode b_M_define 77 = .ok (.getfield 13, 3) := by decide +kernel
theorem d_M_define_80 : decode b_M_define 80 = .ok (.bipush (48), 2) := by decide +kernel
theorem d_M_define_82 : decode b_M_define 82 = .ok (.iload_n 1, 1) := by decide +kernel
theorem d_M_define_83 : decode b_M_define 83 = .ok (.imul, 1) := by decide +kernel
theorem d_M_define_84 : decode b_M_define 84 = .ok (.iload 4, 2) := by decide +kernel
theorem d_M_define_86 : decode b_M_define 86 = .ok (.iadd, 1) := by decide +kernel
theorem d_M_define_87 : decode b_M_define 87 = .ok (.aload_n 0, 1) := by decide +kernel
theorem d_M_define_88 : decode b_M_define 88 = .ok (.getfield 13, 3) := by decide +kernel
theorem d_M_define_91 : decode b_M_define 91 = .ok (.sipush (384), 3) := by decide +kernel
theorem d_M_define_94 : decode b_M_define 94 = .ok (.iload 4, 2) := by decide +kernel
theorem d_M_define_96 : decode b_M_define 96 = .ok (.iadd, 1) := by decide +kernel
theorem d_M_define_97 : decode b_M_define 97 = .ok (.iaload, 1) := by decide +kernel
theorem d_M_define_98 : decode b_M_define 98 = .ok (.iastore, 1) := by decide +kernel
theorem d_M_define_99 : decode b_M_define 99 = .ok (.aload_n 0, 1) := by decide +kernel
theorem d_M_define_100 : decode b_M_define 100 = .ok (.getfield 16, 3) := by decide +kernel
theorem d_M_define_103 : decode b_M_define 103 = .ok (.bipush (48), 2) := by decide +kernel
theorem d_M_define_105 : decode b_M_define 105 = .ok (.iload_n 1, 1) := by decide +kernel
theorem d_M_define_106 : decode b_M_define 106 = .ok (.imul, 1) := by decide +kernel
theorem d_M_define_107 : decode b_M_define 107 = .ok (.iload 4, 2) := by decide +kernel
theorem d_M_define_109 : decode b_M_define 109 = .ok (.iadd, 1) := by decide +kernel
theorem d_M_define_110 : decode b_M_define 110 = .ok (.aload_n 0, 1) := by decide +kernel
theorem d_M_define_111 : decode b_M_define 111 = .ok (.getfield 16, 3) := by decide +kernel
theorem d_M_define_114 : decode b_M_define 114 = .ok (.sipush (384), 3) := by decide +kernel
theorem d_M_define_117 : decode b_M_define 117 = .ok (.iload 4, 2) := by decide +kernel
theorem d_M_define_119 : decode b_M_define 119 = .ok (.iadd, 1) := by decide +kernel
theorem d_M_define_120 : decode b_M_define 120 = .ok (.iaload, 1) := by decide +kernel
theorem d_M_define_121 : decode b_M_define 121 = .ok (.iastore, 1) := by decide +kernel
theorem d_M_define_122 : decode b_M_define 122 = .ok (.aload_n 0, 1) := by decide +kernel
theorem d_M_define_123 : decode b_M_define 123 = .ok (.getfield 19, 3) := by decide +kernel
theorem d_M_define_126 : decode b_M_define 126 = .ok (.bipush (48), 2) := by decide +kernel
theorem d_M_define_128 : decode b_M_define 128 = .ok (.iload_n 1, 1) := by decide +kernel
theorem d_M_define_129 : decode b_M_define 129 = .ok (.imul, 1) := by decide +kernel
theorem d_M_define_130 : decode b_M_define 130 = .ok (.iload 4, 2) := by decide +kernel
theorem d_M_define_132 : decode b_M_define 132 = .ok (.iadd, 1) := by decide +kernel
theorem d_M_define_133 : decode b_M_define 133 = .ok (.aload_n 0, 1) := by decide +kernel
theorem d_M_define_134 : decode b_M_define 134 = .ok (.getfield 19, 3) := by decide +kernel
theorem d_M_define_137 : decode b_M_define 137 = .ok (.sipush (384), 3) := by decide +kernel
theorem d_M_define_140 : decode b_M_define 140 = .ok (.iload 4, 2) := by decide +kernel
theorem d_M_define_142 : decode b_M_define 142 = .ok (.iadd, 1) := by decide +kernel
theorem d_M_define_143 : decode b_M_define 143 = .ok (.iaload, 1) := by decide +kernel
theorem d_M_define_144 : decode b_M_define 144 = .ok (.iastore, 1) := by decide +kernel
theorem d_M_define_145 : decode b_M_define 145 = .ok (.aload_n 0, 1) := by decide +kernel
theorem d_M_define_146 : decode b_M_define 146 = .ok (.getfield 22, 3) := by decide +kernel
theorem d_M_define_149 : decode b_M_define 149 = .ok (.bipush (48), 2) := by decide +kernel
theorem d_M_define_151 : decode b_M_define 151 = .ok (.iload_n 1, 1) := by decide +kernel
theorem d_M_define_152 : decode b_M_define 152 = .ok (.imul, 1) := by decide +kernel
theorem d_M_define_153 : decode b_M_define 153 = .ok (.iload 4, 2) := by decide +kernel
theorem d_M_define_155 : decode b_M_define 155 = .ok (.iadd, 1) := by decide +kernel
theorem d_M_define_156 : decode b_M_define 156 = .ok (.aload_n 0, 1) := by decide +kernel
theorem d_M_define_157 : decode b_M_define 157 = .ok (.getfield 22, 3) := by decide +kernel
theorem d_M_define_160 : decode b_M_define 160 = .ok (.sipush (384), 3) := by decide +kernel
theorem d_M_define_163 : decode b_M_define 163 = .ok (.iload 4, 2) := by decide +kernel
theorem d_M_define_165 : decode b_M_define 165 = .ok (.iadd, 1) := by decide +kernel
theorem d_M_define_166 : decode b_M_define 166 = .ok (.iaload, 1) := by decide +kernel
theorem d_M_define_167 : decode b_M_define 167 = .ok (.iastore, 1) := by decide +kernel
theorem d_M_define_168 : decode b_M_define 168 = .ok (.aload_n 0, 1) := by decide +kernel
theorem d_M_define_169 : decode b_M_define 169 = .ok (.getfield 25, 3) := by decide +kernel
theorem d_M_define_172 : decode b_M_define 172 = .ok (.bipush (48), 2) := by decide +kernel
theorem d_M_define_174 : decode b_M_define 174 = .ok (.iload_n 1, 1) := by decide +kernel
theorem d_M_define_175 : decode b_M_define 175 = .ok (.imul, 1) := by decide +kernel
theorem d_M_define_176 : decode b_M_define 176 = .ok (.iload 4, 2) := by decide +kernel
theorem d_M_define_178 : decode b_M_define 178 = .ok (.iadd, 1) := by decide +kernel
theorem d_M_define_179 : decode b_M_define 179 = .ok (.aload_n 0, 1) := by decide +kernel
theorem d_M_define_180 : decode b_M_define 180 = .ok (.getfield 25, 3) := by decide +kernel
theorem d_M_define_183 : decode b_M_define 183 = .ok (.sipush (384), 3) := by decide +kernel
theorem d_M_define_186 : decode b_M_define 186 = .ok (.iload 4, 2) := by decide +kernel
theorem d_M_define_188 : decode b_M_define 188 = .ok (.iadd, 1) := by decide +kernel
theorem d_M_define_189 : decode b_M_define 189 = .ok (.iaload, 1) := by decide +kernel
theorem d_M_define_190 : decode b_M_define 190 = .ok (.iastore, 1) := by decide +kernel
theorem d_M_define_191 : decode b_M_define 191 = .ok (.aload_n 0, 1) := by decide +kernel
theorem d_M_define_192 : decode b_M_define 192 = .ok (.getfield 28, 3) := by decide +kernel
theorem d_M_define_195 : decode b_M_define 195 = .ok (.bipush (48), 2) := by decide +kernel
theorem d_M_define_197 : decode b_M_define 197 = .ok (.iload_n 1, 1) := by decide +kernel
theorem d_M_define_198 : decode b_M_define 198 = .ok (.imul, 1) := by decide +kernel
theorem d_M_define_199 : decode b_M_define 199 = .ok (.iload 4, 2) := by decide +kernel
theorem d_M_define_201 : decode b_M_define 201 = .ok (.iadd, 1) := by decide +kernel
theorem d_M_define_202 : decode b_M_define 202 = .ok (.aload_n 0, 1) := by decide +kernel
theorem d_M_define_203 : decode b_M_define 203 = .ok (.getfield 28, 3) := by decide +kernel
theorem d_M_define_206 : decode b_M_define 206 = .ok (.sipush (384), 3) := by decide +kernel
theorem d_M_define_209 : decode b_M_define 209 = .ok (.iload 4, 2) := by decide +kernel
theorem d_M_define_211 : decode b_M_define 211 = .ok (.iadd, 1) := by decide +kernel
theorem d_M_define_212 : decode b_M_define 212 = .ok (.iaload, 1) := by decide +kernel
theorem d_M_define_213 : decode b_M_define 213 = .ok (.iastore, 1) := by decide +kernel
theorem d_M_define_214 : decode b_M_define 214 = .ok (.aload_n 0, 1) := by decide +kernel
theorem d_M_define_215 : decode b_M_define 215 = .ok (.getfield 31, 3) := by decide +kernel
theorem d_M_define_218 : decode b_M_define 218 = .ok (.bipush (48), 2) := by decide +kernel
theorem d_M_define_220 : decode b_M_define 220 = .ok (.iload_n 1, 1) := by decide +kernel
theorem d_M_define_221 : decode b_M_define 221 = .ok (.imul, 1) := by decide +kernel
theorem d_M_define_222 : decode b_M_define 222 = .ok (.iload 4, 2) := by decide +kernel
theorem d_M_define_224 : decode b_M_define 224 = .ok (.iadd, 1) := by decide +kernel
theorem d_M_define_225 : decode b_M_define 225 = .ok (.aload_n 0, 1) := by decide +kernel
theorem d_M_define_226 : decode b_M_define 226 = .ok (.getfield 31, 3) := by decide +kernel
theorem d_M_define_229 : decode b_M_define 229 = .ok (.sipush (384), 3) := by decide +kernel
theorem d_M_define_232 : decode b_M_define 232 = .ok (.iload 4, 2) := by decide +kernel
theorem d_M_define_234 : decode b_M_define 234 = .ok (.iadd, 1) := by decide +kernel
theorem d_M_define_235 : decode b_M_define 235 = .ok (.iaload, 1) := by decide +kernel
theorem d_M_define_236 : decode b_M_define 236 = .ok (.iastore, 1) := by decide +kernel
theorem d_M_define_237 : decode b_M_define 237 = .ok (.iinc 4 (1), 3) := by decide +kernel
theorem d_M_define_240 : decode b_M_define 240 = .ok (.goto (-176), 3) := by decide +kernel
theorem d_M_define_243 : decode b_M_define 243 = .ok (.aload_n 0, 1) := by decide +kernel
theorem d_M_define_244 : decode b_M_define 244 = .ok (.getfield 34, 3) := by decide +kernel
theorem d_M_define_247 : decode b_M_define 247 = .ok (.iload_n 1, 1) := by decide +kernel
theorem d_M_define_248 : decode b_M_define 248 = .ok (.aload_n 0, 1) := by decide +kernel
theorem d_M_define_249 : decode b_M_define 249 = .ok (.getfield 34, 3) := by decide +kernel
theorem d_M_define_252 : decode b_M_define 252 = .ok (.bipush (8), 2) := by decide +kernel
theorem d_M_define_254 : decode b_M_define 254 = .ok (.iaload, 1) := by decide +kernel
theorem d_M_define_255 : decode b_M_define 255 = .ok (.iastore, 1) := by decide +kernel
theorem d_M_define_256 : decode b_M_define 256 = .ok (.aload_n 0, 1) := by decide +kernel
theorem d_M_define_257 : decode b_M_define 257 = .ok (.getfield 37, 3) := by decide +kernel
theorem d_M_define_260 : decode b_M_define 260 = .ok (.iload_n 1, 1) := by decide +kernel
theorem d_M_define_261 : decode b_M_define 261 = .ok (.aload_n 0, 1) := by decide +kernel
theorem d_M_define_262 : decode b_M_define 262 = .ok (.getfield 37, 3) := by decide +kernel
theorem d_M_define_265 : decode b_M_define 265 = .ok (.bipush (8), 2) := by decide +kernel
theorem d_M_define_267 : decode b_M_define 267 = .ok (.iaload, 1) := by decide +kernel
theorem d_M_define_268 : decode b_M_define 268 = .ok (.iastore, 1) := by decide +kernel
theorem d_M_define_269 : decode b_M_define 269 = .ok (.aload_n 0, 1) := by decide +kernel
theorem d_M_define_270 : decode b_M_define 270 = .ok (.getfield 40, 3) := by decide +kernel
theorem d_M_define_273 : decode b_M_define 273 = .ok (.iload_n 1, 1) := by decide +kernel
theorem d_M_define_274 : decode b_M_define 274 = .ok (.iload_n 3, 1) := by decide +kernel
theorem d_M_define_275 : decode b_M_define 275 = .ok (.iastore, 1) := by decide +kernel
theorem d_M_define_276 : decode b_M_define 276 = .ok (.iload_n 3, 1) := by decide +kernel
theorem d_M_define_277 : decode b_M_define 277 = .ok (.ireturn, 1) := by decide +kernel
