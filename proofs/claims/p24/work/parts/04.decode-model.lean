theorem dX7_init_0 : decode cX7_init 0 = .ok (.aload_n 0, 1) := by decide +kernel
theorem dX7_init_1 : decode cX7_init 1 = .ok (.invokespecial 1, 3) := by decide +kernel
theorem dX7_init_4 : decode cX7_init 4 = .ok (.aload_n 0, 1) := by decide +kernel
theorem dX7_init_5 : decode cX7_init 5 = .ok (.bipush 40, 2) := by decide +kernel
theorem dX7_init_7 : decode cX7_init 7 = .ok (.newarray .boolean, 2) := by decide +kernel
theorem dX7_init_9 : decode cX7_init 9 = .ok (.putfield 7, 3) := by decide +kernel
theorem dX7_init_12 : decode cX7_init 12 = .ok (.aload_n 0, 1) := by decide +kernel
theorem dX7_init_13 : decode cX7_init 13 = .ok (.bipush 40, 2) := by decide +kernel
theorem dX7_init_15 : decode cX7_init 15 = .ok (.newarray .boolean, 2) := by decide +kernel
theorem dX7_init_17 : decode cX7_init 17 = .ok (.putfield 13, 3) := by decide +kernel
theorem dX7_init_20 : decode cX7_init 20 = .ok (.aload_n 0, 1) := by decide +kernel
theorem dX7_init_21 : decode cX7_init 21 = .ok (.bipush 40, 2) := by decide +kernel
theorem dX7_init_23 : decode cX7_init 23 = .ok (.newarray .int, 2) := by decide +kernel
theorem dX7_init_25 : decode cX7_init 25 = .ok (.putfield 16, 3) := by decide +kernel
theorem dX7_init_28 : decode cX7_init 28 = .ok (.aload_n 0, 1) := by decide +kernel
theorem dX7_init_29 : decode cX7_init 29 = .ok (.bipush 40, 2) := by decide +kernel
theorem dX7_init_31 : decode cX7_init 31 = .ok (.newarray .int, 2) := by decide +kernel
theorem dX7_init_33 : decode cX7_init 33 = .ok (.putfield 20, 3) := by decide +kernel
theorem dX7_init_36 : decode cX7_init 36 = .ok (.aload_n 0, 1) := by decide +kernel
theorem dX7_init_37 : decode cX7_init 37 = .ok (.sipush 160, 3) := by decide +kernel
theorem dX7_init_40 : decode cX7_init 40 = .ok (.newarray .int, 2) := by decide +kernel
theorem dX7_init_42 : decode cX7_init 42 = .ok (.putfield 23, 3) := by decide +kernel
theorem dX7_init_45 : decode cX7_init 45 = .ok (.aload_n 0, 1) := by decide +kernel
theorem dX7_init_46 : decode cX7_init 46 = .ok (.bipush 40, 2) := by decide +kernel
theorem dX7_init_48 : decode cX7_init 48 = .ok (.newarray .int, 2) := by decide +kernel
theorem dX7_init_50 : decode cX7_init 50 = .ok (.putfield 26, 3) := by decide +kernel
theorem dX7_init_53 : decode cX7_init 53 = .ok (.aload_n 0, 1) := by decide +kernel
theorem dX7_init_54 : decode cX7_init 54 = .ok (.sipush 240, 3) := by decide +kernel
theorem dX7_init_57 : decode cX7_init 57 = .ok (.newarray .int, 2) := by decide +kernel
theorem dX7_init_59 : decode cX7_init 59 = .ok (.putfield 29, 3) := by decide +kernel
theorem dX7_init_62 : decode cX7_init 62 = .ok (.aload_n 0, 1) := by decide +kernel
theorem dX7_init_63 : decode cX7_init 63 = .ok (.sipush 240, 3) := by decide +kernel
theorem dX7_init_66 : decode cX7_init 66 = .ok (.newarray .boolean, 2) := by decide +kernel
theorem dX7_init_68 : decode cX7_init 68 = .ok (.putfield 32, 3) := by decide +kernel
theorem dX7_init_71 : decode cX7_init 71 = .ok (.aload_n 0, 1) := by decide +kernel
theorem dX7_init_72 : decode cX7_init 72 = .ok (.sipush 240, 3) := by decide +kernel
theorem dX7_init_75 : decode cX7_init 75 = .ok (.newarray .int, 2) := by decide +kernel
theorem dX7_init_77 : decode cX7_init 77 = .ok (.putfield 35, 3) := by decide +kernel
theorem dX7_init_80 : decode cX7_init 80 = .ok (.aload_n 0, 1) := by decide +kernel
theorem dX7_init_81 : decode cX7_init 81 = .ok (.bipush 40, 2) := by decide +kernel
theorem dX7_init_83 : decode cX7_init 83 = .ok (.newarray .int, 2) := by decide +kernel
theorem dX7_init_85 : decode cX7_init 85 = .ok (.putfield 38, 3) := by decide +kernel
theorem dX7_init_88 : decode cX7_init 88 = .ok (.aload_n 0, 1) := by decide +kernel
theorem dX7_init_89 : decode cX7_init 89 = .ok (.sipush 160, 3) := by decide +kernel
theorem dX7_init_92 : decode cX7_init 92 = .ok (.newarray .int, 2) := by decide +kernel
theorem dX7_init_94 : decode cX7_init 94 = .ok (.putfield 41, 3) := by decide +kernel
theorem dX7_init_97 : decode cX7_init 97 = .ok (.aload_n 0, 1) := by decide +kernel
theorem dX7_init_98 : decode cX7_init 98 = .ok (.sipush 200, 3) := by decide +kernel
theorem dX7_init_101 : decode cX7_init 101 = .ok (.newarray .int, 2) := by decide +kernel
theorem dX7_init_103 : decode cX7_init 103 = .ok (.putfield 44, 3) := by decide +kernel
theorem dX7_init_106 : decode cX7_init 106 = .ok (.aload_n 0, 1) := by decide +kernel
theorem dX7_init_107 : decode cX7_init 107 = .ok (.sipush 2400, 3) := by decide +kernel
theorem dX7_init_110 : decode cX7_init 110 = .ok (.newarray .int, 2) := by decide +kernel
theorem dX7_init_112 : decode cX7_init 112 = .ok (.putfield 47, 3) := by decide +kernel
theorem dX7_init_115 : decode cX7_init 115 = .ok (.aload_n 0, 1) := by decide +kernel
theorem dX7_init_116 : decode cX7_init 116 = .ok (.sipush 2400, 3) := by decide +kernel
theorem dX7_init_119 : decode cX7_init 119 = .ok (.newarray .int, 2) := by decide +kernel
theorem dX7_init_121 : decode cX7_init 121 = .ok (.putfield 50, 3) := by decide +kernel
theorem dX7_init_124 : decode cX7_init 124 = .ok (.aload_n 0, 1) := by decide +kernel
theorem dX7_init_125 : decode cX7_init 125 = .ok (.sipush 2400, 3) := by decide +kernel
theorem dX7_init_128 : decode cX7_init 128 = .ok (.newarray .int, 2) := by decide +kernel
theorem dX7_init_130 : decode cX7_init 130 = .ok (.putfield 53, 3) := by decide +kernel
theorem dX7_init_133 : decode cX7_init 133 = .ok (.aload_n 0, 1) := by decide +kernel
theorem dX7_init_134 : decode cX7_init 134 = .ok (.sipush 2400, 3) := by decide +kernel
theorem dX7_init_137 : decode cX7_init 137 = .ok (.newarray .int, 2) := by decide +kernel
theorem dX7_init_139 : decode cX7_init 139 = .ok (.putfield 56, 3) := by decide +kernel
theorem dX7_init_142 : decode cX7_init 142 = .ok (.aload_n 0, 1) := by decide +kernel
theorem dX7_init_143 : decode cX7_init 143 = .ok (.sipush 400, 3) := by decide +kernel
theorem dX7_init_146 : decode cX7_init 146 = .ok (.newarray .int, 2) := by decide +kernel
theorem dX7_init_148 : decode cX7_init 148 = .ok (.putfield 59, 3) := by decide +kernel
theorem dX7_init_151 : decode cX7_init 151 = .ok (.aload_n 0, 1) := by decide +kernel
theorem dX7_init_152 : decode cX7_init 152 = .ok (.bipush 40, 2) := by decide +kernel
theorem dX7_init_154 : decode cX7_init 154 = .ok (.newarray .boolean, 2) := by decide +kernel
theorem dX7_init_156 : decode cX7_init 156 = .ok (.putfield 62, 3) := by decide +kernel
theorem dX7_init_159 : decode cX7_init 159 = .ok (.aload_n 0, 1) := by decide +kernel
theorem dX7_init_160 : decode cX7_init 160 = .ok (.bipush 41, 2) := by decide +kernel
theorem dX7_init_162 : decode cX7_init 162 = .ok (.newarray .int, 2) := by decide +kernel
theorem dX7_init_164 : decode cX7_init 164 = .ok (.putfield 65, 3) := by decide +kernel
theorem dX7_init_167 : decode cX7_init 167 = .ok (.aload_n 0, 1) := by decide +kernel
theorem dX7_init_168 : decode cX7_init 168 = .ok (.bipush 40, 2) := by decide +kernel
theorem dX7_init_170 : decode cX7_init 170 = .ok (.newarray .boolean, 2) := by decide +kernel
theorem dX7_init_172 : decode cX7_init 172 = .ok (.putfield 68, 3) := by decide +kernel
theorem dX7_init_175 : decode cX7_init 175 = .ok (.aload_n 0, 1) := by decide +kernel
theorem dX7_init_176 : decode cX7_init 176 = .ok (.sipush 400, 3) := by decide +kernel
theorem dX7_init_179 : decode cX7_init 179 = .ok (.newarray .boolean, 2) := by decide +kernel
theorem dX7_init_181 : decode cX7_init 181 = .ok (.putfield 71, 3) := by decide +kernel
theorem dX7_init_184 : decode cX7_init 184 = .ok (.aload_n 0, 1) := by decide +kernel
theorem dX7_init_185 : decode cX7_init 185 = .ok (.bipush 60, 2) := by decide +kernel
theorem dX7_init_187 : decode cX7_init 187 = .ok (.newarray .int, 2) := by decide +kernel
theorem dX7_init_189 : decode cX7_init 189 = .ok (.putfield 74, 3) := by decide +kernel
theorem dX7_init_192 : decode cX7_init 192 = .ok (.aload_n 0, 1) := by decide +kernel
theorem dX7_init_193 : decode cX7_init 193 = .ok (.bipush 40, 2) := by decide +kernel
theorem dX7_init_195 : decode cX7_init 195 = .ok (.newarray .boolean, 2) := by decide +kernel
theorem dX7_init_197 : decode cX7_init 197 = .ok (.putfield 77, 3) := by decide +kernel
theorem dX7_init_200 : decode cX7_init 200 = .ok (.aload_n 0, 1) := by decide +kernel
theorem dX7_init_201 : decode cX7_init 201 = .ok (.sipush 1700, 3) := by decide +kernel
theorem dX7_init_204 : decode cX7_init 204 = .ok (.newarray .int, 2) := by decide +kernel
theorem dX7_init_206 : decode cX7_init 206 = .ok (.putfield 80, 3) := by decide +kernel
theorem dX7_init_209 : decode cX7_init 209 = .ok (.aload_n 0, 1) := by decide +kernel
theorem dX7_init_210 : decode cX7_init 210 = .ok (.sipush 520, 3) := by decide +kernel
theorem dX7_init_213 : decode cX7_init 213 = .ok (.newarray .int, 2) := by decide +kernel
theorem dX7_init_215 : decode cX7_init 215 = .ok (.putfield 83, 3) := by decide +kernel
theorem dX7_init_218 : decode cX7_init 218 = .ok (.aload_n 0, 1) := by decide +kernel
theorem dX7_init_219 : decode cX7_init 219 = .ok (.sipush 3120, 3) := by decide +kernel
theorem dX7_init_222 : decode cX7_init 222 = .ok (.newarray .int, 2) := by decide +kernel
theorem dX7_init_224 : decode cX7_init 224 = .ok (.putfield 86, 3) := by decide +kernel
theorem dX7_init_227 : decode cX7_init 227 = .ok (.aload_n 0, 1) := by decide +kernel
theorem dX7_init_228 : decode cX7_init 228 = .ok (.bipush 13, 2) := by decide +kernel
theorem dX7_init_230 : decode cX7_init 230 = .ok (.newarray .int, 2) := by decide +kernel
theorem dX7_init_232 : decode cX7_init 232 = .ok (.putfield 89, 3) := by decide +kernel
theorem dX7_init_235 : decode cX7_init 235 = .ok (.aload_n 0, 1) := by decide +kernel
theorem dX7_init_236 : decode cX7_init 236 = .ok (.sipush 3900, 3) := by decide +kernel
theorem dX7_init_239 : decode cX7_init 239 = .ok (.newarray .int, 2) := by decide +kernel
theorem dX7_init_241 : decode cX7_init 241 = .ok (.putfield 92, 3) := by decide +kernel
theorem dX7_init_244 : decode cX7_init 244 = .ok (.aload_n 0, 1) := by decide +kernel
theorem dX7_init_245 : decode cX7_init 245 = .ok (.bipush 13, 2) := by decide +kernel
theorem dX7_init_247 : decode cX7_init 247 = .ok (.newarray .int, 2) := by decide +kernel
theorem dX7_init_249 : decode cX7_init 249 = .ok (.putfield 95, 3) := by decide +kernel
theorem dX7_init_252 : decode cX7_init 252 = .ok (.aload_n 0, 1) := by decide +kernel
theorem dX7_init_253 : decode cX7_init 253 = .ok (.sipush 520, 3) := by decide +kernel
theorem dX7_init_256 : decode cX7_init 256 = .ok (.newarray .int, 2) := by decide +kernel
theorem dX7_init_258 : decode cX7_init 258 = .ok (.putfield 98, 3) := by decide +kernel
theorem dX7_init_261 : decode cX7_init 261 = .ok (.aload_n 0, 1) := by decide +kernel
theorem dX7_init_262 : decode cX7_init 262 = .ok (.bipush 12, 2) := by decide +kernel
theorem dX7_init_264 : decode cX7_init 264 = .ok (.newarray .int, 2) := by decide +kernel
theorem dX7_init_266 : decode cX7_init 266 = .ok (.putfield 101, 3) := by decide +kernel
theorem dX7_init_269 : decode cX7_init 269 = .ok (.aload_n 0, 1) := by decide +kernel
theorem dX7_init_270 : decode cX7_init 270 = .ok (.bipush 12, 2) := by decide +kernel
theorem dX7_init_272 : decode cX7_init 272 = .ok (.newarray .int, 2) := by decide +kernel
theorem dX7_init_274 : decode cX7_init 274 = .ok (.putfield 104, 3) := by decide +kernel
theorem dX7_init_277 : decode cX7_init 277 = .ok (.aload_n 0, 1) := by decide +kernel
theorem dX7_init_278 : decode cX7_init 278 = .ok (.bipush 48, 2) := by decide +kernel
theorem dX7_init_280 : decode cX7_init 280 = .ok (.newarray .int, 2) := by decide +kernel
theorem dX7_init_282 : decode cX7_init 282 = .ok (.putfield 107, 3) := by decide +kernel
theorem dX7_init_285 : decode cX7_init 285 = .ok (.aload_n 0, 1) := by decide +kernel
theorem dX7_init_286 : decode cX7_init 286 = .ok (.bipush 100, 2) := by decide +kernel
theorem dX7_init_288 : decode cX7_init 288 = .ok (.newarray .boolean, 2) := by decide +kernel
theorem dX7_init_290 : decode cX7_init 290 = .ok (.putfield 110, 3) := by decide +kernel
theorem dX7_init_293 : decode cX7_init 293 = .ok (.aload_n 0, 1) := by decide +kernel
theorem dX7_init_294 : decode cX7_init 294 = .ok (.bipush 100, 2) := by decide +kernel
theorem dX7_init_296 : decode cX7_init 296 = .ok (.newarray .int, 2) := by decide +kernel
theorem dX7_init_298 : decode cX7_init 298 = .ok (.putfield 113, 3) := by decide +kernel
theorem dX7_init_301 : decode cX7_init 301 = .ok (.aload_n 0, 1) := by decide +kernel
theorem dX7_init_302 : decode cX7_init 302 = .ok (.bipush 100, 2) := by decide +kernel
theorem dX7_init_304 : decode cX7_init 304 = .ok (.newarray .int, 2) := by decide +kernel
theorem dX7_init_306 : decode cX7_init 306 = .ok (.putfield 116, 3) := by decide +kernel
theorem dX7_init_309 : decode cX7_init 309 = .ok (.aload_n 0, 1) := by decide +kernel
theorem dX7_init_310 : decode cX7_init 310 = .ok (.bipush 100, 2) := by decide +kernel
theorem dX7_init_312 : decode cX7_init 312 = .ok (.newarray .int, 2) := by decide +kernel
theorem dX7_init_314 : decode cX7_init 314 = .ok (.putfield 119, 3) := by decide +kernel
theorem dX7_init_317 : decode cX7_init 317 = .ok (.aload_n 0, 1) := by decide +kernel
theorem dX7_init_318 : decode cX7_init 318 = .ok (.bipush 100, 2) := by decide +kernel
theorem dX7_init_320 : decode cX7_init 320 = .ok (.newarray .boolean, 2) := by decide +kernel
theorem dX7_init_322 : decode cX7_init 322 = .ok (.putfield 122, 3) := by decide +kernel
theorem dX7_init_325 : decode cX7_init 325 = .ok (.aload_n 0, 1) := by decide +kernel
theorem dX7_init_326 : decode cX7_init 326 = .ok (.bipush 100, 2) := by decide +kernel
theorem dX7_init_328 : decode cX7_init 328 = .ok (.newarray .boolean, 2) := by decide +kernel
theorem dX7_init_330 : decode cX7_init 330 = .ok (.putfield 125, 3) := by decide +kernel
theorem dX7_init_333 : decode cX7_init 333 = .ok (.iconst 0, 1) := by decide +kernel
theorem dX7_init_334 : decode cX7_init 334 = .ok (.istore_n 1, 1) := by decide +kernel
theorem dX7_init_335 : decode cX7_init 335 = .ok (.iload_n 1, 1) := by decide +kernel
theorem dX7_init_336 : decode cX7_init 336 = .ok (.bipush 12, 2) := by decide +kernel
theorem dX7_init_338 : decode cX7_init 338 = .ok (.if_icmp .ge 25, 3) := by decide +kernel
theorem dX7_init_341 : decode cX7_init 341 = .ok (.aload_n 0, 1) := by decide +kernel
theorem dX7_init_342 : decode cX7_init 342 = .ok (.getfield 101, 3) := by decide +kernel
theorem dX7_init_345 : decode cX7_init 345 = .ok (.iload_n 1, 1) := by decide +kernel
theorem dX7_init_346 : decode cX7_init 346 = .ok (.bipush (-6), 2) := by decide +kernel
theorem dX7_init_348 : decode cX7_init 348 = .ok (.iastore, 1) := by decide +kernel
theorem dX7_init_349 : decode cX7_init 349 = .ok (.aload_n 0, 1) := by decide +kernel
theorem dX7_init_350 : decode cX7_init 350 = .ok (.getfield 104, 3) := by decide +kernel
theorem dX7_init_353 : decode cX7_init 353 = .ok (.iload_n 1, 1) := by decide +kernel
theorem dX7_init_354 : decode cX7_init 354 = .ok (.bipush (-6), 2) := by decide +kernel
theorem dX7_init_356 : decode cX7_init 356 = .ok (.iastore, 1) := by decide +kernel
theorem dX7_init_357 : decode cX7_init 357 = .ok (.iinc 1 1, 3) := by decide +kernel
theorem dX7_init_360 : decode cX7_init 360 = .ok (.goto (-25), 3) := by decide +kernel
theorem dX7_init_363 : decode cX7_init 363 = .ok (.return_, 1) := by decide +kernel
theorem dX7_in_0 : decode cX7_in 0 = .ok (.iload_n 0, 1) := by decide +kernel
theorem dX7_in_1 : decode cX7_in 1 = .ok (.iload_n 1, 1) := by decide +kernel
theorem dX7_in_2 : decode cX7_in 2 = .ok (.if_icmp .lt 12, 3) := by decide +kernel
theorem dX7_in_5 : decode cX7_in 5 = .ok (.iload_n 0, 1) := by decide +kernel
theorem dX7_in_6 : decode cX7_in 6 = .ok (.iload_n 2, 1) := by decide +kernel
theorem dX7_in_7 : decode cX7_in 7 = .ok (.if_icmp .gt 7, 3) := by decide +kernel
theorem dX7_in_10 : decode cX7_in 10 = .ok (.iconst 1, 1) := by decide +kernel
theorem dX7_in_11 : decode cX7_in 11 = .ok (.goto 4, 3) := by decide +kernel
theorem dX7_in_14 : decode cX7_in 14 = .ok (.iconst 0, 1) := by decide +kernel
theorem dX7_in_15 : decode cX7_in 15 = .ok (.ireturn, 1) := by decide +kernel
theorem dX7_isType_0 : decode cX7_isType 0 = .ok (.iload_n 1, 1) := by decide +kernel
theorem dX7_isType_1 : decode cX7_isType 1 = .ok (.iconst 0, 1) := by decide +kernel
theorem dX7_isType_2 : decode cX7_isType 2 = .ok (.aload_n 0, 1) := by decide +kernel
theorem dX7_isType_3 : decode cX7_isType 3 = .ok (.getfield 128, 3) := by decide +kernel
theorem dX7_isType_6 : decode cX7_isType 6 = .ok (.iconst 1, 1) := by decide +kernel
theorem dX7_isType_7 : decode cX7_isType 7 = .ok (.isub, 1) := by decide +kernel
theorem dX7_isType_8 : decode cX7_isType 8 = .ok (.invokestatic 132, 3) := by decide +kernel
theorem dX7_isType_11 : decode cX7_isType 11 = .ok (.ireturn, 1) := by decide +kernel
theorem dX7_make_0 : decode cX7_make 0 = .ok (.aload_n 0, 1) := by decide +kernel
theorem dX7_make_1 : decode cX7_make 1 = .ok (.getfield 7, 3) := by decide +kernel
theorem dX7_make_4 : decode cX7_make 4 = .ok (.aload_n 0, 1) := by decide +kernel
theorem dX7_make_5 : decode cX7_make 5 = .ok (.getfield 128, 3) := by decide +kernel
theorem dX7_make_8 : decode cX7_make 8 = .ok (.iload_n 1, 1) := by decide +kernel
theorem dX7_make_9 : decode cX7_make 9 = .ok (.bastore, 1) := by decide +kernel
theorem dX7_make_10 : decode cX7_make 10 = .ok (.aload_n 0, 1) := by decide +kernel
theorem dX7_make_11 : decode cX7_make 11 = .ok (.getfield 13, 3) := by decide +kernel
theorem dX7_make_14 : decode cX7_make 14 = .ok (.aload_n 0, 1) := by decide +kernel
theorem dX7_make_15 : decode cX7_make 15 = .ok (.getfield 128, 3) := by decide +kernel
theorem dX7_make_18 : decode cX7_make 18 = .ok (.iload_n 2, 1) := by decide +kernel
theorem dX7_make_19 : decode cX7_make 19 = .ok (.bastore, 1) := by decide +kernel
theorem dX7_make_20 : decode cX7_make 20 = .ok (.aload_n 0, 1) := by decide +kernel
theorem dX7_make_21 : decode cX7_make 21 = .ok (.getfield 16, 3) := by decide +kernel
theorem dX7_make_24 : decode cX7_make 24 = .ok (.aload_n 0, 1) := by decide +kernel
theorem dX7_make_25 : decode cX7_make 25 = .ok (.getfield 128, 3) := by decide +kernel
theorem dX7_make_28 : decode cX7_make 28 = .ok (.iload_n 3, 1) := by decide +kernel
theorem dX7_make_29 : decode cX7_make 29 = .ok (.iastore, 1) := by decide +kernel
theorem dX7_make_30 : decode cX7_make 30 = .ok (.aload_n 0, 1) := by decide +kernel
theorem dX7_make_31 : decode cX7_make 31 = .ok (.dup, 1) := by decide +kernel
theorem dX7_make_32 : decode cX7_make 32 = .ok (.getfield 128, 3) := by decide +kernel
theorem dX7_make_35 : decode cX7_make 35 = .ok (.iconst 1, 1) := by decide +kernel
theorem dX7_make_36 : decode cX7_make 36 = .ok (.iadd, 1) := by decide +kernel
theorem dX7_make_37 : decode cX7_make 37 = .ok (.putfield 128, 3) := by decide +kernel
theorem dX7_make_40 : decode cX7_make 40 = .ok (.aload_n 0, 1) := by decide +kernel
theorem dX7_make_41 : decode cX7_make 41 = .ok (.getfield 128, 3) := by decide +kernel
theorem dX7_make_44 : decode cX7_make 44 = .ok (.iconst 1, 1) := by decide +kernel
theorem dX7_make_45 : decode cX7_make 45 = .ok (.isub, 1) := by decide +kernel
theorem dX7_make_46 : decode cX7_make 46 = .ok (.ireturn, 1) := by decide +kernel
theorem dX7_cls_0 : decode cX7_cls 0 = .ok (.iload_n 1, 1) := by decide +kernel
theorem dX7_cls_1 : decode cX7_cls 1 = .ok (.iconst (-1), 1) := by decide +kernel
theorem dX7_cls_2 : decode cX7_cls 2 = .ok (.if_icmp .eq 13, 3) := by decide +kernel
theorem dX7_cls_5 : decode cX7_cls 5 = .ok (.aload_n 0, 1) := by decide +kernel
theorem dX7_cls_6 : decode cX7_cls 6 = .ok (.iload_n 1, 1) := by decide +kernel
theorem dX7_cls_7 : decode cX7_cls 7 = .ok (.invokevirtual 136, 3) := by decide +kernel
theorem dX7_cls_10 : decode cX7_cls 10 = .ok (.ifCond .ne 5, 3) := by decide +kernel
theorem dX7_cls_13 : decode cX7_cls 13 = .ok (.iconst (-1), 1) := by decide +kernel
theorem dX7_cls_14 : decode cX7_cls 14 = .ok (.ireturn, 1) := by decide +kernel
theorem dX7_cls_15 : decode cX7_cls 15 = .ok (.iload_n 1, 1) := by decide +kernel
theorem dX7_cls_16 : decode cX7_cls 16 = .ok (.iconst (-1), 1) := by decide +kernel
theorem dX7_cls_17 : decode cX7_cls 17 = .ok (.if_icmp .eq 15, 3) := by decide +kernel
theorem dX7_cls_20 : decode cX7_cls 20 = .ok (.aload_n 0, 1) := by decide +kernel
theorem dX7_cls_21 : decode cX7_cls 21 = .ok (.getfield 7, 3) := by decide +kernel
theorem dX7_cls_24 : decode cX7_cls 24 = .ok (.iload_n 1, 1) := by decide +kernel
theorem dX7_cls_25 : decode cX7_cls 25 = .ok (.baload, 1) := by decide +kernel
theorem dX7_cls_26 : decode cX7_cls 26 = .ok (.ifCond .eq 6, 3) := by decide +kernel
theorem dX7_cls_29 : decode cX7_cls 29 = .ok (.bipush (-2), 2) := by decide +kernel
theorem dX7_cls_31 : decode cX7_cls 31 = .ok (.ireturn, 1) := by decide +kernel
theorem dX7_cls_32 : decode cX7_cls 32 = .ok (.aload_n 0, 1) := by decide +kernel
theorem dX7_cls_33 : decode cX7_cls 33 = .ok (.getfield 140, 3) := by decide +kernel
theorem dX7_cls_36 : decode cX7_cls 36 = .ok (.ifCond .le 8, 3) := by decide +kernel
theorem dX7_cls_39 : decode cX7_cls 39 = .ok (.bipush (-3), 2) := by decide +kernel
theorem dX7_cls_41 : decode cX7_cls 41 = .ok (.goto 24, 3) := by decide +kernel
theorem dX7_cls_44 : decode cX7_cls 44 = .ok (.aload_n 0, 1) := by decide +kernel
theorem dX7_cls_45 : decode cX7_cls 45 = .ok (.getfield 128, 3) := by decide +kernel
theorem dX7_cls_48 : decode cX7_cls 48 = .ok (.bipush 40, 2) := by decide +kernel
theorem dX7_cls_50 : decode cX7_cls 50 = .ok (.if_icmp .ne 8, 3) := by decide +kernel
theorem dX7_cls_53 : decode cX7_cls 53 = .ok (.bipush (-4), 2) := by decide +kernel
theorem dX7_cls_55 : decode cX7_cls 55 = .ok (.goto 10, 3) := by decide +kernel
theorem dX7_cls_58 : decode cX7_cls 58 = .ok (.aload_n 0, 1) := by decide +kernel
theorem dX7_cls_59 : decode cX7_cls 59 = .ok (.iconst 0, 1) := by decide +kernel
theorem dX7_cls_60 : decode cX7_cls 60 = .ok (.iload_n 2, 1) := by decide +kernel
theorem dX7_cls_61 : decode cX7_cls 61 = .ok (.iload_n 1, 1) := by decide +kernel
theorem dX7_cls_62 : decode cX7_cls 62 = .ok (.invokevirtual 143, 3) := by decide +kernel
theorem dX7_cls_65 : decode cX7_cls 65 = .ok (.ireturn, 1) := by decide +kernel
theorem dX7_face_0 : decode cX7_face 0 = .ok (.aload_n 0, 1) := by decide +kernel
theorem dX7_face_1 : decode cX7_face 1 = .ok (.getfield 140, 3) := by decide +kernel
theorem dX7_face_4 : decode cX7_face 4 = .ok (.ifCond .le 8, 3) := by decide +kernel
theorem dX7_face_7 : decode cX7_face 7 = .ok (.bipush (-3), 2) := by decide +kernel
theorem dX7_face_9 : decode cX7_face 9 = .ok (.goto 24, 3) := by decide +kernel
theorem dX7_face_12 : decode cX7_face 12 = .ok (.aload_n 0, 1) := by decide +kernel
theorem dX7_face_13 : decode cX7_face 13 = .ok (.getfield 128, 3) := by decide +kernel
theorem dX7_face_16 : decode cX7_face 16 = .ok (.bipush 40, 2) := by decide +kernel
theorem dX7_face_18 : decode cX7_face 18 = .ok (.if_icmp .ne 8, 3) := by decide +kernel
theorem dX7_face_21 : decode cX7_face 21 = .ok (.bipush (-4), 2) := by decide +kernel
theorem dX7_face_23 : decode cX7_face 23 = .ok (.goto 10, 3) := by decide +kernel
theorem dX7_face_26 : decode cX7_face 26 = .ok (.aload_n 0, 1) := by decide +kernel
theorem dX7_face_27 : decode cX7_face 27 = .ok (.iconst 1, 1) := by decide +kernel
theorem dX7_face_28 : decode cX7_face 28 = .ok (.iload_n 1, 1) := by decide +kernel
theorem dX7_face_29 : decode cX7_face 29 = .ok (.iconst (-1), 1) := by decide +kernel
theorem dX7_face_30 : decode cX7_face 30 = .ok (.invokevirtual 143, 3) := by decide +kernel
theorem dX7_face_33 : decode cX7_face 33 = .ok (.ireturn, 1) := by decide +kernel
theorem dX7_leads_0 : decode cX7_leads 0 = .ok (.iconst 0, 1) := by decide +kernel
theorem dX7_leads_1 : decode cX7_leads 1 = .ok (.istore_n 3, 1) := by decide +kernel
theorem dX7_leads_2 : decode cX7_leads 2 = .ok (.iload_n 3, 1) := by decide +kernel
theorem dX7_leads_3 : decode cX7_leads 3 = .ok (.aload_n 0, 1) := by decide +kernel
theorem dX7_leads_4 : decode cX7_leads 4 = .ok (.getfield 128, 3) := by decide +kernel
theorem dX7_leads_7 : decode cX7_leads 7 = .ok (.if_icmp .ge 16, 3) := by decide +kernel
theorem dX7_leads_10 : decode cX7_leads 10 = .ok (.aload_n 0, 1) := by decide +kernel
theorem dX7_leads_11 : decode cX7_leads 11 = .ok (.getfield 62, 3) := by decide +kernel
theorem dX7_leads_14 : decode cX7_leads 14 = .ok (.iload_n 3, 1) := by decide +kernel
theorem dX7_leads_15 : decode cX7_leads 15 = .ok (.iconst 0, 1) := by decide +kernel
theorem dX7_leads_16 : decode cX7_leads 16 = .ok (.bastore, 1) := by decide +kernel
theorem dX7_leads_17 : decode cX7_leads 17 = .ok (.iinc 3 1, 3) := by decide +kernel
theorem dX7_leads_20 : decode cX7_leads 20 = .ok (.goto (-18), 3) := by decide +kernel
theorem dX7_leads_23 : decode cX7_leads 23 = .ok (.iconst 1, 1) := by decide +kernel
theorem dX7_leads_24 : decode cX7_leads 24 = .ok (.istore_n 3, 1) := by decide +kernel
theorem dX7_leads_25 : decode cX7_leads 25 = .ok (.aload_n 0, 1) := by decide +kernel
theorem dX7_leads_26 : decode cX7_leads 26 = .ok (.getfield 59, 3) := by decide +kernel
theorem dX7_leads_29 : decode cX7_leads 29 = .ok (.iconst 0, 1) := by decide +kernel
theorem dX7_leads_30 : decode cX7_leads 30 = .ok (.iload_n 1, 1) := by decide +kernel
theorem dX7_leads_31 : decode cX7_leads 31 = .ok (.iastore, 1) := by decide +kernel
theorem dX7_leads_32 : decode cX7_leads 32 = .ok (.iload_n 3, 1) := by decide +kernel
theorem dX7_leads_33 : decode cX7_leads 33 = .ok (.ifCond .le 101, 3) := by decide +kernel
theorem dX7_leads_36 : decode cX7_leads 36 = .ok (.iinc 3 (-1), 3) := by decide +kernel
theorem dX7_leads_39 : decode cX7_leads 39 = .ok (.aload_n 0, 1) := by decide +kernel
theorem dX7_leads_40 : decode cX7_leads 40 = .ok (.getfield 59, 3) := by decide +kernel
theorem dX7_leads_43 : decode cX7_leads 43 = .ok (.iload_n 3, 1) := by decide +kernel
theorem dX7_leads_44 : decode cX7_leads 44 = .ok (.iaload, 1) := by decide +kernel
theorem dX7_leads_45 : decode cX7_leads 45 = .ok (.istore 4, 2) := by decide +kernel
theorem dX7_leads_47 : decode cX7_leads 47 = .ok (.iload 4, 2) := by decide +kernel
theorem dX7_leads_49 : decode cX7_leads 49 = .ok (.ifCond .lt (-17), 3) := by decide +kernel
theorem dX7_leads_52 : decode cX7_leads 52 = .ok (.aload_n 0, 1) := by decide +kernel
theorem dX7_leads_53 : decode cX7_leads 53 = .ok (.getfield 62, 3) := by decide +kernel
theorem dX7_leads_56 : decode cX7_leads 56 = .ok (.iload 4, 2) := by decide +kernel
theorem dX7_leads_58 : decode cX7_leads 58 = .ok (.baload, 1) := by decide +kernel
theorem dX7_leads_59 : decode cX7_leads 59 = .ok (.ifCond .eq 6, 3) := by decide +kernel
theorem dX7_leads_62 : decode cX7_leads 62 = .ok (.goto (-30), 3) := by decide +kernel
theorem dX7_leads_65 : decode cX7_leads 65 = .ok (.aload_n 0, 1) := by decide +kernel
theorem dX7_leads_66 : decode cX7_leads 66 = .ok (.getfield 62, 3) := by decide +kernel
theorem dX7_leads_69 : decode cX7_leads 69 = .ok (.iload 4, 2) := by decide +kernel
theorem dX7_leads_71 : decode cX7_leads 71 = .ok (.iconst 1, 1) := by decide +kernel
theorem dX7_leads_72 : decode cX7_leads 72 = .ok (.bastore, 1) := by decide +kernel
theorem dX7_leads_73 : decode cX7_leads 73 = .ok (.aload_n 0, 1) := by decide +kernel
theorem dX7_leads_74 : decode cX7_leads 74 = .ok (.getfield 59, 3) := by decide +kernel
theorem dX7_leads_77 : decode cX7_leads 77 = .ok (.iload_n 3, 1) := by decide +kernel
theorem dX7_leads_78 : decode cX7_leads 78 = .ok (.aload_n 0, 1) := by decide +kernel
theorem dX7_leads_79 : decode cX7_leads 79 = .ok (.getfield 16, 3) := by decide +kernel
theorem dX7_leads_82 : decode cX7_leads 82 = .ok (.iload 4, 2) := by decide +kernel
theorem dX7_leads_84 : decode cX7_leads 84 = .ok (.iaload, 1) := by decide +kernel
theorem dX7_leads_85 : decode cX7_leads 85 = .ok (.iastore, 1) := by decide +kernel
theorem dX7_leads_86 : decode cX7_leads 86 = .ok (.iinc 3 1, 3) := by decide +kernel
theorem dX7_leads_89 : decode cX7_leads 89 = .ok (.iconst 0, 1) := by decide +kernel
theorem dX7_leads_90 : decode cX7_leads 90 = .ok (.istore 5, 2) := by decide +kernel
theorem dX7_leads_92 : decode cX7_leads 92 = .ok (.iload 5, 2) := by decide +kernel
theorem dX7_leads_94 : decode cX7_leads 94 = .ok (.aload_n 0, 1) := by decide +kernel
theorem dX7_leads_95 : decode cX7_leads 95 = .ok (.getfield 20, 3) := by decide +kernel
theorem dX7_leads_98 : decode cX7_leads 98 = .ok (.iload 4, 2) := by decide +kernel
theorem dX7_leads_100 : decode cX7_leads 100 = .ok (.iaload, 1) := by decide +kernel
theorem dX7_leads_101 : decode cX7_leads 101 = .ok (.if_icmp .ge 30, 3) := by decide +kernel
theorem dX7_leads_104 : decode cX7_leads 104 = .ok (.aload_n 0, 1) := by decide +kernel
theorem dX7_leads_105 : decode cX7_leads 105 = .ok (.getfield 59, 3) := by decide +kernel
theorem dX7_leads_108 : decode cX7_leads 108 = .ok (.iload_n 3, 1) := by decide +kernel
theorem dX7_leads_109 : decode cX7_leads 109 = .ok (.aload_n 0, 1) := by decide +kernel
theorem dX7_leads_110 : decode cX7_leads 110 = .ok (.getfield 23, 3) := by decide +kernel
theorem dX7_leads_113 : decode cX7_leads 113 = .ok (.iconst 4, 1) := by decide +kernel
theorem dX7_leads_114 : decode cX7_leads 114 = .ok (.iload 4, 2) := by decide +kernel
theorem dX7_leads_116 : decode cX7_leads 116 = .ok (.imul, 1) := by decide +kernel
theorem dX7_leads_117 : decode cX7_leads 117 = .ok (.iload 5, 2) := by decide +kernel
theorem dX7_leads_119 : decode cX7_leads 119 = .ok (.iadd, 1) := by decide +kernel
theorem dX7_leads_120 : decode cX7_leads 120 = .ok (.iaload, 1) := by decide +kernel
theorem dX7_leads_121 : decode cX7_leads 121 = .ok (.iastore, 1) := by decide +kernel
theorem dX7_leads_122 : decode cX7_leads 122 = .ok (.iinc 3 1, 3) := by decide +kernel
theorem dX7_leads_125 : decode cX7_leads 125 = .ok (.iinc 5 1, 3) := by decide +kernel
theorem dX7_leads_128 : decode cX7_leads 128 = .ok (.goto (-36), 3) := by decide +kernel
theorem dX7_leads_131 : decode cX7_leads 131 = .ok (.goto (-99), 3) := by decide +kernel
theorem dX7_leads_134 : decode cX7_leads 134 = .ok (.iload_n 1, 1) := by decide +kernel
theorem dX7_leads_135 : decode cX7_leads 135 = .ok (.iload_n 2, 1) := by decide +kernel
theorem dX7_leads_136 : decode cX7_leads 136 = .ok (.if_icmp .eq 16, 3) := by decide +kernel
theorem dX7_leads_139 : decode cX7_leads 139 = .ok (.aload_n 0, 1) := by decide +kernel
theorem dX7_leads_140 : decode cX7_leads 140 = .ok (.getfield 62, 3) := by decide +kernel
theorem dX7_leads_143 : decode cX7_leads 143 = .ok (.iload_n 2, 1) := by decide +kernel
theorem dX7_leads_144 : decode cX7_leads 144 = .ok (.baload, 1) := by decide +kernel
theorem dX7_leads_145 : decode cX7_leads 145 = .ok (.ifCond .eq 7, 3) := by decide +kernel
theorem dX7_leads_148 : decode cX7_leads 148 = .ok (.iconst 1, 1) := by decide +kernel
theorem dX7_leads_149 : decode cX7_leads 149 = .ok (.goto 4, 3) := by decide +kernel
theorem dX7_leads_152 : decode cX7_leads 152 = .ok (.iconst 0, 1) := by decide +kernel
theorem dX7_leads_153 : decode cX7_leads 153 = .ok (.ireturn, 1) := by decide +kernel
theorem dX7_under_0 : decode cX7_under 0 = .ok (.aload_n 0, 1) := by decide +kernel
theorem dX7_under_1 : decode cX7_under 1 = .ok (.iload_n 1, 1) := by decide +kernel
theorem dX7_under_2 : decode cX7_under 2 = .ok (.invokevirtual 136, 3) := by decide +kernel
theorem dX7_under_5 : decode cX7_under 5 = .ok (.ifCond .eq 11, 3) := by decide +kernel
theorem dX7_under_8 : decode cX7_under 8 = .ok (.aload_n 0, 1) := by decide +kernel
theorem dX7_under_9 : decode cX7_under 9 = .ok (.iload_n 2, 1) := by decide +kernel
theorem dX7_under_10 : decode cX7_under 10 = .ok (.invokevirtual 136, 3) := by decide +kernel
theorem dX7_under_13 : decode cX7_under 13 = .ok (.ifCond .ne 5, 3) := by decide +kernel
theorem dX7_under_16 : decode cX7_under 16 = .ok (.iconst (-1), 1) := by decide +kernel
theorem dX7_under_17 : decode cX7_under 17 = .ok (.ireturn, 1) := by decide +kernel
theorem dX7_under_18 : decode cX7_under 18 = .ok (.aload_n 0, 1) := by decide +kernel
theorem dX7_under_19 : decode cX7_under 19 = .ok (.getfield 7, 3) := by decide +kernel
theorem dX7_under_22 : decode cX7_under 22 = .ok (.iload_n 2, 1) := by decide +kernel
theorem dX7_under_23 : decode cX7_under 23 = .ok (.baload, 1) := by decide +kernel
theorem dX7_under_24 : decode cX7_under 24 = .ok (.ifCond .ne 6, 3) := by decide +kernel
theorem dX7_under_27 : decode cX7_under 27 = .ok (.bipush (-2), 2) := by decide +kernel
theorem dX7_under_29 : decode cX7_under 29 = .ok (.ireturn, 1) := by decide +kernel
theorem dX7_under_30 : decode cX7_under 30 = .ok (.aload_n 0, 1) := by decide +kernel
theorem dX7_under_31 : decode cX7_under 31 = .ok (.getfield 140, 3) := by decide +kernel
theorem dX7_under_34 : decode cX7_under 34 = .ok (.ifCond .le 6, 3) := by decide +kernel
theorem dX7_under_37 : decode cX7_under 37 = .ok (.bipush (-3), 2) := by decide +kernel
theorem dX7_under_39 : decode cX7_under 39 = .ok (.ireturn, 1) := by decide +kernel
theorem dX7_under_40 : decode cX7_under 40 = .ok (.aload_n 0, 1) := by decide +kernel
theorem dX7_under_41 : decode cX7_under 41 = .ok (.getfield 20, 3) := by decide +kernel
theorem dX7_under_44 : decode cX7_under 44 = .ok (.iload_n 1, 1) := by decide +kernel
theorem dX7_under_45 : decode cX7_under 45 = .ok (.iaload, 1) := by decide +kernel
theorem dX7_under_46 : decode cX7_under 46 = .ok (.iconst 4, 1) := by decide +kernel
theorem dX7_under_47 : decode cX7_under 47 = .ok (.if_icmp .ne 6, 3) := by decide +kernel
theorem dX7_under_50 : decode cX7_under 50 = .ok (.bipush (-4), 2) := by decide +kernel
theorem dX7_under_52 : decode cX7_under 52 = .ok (.ireturn, 1) := by decide +kernel
theorem dX7_under_53 : decode cX7_under 53 = .ok (.iload_n 2, 1) := by decide +kernel
theorem dX7_under_54 : decode cX7_under 54 = .ok (.iload_n 1, 1) := by decide +kernel
theorem dX7_under_55 : decode cX7_under 55 = .ok (.if_icmp .eq 12, 3) := by decide +kernel
theorem dX7_under_58 : decode cX7_under 58 = .ok (.aload_n 0, 1) := by decide +kernel
theorem dX7_under_59 : decode cX7_under 59 = .ok (.iload_n 2, 1) := by decide +kernel
theorem dX7_under_60 : decode cX7_under 60 = .ok (.iload_n 1, 1) := by decide +kernel
theorem dX7_under_61 : decode cX7_under 61 = .ok (.invokevirtual 147, 3) := by decide +kernel
theorem dX7_under_64 : decode cX7_under 64 = .ok (.ifCond .eq 7, 3) := by decide +kernel
theorem dX7_under_67 : decode cX7_under 67 = .ok (.iconst 1, 1) := by decide +kernel
theorem dX7_under_68 : decode cX7_under 68 = .ok (.goto 4, 3) := by decide +kernel
theorem dX7_under_71 : decode cX7_under 71 = .ok (.iconst 0, 1) := by decide +kernel
theorem dX7_under_72 : decode cX7_under 72 = .ok (.istore_n 3, 1) := by decide +kernel
theorem dX7_under_73 : decode cX7_under 73 = .ok (.iconst 0, 1) := by decide +kernel
theorem dX7_under_74 : decode cX7_under 74 = .ok (.istore 4, 2) := by decide +kernel
theorem dX7_under_76 : decode cX7_under 76 = .ok (.iload 4, 2) := by decide +kernel
theorem dX7_under_78 : decode cX7_under 78 = .ok (.aload_n 0, 1) := by decide +kernel
theorem dX7_under_79 : decode cX7_under 79 = .ok (.getfield 20, 3) := by decide +kernel
theorem dX7_under_82 : decode cX7_under 82 = .ok (.iload_n 1, 1) := by decide +kernel
theorem dX7_under_83 : decode cX7_under 83 = .ok (.iaload, 1) := by decide +kernel
theorem dX7_under_84 : decode cX7_under 84 = .ok (.if_icmp .ge 34, 3) := by decide +kernel
theorem dX7_under_87 : decode cX7_under 87 = .ok (.iload_n 3, 1) := by decide +kernel
theorem dX7_under_88 : decode cX7_under 88 = .ok (.ifCond .ne 18, 3) := by decide +kernel
theorem dX7_under_91 : decode cX7_under 91 = .ok (.aload_n 0, 1) := by decide +kernel
theorem dX7_under_92 : decode cX7_under 92 = .ok (.getfield 23, 3) := by decide +kernel
theorem dX7_under_95 : decode cX7_under 95 = .ok (.iconst 4, 1) := by decide +kernel
theorem dX7_under_96 : decode cX7_under 96 = .ok (.iload_n 1, 1) := by decide +kernel
theorem dX7_under_97 : decode cX7_under 97 = .ok (.imul, 1) := by decide +kernel
theorem dX7_under_98 : decode cX7_under 98 = .ok (.iload 4, 2) := by decide +kernel
theorem dX7_under_100 : decode cX7_under 100 = .ok (.iadd, 1) := by decide +kernel
theorem dX7_under_101 : decode cX7_under 101 = .ok (.iaload, 1) := by decide +kernel
theorem dX7_under_102 : decode cX7_under 102 = .ok (.iload_n 2, 1) := by decide +kernel
theorem dX7_under_103 : decode cX7_under 103 = .ok (.if_icmp .ne 7, 3) := by decide +kernel
theorem dX7_under_106 : decode cX7_under 106 = .ok (.iconst 1, 1) := by decide +kernel
theorem dX7_under_107 : decode cX7_under 107 = .ok (.goto 4, 3) := by decide +kernel
theorem dX7_under_110 : decode cX7_under 110 = .ok (.iconst 0, 1) := by decide +kernel
theorem dX7_under_111 : decode cX7_under 111 = .ok (.istore_n 3, 1) := by decide +kernel
theorem dX7_under_112 : decode cX7_under 112 = .ok (.iinc 4 1, 3) := by decide +kernel
theorem dX7_under_115 : decode cX7_under 115 = .ok (.goto (-39), 3) := by decide +kernel
theorem dX7_under_118 : decode cX7_under 118 = .ok (.iload_n 3, 1) := by decide +kernel
theorem dX7_under_119 : decode cX7_under 119 = .ok (.ifCond .eq 6, 3) := by decide +kernel
theorem dX7_under_122 : decode cX7_under 122 = .ok (.bipush (-5), 2) := by decide +kernel
theorem dX7_under_124 : decode cX7_under 124 = .ok (.ireturn, 1) := by decide +kernel
theorem dX7_under_125 : decode cX7_under 125 = .ok (.aload_n 0, 1) := by decide +kernel
theorem dX7_under_126 : decode cX7_under 126 = .ok (.getfield 23, 3) := by decide +kernel
theorem dX7_under_129 : decode cX7_under 129 = .ok (.iconst 4, 1) := by decide +kernel
theorem dX7_under_130 : decode cX7_under 130 = .ok (.iload_n 1, 1) := by decide +kernel
theorem dX7_under_131 : decode cX7_under 131 = .ok (.imul, 1) := by decide +kernel
theorem dX7_under_132 : decode cX7_under 132 = .ok (.aload_n 0, 1) := by decide +kernel
theorem dX7_under_133 : decode cX7_under 133 = .ok (.getfield 20, 3) := by decide +kernel
theorem dX7_under_136 : decode cX7_under 136 = .ok (.iload_n 1, 1) := by decide +kernel
theorem dX7_under_137 : decode cX7_under 137 = .ok (.iaload, 1) := by decide +kernel
theorem dX7_under_138 : decode cX7_under 138 = .ok (.iadd, 1) := by decide +kernel
theorem dX7_under_139 : decode cX7_under 139 = .ok (.iload_n 2, 1) := by decide +kernel
theorem dX7_under_140 : decode cX7_under 140 = .ok (.iastore, 1) := by decide +kernel
theorem dX7_under_141 : decode cX7_under 141 = .ok (.aload_n 0, 1) := by decide +kernel
theorem dX7_under_142 : decode cX7_under 142 = .ok (.getfield 20, 3) := by decide +kernel
theorem dX7_under_145 : decode cX7_under 145 = .ok (.iload_n 1, 1) := by decide +kernel
theorem dX7_under_146 : decode cX7_under 146 = .ok (.dup2, 1) := by decide +kernel
theorem dX7_under_147 : decode cX7_under 147 = .ok (.iaload, 1) := by decide +kernel
theorem dX7_under_148 : decode cX7_under 148 = .ok (.iconst 1, 1) := by decide +kernel
theorem dX7_under_149 : decode cX7_under 149 = .ok (.iadd, 1) := by decide +kernel
theorem dX7_under_150 : decode cX7_under 150 = .ok (.iastore, 1) := by decide +kernel
theorem dX7_under_151 : decode cX7_under 151 = .ok (.aload_n 0, 1) := by decide +kernel
theorem dX7_under_152 : decode cX7_under 152 = .ok (.getfield 20, 3) := by decide +kernel
theorem dX7_under_155 : decode cX7_under 155 = .ok (.iload_n 1, 1) := by decide +kernel
theorem dX7_under_156 : decode cX7_under 156 = .ok (.iaload, 1) := by decide +kernel
theorem dX7_under_157 : decode cX7_under 157 = .ok (.ireturn, 1) := by decide +kernel
theorem dX7_ownField_0 : decode cX7_ownField 0 = .ok (.bipush (-6), 2) := by decide +kernel
theorem dX7_ownField_2 : decode cX7_ownField 2 = .ok (.istore_n 3, 1) := by decide +kernel
theorem dX7_ownField_3 : decode cX7_ownField 3 = .ok (.iconst 0, 1) := by decide +kernel
theorem dX7_ownField_4 : decode cX7_ownField 4 = .ok (.istore 4, 2) := by decide +kernel
theorem dX7_ownField_6 : decode cX7_ownField 6 = .ok (.iload 4, 2) := by decide +kernel
theorem dX7_ownField_8 : decode cX7_ownField 8 = .ok (.aload_n 0, 1) := by decide +kernel
theorem dX7_ownField_9 : decode cX7_ownField 9 = .ok (.getfield 26, 3) := by decide +kernel
theorem dX7_ownField_12 : decode cX7_ownField 12 = .ok (.iload_n 1, 1) := by decide +kernel
theorem dX7_ownField_13 : decode cX7_ownField 13 = .ok (.iaload, 1) := by decide +kernel
theorem dX7_ownField_14 : decode cX7_ownField 14 = .ok (.if_icmp .ge 37, 3) := by decide +kernel
theorem dX7_ownField_17 : decode cX7_ownField 17 = .ok (.aload_n 0, 1) := by decide +kernel
theorem dX7_ownField_18 : decode cX7_ownField 18 = .ok (.getfield 29, 3) := by decide +kernel
theorem dX7_ownField_21 : decode cX7_ownField 21 = .ok (.bipush 6, 2) := by decide +kernel
theorem dX7_ownField_23 : decode cX7_ownField 23 = .ok (.iload_n 1, 1) := by decide +kernel
theorem dX7_ownField_24 : decode cX7_ownField 24 = .ok (.imul, 1) := by decide +kernel
theorem dX7_ownField_25 : decode cX7_ownField 25 = .ok (.iload 4, 2) := by decide +kernel
theorem dX7_ownField_27 : decode cX7_ownField 27 = .ok (.iadd, 1) := by decide +kernel
theorem dX7_ownField_28 : decode cX7_ownField 28 = .ok (.iaload, 1) := by decide +kernel
theorem dX7_ownField_29 : decode cX7_ownField 29 = .ok (.iload_n 2, 1) := by decide +kernel
theorem dX7_ownField_30 : decode cX7_ownField 30 = .ok (.if_icmp .ne 13, 3) := by decide +kernel
theorem dX7_ownField_33 : decode cX7_ownField 33 = .ok (.bipush 6, 2) := by decide +kernel
theorem dX7_ownField_35 : decode cX7_ownField 35 = .ok (.iload_n 1, 1) := by decide +kernel
theorem dX7_ownField_36 : decode cX7_ownField 36 = .ok (.imul, 1) := by decide +kernel
theorem dX7_ownField_37 : decode cX7_ownField 37 = .ok (.iload 4, 2) := by decide +kernel
theorem dX7_ownField_39 : decode cX7_ownField 39 = .ok (.iadd, 1) := by decide +kernel
theorem dX7_ownField_40 : decode cX7_ownField 40 = .ok (.goto 4, 3) := by decide +kernel
theorem dX7_ownField_43 : decode cX7_ownField 43 = .ok (.iload_n 3, 1) := by decide +kernel
theorem dX7_ownField_44 : decode cX7_ownField 44 = .ok (.istore_n 3, 1) := by decide +kernel
theorem dX7_ownField_45 : decode cX7_ownField 45 = .ok (.iinc 4 1, 3) := by decide +kernel
theorem dX7_ownField_48 : decode cX7_ownField 48 = .ok (.goto (-42), 3) := by decide +kernel
theorem dX7_ownField_51 : decode cX7_ownField 51 = .ok (.iload_n 3, 1) := by decide +kernel
theorem dX7_ownField_52 : decode cX7_ownField 52 = .ok (.ireturn, 1) := by decide +kernel
theorem dX7_ownMethod_0 : decode cX7_ownMethod 0 = .ok (.bipush (-6), 2) := by decide +kernel
theorem dX7_ownMethod_2 : decode cX7_ownMethod 2 = .ok (.istore_n 3, 1) := by decide +kernel
theorem dX7_ownMethod_3 : decode cX7_ownMethod 3 = .ok (.iconst 0, 1) := by decide +kernel
theorem dX7_ownMethod_4 : decode cX7_ownMethod 4 = .ok (.istore 4, 2) := by decide +kernel
theorem dX7_ownMethod_6 : decode cX7_ownMethod 6 = .ok (.iload 4, 2) := by decide +kernel
theorem dX7_ownMethod_8 : decode cX7_ownMethod 8 = .ok (.aload_n 0, 1) := by decide +kernel
theorem dX7_ownMethod_9 : decode cX7_ownMethod 9 = .ok (.getfield 38, 3) := by decide +kernel
theorem dX7_ownMethod_12 : decode cX7_ownMethod 12 = .ok (.iload_n 1, 1) := by decide +kernel
theorem dX7_ownMethod_13 : decode cX7_ownMethod 13 = .ok (.iaload, 1) := by decide +kernel
theorem dX7_ownMethod_14 : decode cX7_ownMethod 14 = .ok (.if_icmp .ge 31, 3) := by decide +kernel
theorem dX7_ownMethod_17 : decode cX7_ownMethod 17 = .ok (.aload_n 0, 1) := by decide +kernel
theorem dX7_ownMethod_18 : decode cX7_ownMethod 18 = .ok (.getfield 41, 3) := by decide +kernel
theorem dX7_ownMethod_21 : decode cX7_ownMethod 21 = .ok (.iconst 4, 1) := by decide +kernel
theorem dX7_ownMethod_22 : decode cX7_ownMethod 22 = .ok (.iload_n 1, 1) := by decide +kernel
theorem dX7_ownMethod_23 : decode cX7_ownMethod 23 = .ok (.imul, 1) := by decide +kernel
theorem dX7_ownMethod_24 : decode cX7_ownMethod 24 = .ok (.iload 4, 2) := by decide +kernel
theorem dX7_ownMethod_26 : decode cX7_ownMethod 26 = .ok (.iadd, 1) := by decide +kernel
theorem dX7_ownMethod_27 : decode cX7_ownMethod 27 = .ok (.iaload, 1) := by decide +kernel
theorem dX7_ownMethod_28 : decode cX7_ownMethod 28 = .ok (.iload_n 2, 1) := by decide +kernel
theorem dX7_ownMethod_29 : decode cX7_ownMethod 29 = .ok (.if_icmp .ne 8, 3) := by decide +kernel
theorem dX7_ownMethod_32 : decode cX7_ownMethod 32 = .ok (.iload 4, 2) := by decide +kernel
theorem dX7_ownMethod_34 : decode cX7_ownMethod 34 = .ok (.goto 4, 3) := by decide +kernel
theorem dX7_ownMethod_37 : decode cX7_ownMethod 37 = .ok (.iload_n 3, 1) := by decide +kernel
theorem dX7_ownMethod_38 : decode cX7_ownMethod 38 = .ok (.istore_n 3, 1) := by decide +kernel
theorem dX7_ownMethod_39 : decode cX7_ownMethod 39 = .ok (.iinc 4 1, 3) := by decide +kernel
theorem dX7_ownMethod_42 : decode cX7_ownMethod 42 = .ok (.goto (-36), 3) := by decide +kernel
theorem dX7_ownMethod_45 : decode cX7_ownMethod 45 = .ok (.iload_n 3, 1) := by decide +kernel
theorem dX7_ownMethod_46 : decode cX7_ownMethod 46 = .ok (.ireturn, 1) := by decide +kernel
theorem dX7_field_0 : decode cX7_field 0 = .ok (.aload_n 0, 1) := by decide +kernel
theorem dX7_field_1 : decode cX7_field 1 = .ok (.iload_n 1, 1) := by decide +kernel
theorem dX7_field_2 : decode cX7_field 2 = .ok (.invokevirtual 136, 3) := by decide +kernel
theorem dX7_field_5 : decode cX7_field 5 = .ok (.ifCond .ne 5, 3) := by decide +kernel
theorem dX7_field_8 : decode cX7_field 8 = .ok (.iconst (-1), 1) := by decide +kernel
theorem dX7_field_9 : decode cX7_field 9 = .ok (.ireturn, 1) := by decide +kernel
theorem dX7_field_10 : decode cX7_field 10 = .ok (.iload_n 2, 1) := by decide +kernel
theorem dX7_field_11 : decode cX7_field 11 = .ok (.iconst 0, 1) := by decide +kernel
theorem dX7_field_12 : decode cX7_field 12 = .ok (.bipush 9, 2) := by decide +kernel
theorem dX7_field_14 : decode cX7_field 14 = .ok (.invokestatic 132, 3) := by decide +kernel
theorem dX7_field_17 : decode cX7_field 17 = .ok (.ifCond .ne 6, 3) := by decide +kernel
theorem dX7_field_20 : decode cX7_field 20 = .ok (.bipush (-2), 2) := by decide +kernel
theorem dX7_field_22 : decode cX7_field 22 = .ok (.ireturn, 1) := by decide +kernel
theorem dX7_field_23 : decode cX7_field 23 = .ok (.aload_n 0, 1) := by decide +kernel
theorem dX7_field_24 : decode cX7_field 24 = .ok (.getfield 140, 3) := by decide +kernel
theorem dX7_field_27 : decode cX7_field 27 = .ok (.ifCond .le 6, 3) := by decide +kernel
theorem dX7_field_30 : decode cX7_field 30 = .ok (.bipush (-3), 2) := by decide +kernel
theorem dX7_field_32 : decode cX7_field 32 = .ok (.ireturn, 1) := by decide +kernel
theorem dX7_field_33 : decode cX7_field 33 = .ok (.aload_n 0, 1) := by decide +kernel
theorem dX7_field_34 : decode cX7_field 34 = .ok (.getfield 26, 3) := by decide +kernel
theorem dX7_field_37 : decode cX7_field 37 = .ok (.iload_n 1, 1) := by decide +kernel
theorem dX7_field_38 : decode cX7_field 38 = .ok (.iaload, 1) := by decide +kernel
theorem dX7_field_39 : decode cX7_field 39 = .ok (.bipush 6, 2) := by decide +kernel
theorem dX7_field_41 : decode cX7_field 41 = .ok (.if_icmp .ne 6, 3) := by decide +kernel
theorem dX7_field_44 : decode cX7_field 44 = .ok (.bipush (-4), 2) := by decide +kernel
theorem dX7_field_46 : decode cX7_field 46 = .ok (.ireturn, 1) := by decide +kernel
theorem dX7_field_47 : decode cX7_field 47 = .ok (.aload_n 0, 1) := by decide +kernel
theorem dX7_field_48 : decode cX7_field 48 = .ok (.iload_n 1, 1) := by decide +kernel
theorem dX7_field_49 : decode cX7_field 49 = .ok (.iload_n 2, 1) := by decide +kernel
theorem dX7_field_50 : decode cX7_field 50 = .ok (.invokevirtual 151, 3) := by decide +kernel
theorem dX7_field_53 : decode cX7_field 53 = .ok (.ifCond .lt 6, 3) := by decide +kernel
theorem dX7_field_56 : decode cX7_field 56 = .ok (.bipush (-5), 2) := by decide +kernel
theorem dX7_field_58 : decode cX7_field 58 = .ok (.ireturn, 1) := by decide +kernel
theorem dX7_field_59 : decode cX7_field 59 = .ok (.bipush 6, 2) := by decide +kernel
theorem dX7_field_61 : decode cX7_field 61 = .ok (.iload_n 1, 1) := by decide +kernel
theorem dX7_field_62 : decode cX7_field 62 = .ok (.imul, 1) := by decide +kernel
theorem dX7_field_63 : decode cX7_field 63 = .ok (.aload_n 0, 1) := by decide +kernel
theorem dX7_field_64 : decode cX7_field 64 = .ok (.getfield 26, 3) := by decide +kernel
theorem dX7_field_67 : decode cX7_field 67 = .ok (.iload_n 1, 1) := by decide +kernel
theorem dX7_field_68 : decode cX7_field 68 = .ok (.iaload, 1) := by decide +kernel
theorem dX7_field_69 : decode cX7_field 69 = .ok (.iadd, 1) := by decide +kernel
theorem dX7_field_70 : decode cX7_field 70 = .ok (.istore 5, 2) := by decide +kernel
theorem dX7_field_72 : decode cX7_field 72 = .ok (.aload_n 0, 1) := by decide +kernel
theorem dX7_field_73 : decode cX7_field 73 = .ok (.getfield 29, 3) := by decide +kernel
theorem dX7_field_76 : decode cX7_field 76 = .ok (.iload 5, 2) := by decide +kernel
theorem dX7_field_78 : decode cX7_field 78 = .ok (.iload_n 2, 1) := by decide +kernel
theorem dX7_field_79 : decode cX7_field 79 = .ok (.iastore, 1) := by decide +kernel
theorem dX7_field_80 : decode cX7_field 80 = .ok (.aload_n 0, 1) := by decide +kernel
theorem dX7_field_81 : decode cX7_field 81 = .ok (.getfield 32, 3) := by decide +kernel
theorem dX7_field_84 : decode cX7_field 84 = .ok (.iload 5, 2) := by decide +kernel
theorem dX7_field_86 : decode cX7_field 86 = .ok (.iload_n 3, 1) := by decide +kernel
theorem dX7_field_87 : decode cX7_field 87 = .ok (.bastore, 1) := by decide +kernel
theorem dX7_field_88 : decode cX7_field 88 = .ok (.aload_n 0, 1) := by decide +kernel
theorem dX7_field_89 : decode cX7_field 89 = .ok (.getfield 35, 3) := by decide +kernel
theorem dX7_field_92 : decode cX7_field 92 = .ok (.iload 5, 2) := by decide +kernel
theorem dX7_field_94 : decode cX7_field 94 = .ok (.iload 4, 2) := by decide +kernel
theorem dX7_field_96 : decode cX7_field 96 = .ok (.iastore, 1) := by decide +kernel
theorem dX7_field_97 : decode cX7_field 97 = .ok (.aload_n 0, 1) := by decide +kernel
theorem dX7_field_98 : decode cX7_field 98 = .ok (.getfield 26, 3) := by decide +kernel
theorem dX7_field_101 : decode cX7_field 101 = .ok (.iload_n 1, 1) := by decide +kernel
theorem dX7_field_102 : decode cX7_field 102 = .ok (.dup2, 1) := by decide +kernel
theorem dX7_field_103 : decode cX7_field 103 = .ok (.iaload, 1) := by decide +kernel
theorem dX7_field_104 : decode cX7_field 104 = .ok (.iconst 1, 1) := by decide +kernel
theorem dX7_field_105 : decode cX7_field 105 = .ok (.iadd, 1) := by decide +kernel
theorem dX7_field_106 : decode cX7_field 106 = .ok (.iastore, 1) := by decide +kernel
theorem dX7_field_107 : decode cX7_field 107 = .ok (.aload_n 0, 1) := by decide +kernel
theorem dX7_field_108 : decode cX7_field 108 = .ok (.getfield 26, 3) := by decide +kernel
theorem dX7_field_111 : decode cX7_field 111 = .ok (.iload_n 1, 1) := by decide +kernel
theorem dX7_field_112 : decode cX7_field 112 = .ok (.iaload, 1) := by decide +kernel
theorem dX7_field_113 : decode cX7_field 113 = .ok (.ireturn, 1) := by decide +kernel
theorem dX7_method_0 : decode cX7_method 0 = .ok (.aload_n 0, 1) := by decide +kernel
theorem dX7_method_1 : decode cX7_method 1 = .ok (.iload_n 1, 1) := by decide +kernel
theorem dX7_method_2 : decode cX7_method 2 = .ok (.invokevirtual 136, 3) := by decide +kernel
theorem dX7_method_5 : decode cX7_method 5 = .ok (.ifCond .ne 5, 3) := by decide +kernel
theorem dX7_method_8 : decode cX7_method 8 = .ok (.iconst (-1), 1) := by decide +kernel
theorem dX7_method_9 : decode cX7_method 9 = .ok (.ireturn, 1) := by decide +kernel
theorem dX7_method_10 : decode cX7_method 10 = .ok (.iload_n 2, 1) := by decide +kernel
theorem dX7_method_11 : decode cX7_method 11 = .ok (.iconst 0, 1) := by decide +kernel
theorem dX7_method_12 : decode cX7_method 12 = .ok (.bipush 9, 2) := by decide +kernel
theorem dX7_method_14 : decode cX7_method 14 = .ok (.invokestatic 132, 3) := by decide +kernel
theorem dX7_method_17 : decode cX7_method 17 = .ok (.ifCond .ne 6, 3) := by decide +kernel
theorem dX7_method_20 : decode cX7_method 20 = .ok (.bipush (-2), 2) := by decide +kernel
theorem dX7_method_22 : decode cX7_method 22 = .ok (.ireturn, 1) := by decide +kernel
theorem dX7_method_23 : decode cX7_method 23 = .ok (.aload_n 0, 1) := by decide +kernel
theorem dX7_method_24 : decode cX7_method 24 = .ok (.getfield 140, 3) := by decide +kernel
theorem dX7_method_27 : decode cX7_method 27 = .ok (.ifCond .le 6, 3) := by decide +kernel
theorem dX7_method_30 : decode cX7_method 30 = .ok (.bipush (-3), 2) := by decide +kernel
theorem dX7_method_32 : decode cX7_method 32 = .ok (.ireturn, 1) := by decide +kernel
theorem dX7_method_33 : decode cX7_method 33 = .ok (.aload_n 0, 1) := by decide +kernel
theorem dX7_method_34 : decode cX7_method 34 = .ok (.getfield 38, 3) := by decide +kernel
theorem dX7_method_37 : decode cX7_method 37 = .ok (.iload_n 1, 1) := by decide +kernel
theorem dX7_method_38 : decode cX7_method 38 = .ok (.iaload, 1) := by decide +kernel
theorem dX7_method_39 : decode cX7_method 39 = .ok (.iconst 4, 1) := by decide +kernel
theorem dX7_method_40 : decode cX7_method 40 = .ok (.if_icmp .ne 6, 3) := by decide +kernel
theorem dX7_method_43 : decode cX7_method 43 = .ok (.bipush (-4), 2) := by decide +kernel
theorem dX7_method_45 : decode cX7_method 45 = .ok (.ireturn, 1) := by decide +kernel
theorem dX7_method_46 : decode cX7_method 46 = .ok (.aload_n 0, 1) := by decide +kernel
theorem dX7_method_47 : decode cX7_method 47 = .ok (.iload_n 1, 1) := by decide +kernel
theorem dX7_method_48 : decode cX7_method 48 = .ok (.iload_n 2, 1) := by decide +kernel
theorem dX7_method_49 : decode cX7_method 49 = .ok (.invokevirtual 155, 3) := by decide +kernel
theorem dX7_method_52 : decode cX7_method 52 = .ok (.ifCond .lt 6, 3) := by decide +kernel
theorem dX7_method_55 : decode cX7_method 55 = .ok (.bipush (-5), 2) := by decide +kernel
theorem dX7_method_57 : decode cX7_method 57 = .ok (.ireturn, 1) := by decide +kernel
theorem dX7_method_58 : decode cX7_method 58 = .ok (.aload_n 0, 1) := by decide +kernel
theorem dX7_method_59 : decode cX7_method 59 = .ok (.getfield 41, 3) := by decide +kernel
theorem dX7_method_62 : decode cX7_method 62 = .ok (.iconst 4, 1) := by decide +kernel
theorem dX7_method_63 : decode cX7_method 63 = .ok (.iload_n 1, 1) := by decide +kernel
theorem dX7_method_64 : decode cX7_method 64 = .ok (.imul, 1) := by decide +kernel
theorem dX7_method_65 : decode cX7_method 65 = .ok (.aload_n 0, 1) := by decide +kernel
theorem dX7_method_66 : decode cX7_method 66 = .ok (.getfield 38, 3) := by decide +kernel
theorem dX7_method_69 : decode cX7_method 69 = .ok (.iload_n 1, 1) := by decide +kernel
theorem dX7_method_70 : decode cX7_method 70 = .ok (.iaload, 1) := by decide +kernel
theorem dX7_method_71 : decode cX7_method 71 = .ok (.iadd, 1) := by decide +kernel
theorem dX7_method_72 : decode cX7_method 72 = .ok (.iload_n 2, 1) := by decide +kernel
theorem dX7_method_73 : decode cX7_method 73 = .ok (.iastore, 1) := by decide +kernel
theorem dX7_method_74 : decode cX7_method 74 = .ok (.aload_n 0, 1) := by decide +kernel
theorem dX7_method_75 : decode cX7_method 75 = .ok (.getfield 38, 3) := by decide +kernel
theorem dX7_method_78 : decode cX7_method 78 = .ok (.iload_n 1, 1) := by decide +kernel
theorem dX7_method_79 : decode cX7_method 79 = .ok (.dup2, 1) := by decide +kernel
theorem dX7_method_80 : decode cX7_method 80 = .ok (.iaload, 1) := by decide +kernel
theorem dX7_method_81 : decode cX7_method 81 = .ok (.iconst 1, 1) := by decide +kernel
theorem dX7_method_82 : decode cX7_method 82 = .ok (.iadd, 1) := by decide +kernel
theorem dX7_method_83 : decode cX7_method 83 = .ok (.iastore, 1) := by decide +kernel
theorem dX7_method_84 : decode cX7_method 84 = .ok (.aload_n 0, 1) := by decide +kernel
theorem dX7_method_85 : decode cX7_method 85 = .ok (.getfield 38, 3) := by decide +kernel
theorem dX7_method_88 : decode cX7_method 88 = .ok (.iload_n 1, 1) := by decide +kernel
theorem dX7_method_89 : decode cX7_method 89 = .ok (.iaload, 1) := by decide +kernel
theorem dX7_method_90 : decode cX7_method 90 = .ok (.ireturn, 1) := by decide +kernel
theorem dX7_act_0 : decode cX7_act 0 = .ok (.aload_n 0, 1) := by decide +kernel
theorem dX7_act_1 : decode cX7_act 1 = .ok (.iload_n 1, 1) := by decide +kernel
theorem dX7_act_2 : decode cX7_act 2 = .ok (.invokevirtual 136, 3) := by decide +kernel
theorem dX7_act_5 : decode cX7_act 5 = .ok (.ifCond .eq 22, 3) := by decide +kernel
theorem dX7_act_8 : decode cX7_act 8 = .ok (.iload_n 3, 1) := by decide +kernel
theorem dX7_act_9 : decode cX7_act 9 = .ok (.iconst 1, 1) := by decide +kernel
theorem dX7_act_10 : decode cX7_act 10 = .ok (.bipush 6, 2) := by decide +kernel
theorem dX7_act_12 : decode cX7_act 12 = .ok (.invokestatic 132, 3) := by decide +kernel
theorem dX7_act_15 : decode cX7_act 15 = .ok (.ifCond .eq 14, 3) := by decide +kernel
theorem dX7_act_18 : decode cX7_act 18 = .ok (.aload_n 0, 1) := by decide +kernel
theorem dX7_act_19 : decode cX7_act 19 = .ok (.iload 4, 2) := by decide +kernel
theorem dX7_act_21 : decode cX7_act 21 = .ok (.invokevirtual 136, 3) := by decide +kernel
theorem dX7_act_24 : decode cX7_act 24 = .ok (.ifCond .ne 5, 3) := by decide +kernel
theorem dX7_act_27 : decode cX7_act 27 = .ok (.iconst (-1), 1) := by decide +kernel
theorem dX7_act_28 : decode cX7_act 28 = .ok (.ireturn, 1) := by decide +kernel
theorem dX7_act_29 : decode cX7_act 29 = .ok (.iload_n 3, 1) := by decide +kernel
theorem dX7_act_30 : decode cX7_act 30 = .ok (.iconst 0, 1) := by decide +kernel
theorem dX7_act_31 : decode cX7_act 31 = .ok (.bipush 8, 2) := by decide +kernel
theorem dX7_act_33 : decode cX7_act 33 = .ok (.invokestatic 132, 3) := by decide +kernel
theorem dX7_act_36 : decode cX7_act 36 = .ok (.ifCond .eq 27, 3) := by decide +kernel
theorem dX7_act_39 : decode cX7_act 39 = .ok (.iload_n 3, 1) := by decide +kernel
theorem dX7_act_40 : decode cX7_act 40 = .ok (.iconst 1, 1) := by decide +kernel
theorem dX7_act_41 : decode cX7_act 41 = .ok (.iconst 3, 1) := by decide +kernel
theorem dX7_act_42 : decode cX7_act 42 = .ok (.invokestatic 132, 3) := by decide +kernel
theorem dX7_act_45 : decode cX7_act 45 = .ok (.ifCond .eq 14, 3) := by decide +kernel
theorem dX7_act_48 : decode cX7_act 48 = .ok (.iload 5, 2) := by decide +kernel
theorem dX7_act_50 : decode cX7_act 50 = .ok (.iconst 0, 1) := by decide +kernel
theorem dX7_act_51 : decode cX7_act 51 = .ok (.bipush 9, 2) := by decide +kernel
theorem dX7_act_53 : decode cX7_act 53 = .ok (.invokestatic 132, 3) := by decide +kernel
theorem dX7_act_56 : decode cX7_act 56 = .ok (.ifCond .eq 7, 3) := by decide +kernel
theorem dX7_act_59 : decode cX7_act 59 = .ok (.iconst 1, 1) := by decide +kernel
theorem dX7_act_60 : decode cX7_act 60 = .ok (.goto 4, 3) := by decide +kernel
theorem dX7_act_63 : decode cX7_act 63 = .ok (.iconst 0, 1) := by decide +kernel
theorem dX7_act_64 : decode cX7_act 64 = .ok (.istore 7, 2) := by decide +kernel
theorem dX7_act_66 : decode cX7_act 66 = .ok (.iload 7, 2) := by decide +kernel
theorem dX7_act_68 : decode cX7_act 68 = .ok (.ifCond .eq 41, 3) := by decide +kernel
theorem dX7_act_71 : decode cX7_act 71 = .ok (.iload_n 3, 1) := by decide +kernel
theorem dX7_act_72 : decode cX7_act 72 = .ok (.bipush 7, 2) := by decide +kernel
theorem dX7_act_74 : decode cX7_act 74 = .ok (.if_icmp .ne 14, 3) := by decide +kernel
theorem dX7_act_77 : decode cX7_act 77 = .ok (.iload 6, 2) := by decide +kernel
theorem dX7_act_79 : decode cX7_act 79 = .ok (.iconst 0, 1) := by decide +kernel
theorem dX7_act_80 : decode cX7_act 80 = .ok (.bipush 19, 2) := by decide +kernel
theorem dX7_act_82 : decode cX7_act 82 = .ok (.invokestatic 132, 3) := by decide +kernel
theorem dX7_act_85 : decode cX7_act 85 = .ok (.ifCond .eq 24, 3) := by decide +kernel
theorem dX7_act_88 : decode cX7_act 88 = .ok (.iload_n 3, 1) := by decide +kernel
theorem dX7_act_89 : decode cX7_act 89 = .ok (.bipush 8, 2) := by decide +kernel
theorem dX7_act_91 : decode cX7_act 91 = .ok (.if_icmp .ne 14, 3) := by decide +kernel
theorem dX7_act_94 : decode cX7_act 94 = .ok (.iload 6, 2) := by decide +kernel
theorem dX7_act_96 : decode cX7_act 96 = .ok (.iconst (-1), 1) := by decide +kernel
theorem dX7_act_97 : decode cX7_act 97 = .ok (.bipush 22, 2) := by decide +kernel
theorem dX7_act_99 : decode cX7_act 99 = .ok (.invokestatic 132, 3) := by decide +kernel
theorem dX7_act_102 : decode cX7_act 102 = .ok (.ifCond .eq 7, 3) := by decide +kernel
theorem dX7_act_105 : decode cX7_act 105 = .ok (.iconst 1, 1) := by decide +kernel
theorem dX7_act_106 : decode cX7_act 106 = .ok (.goto 4, 3) := by decide +kernel
theorem dX7_act_109 : decode cX7_act 109 = .ok (.iconst 0, 1) := by decide +kernel
theorem dX7_act_110 : decode cX7_act 110 = .ok (.istore 7, 2) := by decide +kernel
theorem dX7_act_112 : decode cX7_act 112 = .ok (.iload 7, 2) := by decide +kernel
theorem dX7_act_114 : decode cX7_act 114 = .ok (.ifCond .ne 6, 3) := by decide +kernel
theorem dX7_act_117 : decode cX7_act 117 = .ok (.bipush (-2), 2) := by decide +kernel
theorem dX7_act_119 : decode cX7_act 119 = .ok (.ireturn, 1) := by decide +kernel
theorem dX7_act_120 : decode cX7_act 120 = .ok (.aload_n 0, 1) := by decide +kernel
theorem dX7_act_121 : decode cX7_act 121 = .ok (.getfield 140, 3) := by decide +kernel
theorem dX7_act_124 : decode cX7_act 124 = .ok (.ifCond .le 6, 3) := by decide +kernel
theorem dX7_act_127 : decode cX7_act 127 = .ok (.bipush (-3), 2) := by decide +kernel
theorem dX7_act_129 : decode cX7_act 129 = .ok (.ireturn, 1) := by decide +kernel
theorem dX7_act_130 : decode cX7_act 130 = .ok (.iload_n 2, 1) := by decide +kernel
theorem dX7_act_131 : decode cX7_act 131 = .ok (.iconst (-1), 1) := by decide +kernel
theorem dX7_act_132 : decode cX7_act 132 = .ok (.if_icmp .ne 7, 3) := by decide +kernel
theorem dX7_act_135 : decode cX7_act 135 = .ok (.iconst (-1), 1) := by decide +kernel
theorem dX7_act_136 : decode cX7_act 136 = .ok (.goto 9, 3) := by decide +kernel
theorem dX7_act_139 : decode cX7_act 139 = .ok (.aload_n 0, 1) := by decide +kernel
theorem dX7_act_140 : decode cX7_act 140 = .ok (.iload_n 1, 1) := by decide +kernel
theorem dX7_act_141 : decode cX7_act 141 = .ok (.iload_n 2, 1) := by decide +kernel
theorem dX7_act_142 : decode cX7_act 142 = .ok (.invokevirtual 155, 3) := by decide +kernel
theorem dX7_act_145 : decode cX7_act 145 = .ok (.istore 8, 2) := by decide +kernel
theorem dX7_act_147 : decode cX7_act 147 = .ok (.iload 8, 2) := by decide +kernel
theorem dX7_act_149 : decode cX7_act 149 = .ok (.bipush (-6), 2) := by decide +kernel
theorem dX7_act_151 : decode cX7_act 151 = .ok (.if_icmp .ne 6, 3) := by decide +kernel
theorem dX7_act_154 : decode cX7_act 154 = .ok (.bipush (-5), 2) := by decide +kernel
theorem dX7_act_156 : decode cX7_act 156 = .ok (.ireturn, 1) := by decide +kernel
theorem dX7_act_157 : decode cX7_act 157 = .ok (.iconst 5, 1) := by decide +kernel
theorem dX7_act_158 : decode cX7_act 158 = .ok (.iload_n 1, 1) := by decide +kernel
theorem dX7_act_159 : decode cX7_act 159 = .ok (.imul, 1) := by decide +kernel
theorem dX7_act_160 : decode cX7_act 160 = .ok (.iconst 1, 1) := by decide +kernel
theorem dX7_act_161 : decode cX7_act 161 = .ok (.iadd, 1) := by decide +kernel
theorem dX7_act_162 : decode cX7_act 162 = .ok (.iload 8, 2) := by decide +kernel
theorem dX7_act_164 : decode cX7_act 164 = .ok (.iadd, 1) := by decide +kernel
theorem dX7_act_165 : decode cX7_act 165 = .ok (.istore 9, 2) := by decide +kernel
theorem dX7_act_167 : decode cX7_act 167 = .ok (.aload_n 0, 1) := by decide +kernel
theorem dX7_act_168 : decode cX7_act 168 = .ok (.getfield 44, 3) := by decide +kernel
theorem dX7_act_171 : decode cX7_act 171 = .ok (.iload 9, 2) := by decide +kernel
theorem dX7_act_173 : decode cX7_act 173 = .ok (.iaload, 1) := by decide +kernel
theorem dX7_act_174 : decode cX7_act 174 = .ok (.bipush 12, 2) := by decide +kernel
theorem dX7_act_176 : decode cX7_act 176 = .ok (.if_icmp .ne 6, 3) := by decide +kernel
theorem dX7_act_179 : decode cX7_act 179 = .ok (.bipush (-4), 2) := by decide +kernel
theorem dX7_act_181 : decode cX7_act 181 = .ok (.ireturn, 1) := by decide +kernel
theorem dX7_act_182 : decode cX7_act 182 = .ok (.bipush 12, 2) := by decide +kernel
theorem dX7_act_184 : decode cX7_act 184 = .ok (.iload 9, 2) := by decide +kernel
theorem dX7_act_186 : decode cX7_act 186 = .ok (.imul, 1) := by decide +kernel
theorem dX7_act_187 : decode cX7_act 187 = .ok (.aload_n 0, 1) := by decide +kernel
theorem dX7_act_188 : decode cX7_act 188 = .ok (.getfield 44, 3) := by decide +kernel
theorem dX7_act_191 : decode cX7_act 191 = .ok (.iload 9, 2) := by decide +kernel
theorem dX7_act_193 : decode cX7_act 193 = .ok (.iaload, 1) := by decide +kernel
theorem dX7_act_194 : decode cX7_act 194 = .ok (.iadd, 1) := by decide +kernel
theorem dX7_act_195 : decode cX7_act 195 = .ok (.istore 10, 2) := by decide +kernel
theorem dX7_act_197 : decode cX7_act 197 = .ok (.aload_n 0, 1) := by decide +kernel
theorem dX7_act_198 : decode cX7_act 198 = .ok (.getfield 47, 3) := by decide +kernel
theorem dX7_act_201 : decode cX7_act 201 = .ok (.iload 10, 2) := by decide +kernel
theorem dX7_act_203 : decode cX7_act 203 = .ok (.iload_n 3, 1) := by decide +kernel
theorem dX7_act_204 : decode cX7_act 204 = .ok (.iastore, 1) := by decide +kernel
theorem dX7_act_205 : decode cX7_act 205 = .ok (.aload_n 0, 1) := by decide +kernel
theorem dX7_act_206 : decode cX7_act 206 = .ok (.getfield 50, 3) := by decide +kernel
theorem dX7_act_209 : decode cX7_act 209 = .ok (.iload 10, 2) := by decide +kernel
theorem dX7_act_211 : decode cX7_act 211 = .ok (.iload 4, 2) := by decide +kernel
theorem dX7_act_213 : decode cX7_act 213 = .ok (.iastore, 1) := by decide +kernel
theorem dX7_act_214 : decode cX7_act 214 = .ok (.aload_n 0, 1) := by decide +kernel
theorem dX7_act_215 : decode cX7_act 215 = .ok (.getfield 53, 3) := by decide +kernel
theorem dX7_act_218 : decode cX7_act 218 = .ok (.iload 10, 2) := by decide +kernel
theorem dX7_act_220 : decode cX7_act 220 = .ok (.iload 5, 2) := by decide +kernel
theorem dX7_act_222 : decode cX7_act 222 = .ok (.iastore, 1) := by decide +kernel
theorem dX7_act_223 : decode cX7_act 223 = .ok (.aload_n 0, 1) := by decide +kernel
theorem dX7_act_224 : decode cX7_act 224 = .ok (.getfield 56, 3) := by decide +kernel
theorem dX7_act_227 : decode cX7_act 227 = .ok (.iload 10, 2) := by decide +kernel
theorem dX7_act_229 : decode cX7_act 229 = .ok (.iload 6, 2) := by decide +kernel
theorem dX7_act_231 : decode cX7_act 231 = .ok (.iastore, 1) := by decide +kernel
theorem dX7_act_232 : decode cX7_act 232 = .ok (.aload_n 0, 1) := by decide +kernel
theorem dX7_act_233 : decode cX7_act 233 = .ok (.getfield 44, 3) := by decide +kernel
theorem dX7_act_236 : decode cX7_act 236 = .ok (.iload 9, 2) := by decide +kernel
theorem dX7_act_238 : decode cX7_act 238 = .ok (.dup2, 1) := by decide +kernel
theorem dX7_act_239 : decode cX7_act 239 = .ok (.iaload, 1) := by decide +kernel
theorem dX7_act_240 : decode cX7_act 240 = .ok (.iconst 1, 1) := by decide +kernel
theorem dX7_act_241 : decode cX7_act 241 = .ok (.iadd, 1) := by decide +kernel
theorem dX7_act_242 : decode cX7_act 242 = .ok (.iastore, 1) := by decide +kernel
theorem dX7_act_243 : decode cX7_act 243 = .ok (.aload_n 0, 1) := by decide +kernel
theorem dX7_act_244 : decode cX7_act 244 = .ok (.getfield 44, 3) := by decide +kernel
theorem dX7_act_247 : decode cX7_act 247 = .ok (.iload 9, 2) := by decide +kernel
theorem dX7_act_249 : decode cX7_act 249 = .ok (.iaload, 1) := by decide +kernel
theorem dX7_act_250 : decode cX7_act 250 = .ok (.ireturn, 1) := by decide +kernel
theorem dX7_told_0 : decode cX7_told 0 = .ok (.iload_n 2, 1) := by decide +kernel
theorem dX7_told_1 : decode cX7_told 1 = .ok (.iconst 0, 1) := by decide +kernel
theorem dX7_told_2 : decode cX7_told 2 = .ok (.bipush 9, 2) := by decide +kernel
theorem dX7_told_4 : decode cX7_told 4 = .ok (.invokestatic 132, 3) := by decide +kernel
theorem dX7_told_7 : decode cX7_told 7 = .ok (.ifCond .ne 6, 3) := by decide +kernel
theorem dX7_told_10 : decode cX7_told 10 = .ok (.bipush (-2), 2) := by decide +kernel
theorem dX7_told_12 : decode cX7_told 12 = .ok (.ireturn, 1) := by decide +kernel
theorem dX7_told_13 : decode cX7_told 13 = .ok (.iload_n 2, 1) := by decide +kernel
theorem dX7_told_14 : decode cX7_told 14 = .ok (.iconst 2, 1) := by decide +kernel
theorem dX7_told_15 : decode cX7_told 15 = .ok (.if_icmp .ge 19, 3) := by decide +kernel
theorem dX7_told_18 : decode cX7_told 18 = .ok (.iload_n 2, 1) := by decide +kernel
theorem dX7_told_19 : decode cX7_told 19 = .ok (.ifCond .ne 10, 3) := by decide +kernel
theorem dX7_told_22 : decode cX7_told 22 = .ok (.aload_n 0, 1) := by decide +kernel
theorem dX7_told_23 : decode cX7_told 23 = .ok (.getfield 128, 3) := by decide +kernel
theorem dX7_told_26 : decode cX7_told 26 = .ok (.goto 7, 3) := by decide +kernel
theorem dX7_told_29 : decode cX7_told 29 = .ok (.aload_n 0, 1) := by decide +kernel
theorem dX7_told_30 : decode cX7_told 30 = .ok (.getfield 140, 3) := by decide +kernel
theorem dX7_told_33 : decode cX7_told 33 = .ok (.ireturn, 1) := by decide +kernel
theorem dX7_told_34 : decode cX7_told 34 = .ok (.aload_n 0, 1) := by decide +kernel
theorem dX7_told_35 : decode cX7_told 35 = .ok (.iload_n 1, 1) := by decide +kernel
theorem dX7_told_36 : decode cX7_told 36 = .ok (.invokevirtual 136, 3) := by decide +kernel
theorem dX7_told_39 : decode cX7_told 39 = .ok (.ifCond .ne 5, 3) := by decide +kernel
theorem dX7_told_42 : decode cX7_told 42 = .ok (.iconst (-1), 1) := by decide +kernel
theorem dX7_told_43 : decode cX7_told 43 = .ok (.ireturn, 1) := by decide +kernel
theorem dX7_told_44 : decode cX7_told 44 = .ok (.iload_n 2, 1) := by decide +kernel
theorem dX7_told_45 : decode cX7_told 45 = .ok (.tableswitch 124 2 8 #[43, 58, 73, 94, 101, 108, 115], 43) := by decide +kernel
theorem dX7_told_88 : decode cX7_told 88 = .ok (.aload_n 0, 1) := by decide +kernel
theorem dX7_told_89 : decode cX7_told 89 = .ok (.getfield 7, 3) := by decide +kernel
theorem dX7_told_92 : decode cX7_told 92 = .ok (.iload_n 1, 1) := by decide +kernel
theorem dX7_told_93 : decode cX7_told 93 = .ok (.baload, 1) := by decide +kernel
theorem dX7_told_94 : decode cX7_told 94 = .ok (.ifCond .eq 7, 3) := by decide +kernel
theorem dX7_told_97 : decode cX7_told 97 = .ok (.iconst 1, 1) := by decide +kernel
theorem dX7_told_98 : decode cX7_told 98 = .ok (.goto 4, 3) := by decide +kernel
theorem dX7_told_101 : decode cX7_told 101 = .ok (.iconst 0, 1) := by decide +kernel
theorem dX7_told_102 : decode cX7_told 102 = .ok (.ireturn, 1) := by decide +kernel
theorem dX7_told_103 : decode cX7_told 103 = .ok (.aload_n 0, 1) := by decide +kernel
theorem dX7_told_104 : decode cX7_told 104 = .ok (.getfield 13, 3) := by decide +kernel
theorem dX7_told_107 : decode cX7_told 107 = .ok (.iload_n 1, 1) := by decide +kernel
theorem dX7_told_108 : decode cX7_told 108 = .ok (.baload, 1) := by decide +kernel
theorem dX7_told_109 : decode cX7_told 109 = .ok (.ifCond .eq 7, 3) := by decide +kernel
theorem dX7_told_112 : decode cX7_told 112 = .ok (.iconst 1, 1) := by decide +kernel
theorem dX7_told_113 : decode cX7_told 113 = .ok (.goto 4, 3) := by decide +kernel
theorem dX7_told_116 : decode cX7_told 116 = .ok (.iconst 0, 1) := by decide +kernel
theorem dX7_told_117 : decode cX7_told 117 = .ok (.ireturn, 1) := by decide +kernel
theorem dX7_told_118 : decode cX7_told 118 = .ok (.aload_n 0, 1) := by decide +kernel
theorem dX7_told_119 : decode cX7_told 119 = .ok (.getfield 16, 3) := by decide +kernel
theorem dX7_told_122 : decode cX7_told 122 = .ok (.iload_n 1, 1) := by decide +kernel
theorem dX7_told_123 : decode cX7_told 123 = .ok (.iaload, 1) := by decide +kernel
theorem dX7_told_124 : decode cX7_told 124 = .ok (.ifCond .ge 8, 3) := by decide +kernel
theorem dX7_told_127 : decode cX7_told 127 = .ok (.bipush (-6), 2) := by decide +kernel
theorem dX7_told_129 : decode cX7_told 129 = .ok (.goto 9, 3) := by decide +kernel
theorem dX7_told_132 : decode cX7_told 132 = .ok (.aload_n 0, 1) := by decide +kernel
theorem dX7_told_133 : decode cX7_told 133 = .ok (.getfield 16, 3) := by decide +kernel
theorem dX7_told_136 : decode cX7_told 136 = .ok (.iload_n 1, 1) := by decide +kernel
theorem dX7_told_137 : decode cX7_told 137 = .ok (.iaload, 1) := by decide +kernel
theorem dX7_told_138 : decode cX7_told 138 = .ok (.ireturn, 1) := by decide +kernel
theorem dX7_told_139 : decode cX7_told 139 = .ok (.aload_n 0, 1) := by decide +kernel
theorem dX7_told_140 : decode cX7_told 140 = .ok (.getfield 20, 3) := by decide +kernel
theorem dX7_told_143 : decode cX7_told 143 = .ok (.iload_n 1, 1) := by decide +kernel
theorem dX7_told_144 : decode cX7_told 144 = .ok (.iaload, 1) := by decide +kernel
theorem dX7_told_145 : decode cX7_told 145 = .ok (.ireturn, 1) := by decide +kernel
theorem dX7_told_146 : decode cX7_told 146 = .ok (.aload_n 0, 1) := by decide +kernel
theorem dX7_told_147 : decode cX7_told 147 = .ok (.getfield 26, 3) := by decide +kernel
theorem dX7_told_150 : decode cX7_told 150 = .ok (.iload_n 1, 1) := by decide +kernel
theorem dX7_told_151 : decode cX7_told 151 = .ok (.iaload, 1) := by decide +kernel
theorem dX7_told_152 : decode cX7_told 152 = .ok (.ireturn, 1) := by decide +kernel
theorem dX7_told_153 : decode cX7_told 153 = .ok (.aload_n 0, 1) := by decide +kernel
theorem dX7_told_154 : decode cX7_told 154 = .ok (.getfield 38, 3) := by decide +kernel
theorem dX7_told_157 : decode cX7_told 157 = .ok (.iload_n 1, 1) := by decide +kernel
theorem dX7_told_158 : decode cX7_told 158 = .ok (.iaload, 1) := by decide +kernel
theorem dX7_told_159 : decode cX7_told 159 = .ok (.ireturn, 1) := by decide +kernel
theorem dX7_told_160 : decode cX7_told 160 = .ok (.aload_n 0, 1) := by decide +kernel
theorem dX7_told_161 : decode cX7_told 161 = .ok (.getfield 44, 3) := by decide +kernel
theorem dX7_told_164 : decode cX7_told 164 = .ok (.iconst 5, 1) := by decide +kernel
theorem dX7_told_165 : decode cX7_told 165 = .ok (.iload_n 1, 1) := by decide +kernel
theorem dX7_told_166 : decode cX7_told 166 = .ok (.imul, 1) := by decide +kernel
theorem dX7_told_167 : decode cX7_told 167 = .ok (.iaload, 1) := by decide +kernel
theorem dX7_told_168 : decode cX7_told 168 = .ok (.ireturn, 1) := by decide +kernel
theorem dX7_told_169 : decode cX7_told 169 = .ok (.iconst 0, 1) := by decide +kernel
theorem dX7_told_170 : decode cX7_told 170 = .ok (.istore_n 3, 1) := by decide +kernel
theorem dX7_told_171 : decode cX7_told 171 = .ok (.iconst 0, 1) := by decide +kernel
theorem dX7_told_172 : decode cX7_told 172 = .ok (.istore 4, 2) := by decide +kernel
theorem dX7_told_174 : decode cX7_told 174 = .ok (.iload 4, 2) := by decide +kernel
theorem dX7_told_176 : decode cX7_told 176 = .ok (.aload_n 0, 1) := by decide +kernel
theorem dX7_told_177 : decode cX7_told 177 = .ok (.getfield 128, 3) := by decide +kernel
theorem dX7_told_180 : decode cX7_told 180 = .ok (.if_icmp .ge 27, 3) := by decide +kernel
theorem dX7_told_183 : decode cX7_told 183 = .ok (.iload_n 3, 1) := by decide +kernel
theorem dX7_told_184 : decode cX7_told 184 = .ok (.aload_n 0, 1) := by decide +kernel
theorem dX7_told_185 : decode cX7_told 185 = .ok (.iload 4, 2) := by decide +kernel
theorem dX7_told_187 : decode cX7_told 187 = .ok (.iload_n 1, 1) := by decide +kernel
theorem dX7_told_188 : decode cX7_told 188 = .ok (.invokevirtual 147, 3) := by decide +kernel
theorem dX7_told_191 : decode cX7_told 191 = .ok (.ifCond .eq 7, 3) := by decide +kernel
theorem dX7_told_194 : decode cX7_told 194 = .ok (.iconst 1, 1) := by decide +kernel
theorem dX7_told_195 : decode cX7_told 195 = .ok (.goto 4, 3) := by decide +kernel
theorem dX7_told_198 : decode cX7_told 198 = .ok (.iconst 0, 1) := by decide +kernel
theorem dX7_told_199 : decode cX7_told 199 = .ok (.iadd, 1) := by decide +kernel
theorem dX7_told_200 : decode cX7_told 200 = .ok (.istore_n 3, 1) := by decide +kernel
theorem dX7_told_201 : decode cX7_told 201 = .ok (.iinc 4 1, 3) := by decide +kernel
theorem dX7_told_204 : decode cX7_told 204 = .ok (.goto (-30), 3) := by decide +kernel
theorem dX7_told_207 : decode cX7_told 207 = .ok (.iload_n 3, 1) := by decide +kernel
theorem dX7_told_208 : decode cX7_told 208 = .ok (.ireturn, 1) := by decide +kernel
theorem dX7_below_0 : decode cX7_below 0 = .ok (.aload_n 0, 1) := by decide +kernel
theorem dX7_below_1 : decode cX7_below 1 = .ok (.iload_n 1, 1) := by decide +kernel
theorem dX7_below_2 : decode cX7_below 2 = .ok (.invokevirtual 136, 3) := by decide +kernel
theorem dX7_below_5 : decode cX7_below 5 = .ok (.ifCond .eq 11, 3) := by decide +kernel
theorem dX7_below_8 : decode cX7_below 8 = .ok (.aload_n 0, 1) := by decide +kernel
theorem dX7_below_9 : decode cX7_below 9 = .ok (.iload_n 2, 1) := by decide +kernel
theorem dX7_below_10 : decode cX7_below 10 = .ok (.invokevirtual 136, 3) := by decide +kernel
theorem dX7_below_13 : decode cX7_below 13 = .ok (.ifCond .ne 5, 3) := by decide +kernel
theorem dX7_below_16 : decode cX7_below 16 = .ok (.iconst (-1), 1) := by decide +kernel
theorem dX7_below_17 : decode cX7_below 17 = .ok (.ireturn, 1) := by decide +kernel
theorem dX7_below_18 : decode cX7_below 18 = .ok (.aload_n 0, 1) := by decide +kernel
theorem dX7_below_19 : decode cX7_below 19 = .ok (.iload_n 1, 1) := by decide +kernel
theorem dX7_below_20 : decode cX7_below 20 = .ok (.iload_n 2, 1) := by decide +kernel
theorem dX7_below_21 : decode cX7_below 21 = .ok (.invokevirtual 147, 3) := by decide +kernel
theorem dX7_below_24 : decode cX7_below 24 = .ok (.ifCond .eq 7, 3) := by decide +kernel
theorem dX7_below_27 : decode cX7_below 27 = .ok (.iconst 1, 1) := by decide +kernel
theorem dX7_below_28 : decode cX7_below 28 = .ok (.goto 4, 3) := by decide +kernel
theorem dX7_below_31 : decode cX7_below 31 = .ok (.iconst 0, 1) := by decide +kernel
theorem dX7_below_32 : decode cX7_below 32 = .ok (.ireturn, 1) := by decide +kernel
theorem dX7_findField_0 : decode cX7_findField 0 = .ok (.iconst 1, 1) := by decide +kernel
theorem dX7_findField_1 : decode cX7_findField 1 = .ok (.istore_n 3, 1) := by decide +kernel
theorem dX7_findField_2 : decode cX7_findField 2 = .ok (.aload_n 0, 1) := by decide +kernel
theorem dX7_findField_3 : decode cX7_findField 3 = .ok (.getfield 59, 3) := by decide +kernel
theorem dX7_findField_6 : decode cX7_findField 6 = .ok (.iconst 0, 1) := by decide +kernel
theorem dX7_findField_7 : decode cX7_findField 7 = .ok (.iload_n 1, 1) := by decide +kernel
theorem dX7_findField_8 : decode cX7_findField 8 = .ok (.iastore, 1) := by decide +kernel
theorem dX7_findField_9 : decode cX7_findField 9 = .ok (.iconst 0, 1) := by decide +kernel
theorem dX7_findField_10 : decode cX7_findField 10 = .ok (.istore 4, 2) := by decide +kernel
theorem dX7_findField_12 : decode cX7_findField 12 = .ok (.iload 4, 2) := by decide +kernel
theorem dX7_findField_14 : decode cX7_findField 14 = .ok (.aload_n 0, 1) := by decide +kernel
theorem dX7_findField_15 : decode cX7_findField 15 = .ok (.getfield 128, 3) := by decide +kernel
theorem dX7_findField_18 : decode cX7_findField 18 = .ok (.if_icmp .ge 17, 3) := by decide +kernel
theorem dX7_findField_21 : decode cX7_findField 21 = .ok (.aload_n 0, 1) := by decide +kernel
theorem dX7_findField_22 : decode cX7_findField 22 = .ok (.getfield 62, 3) := by decide +kernel
theorem dX7_findField_25 : decode cX7_findField 25 = .ok (.iload 4, 2) := by decide +kernel
theorem dX7_findField_27 : decode cX7_findField 27 = .ok (.iconst 0, 1) := by decide +kernel
theorem dX7_findField_28 : decode cX7_findField 28 = .ok (.bastore, 1) := by decide +kernel
theorem dX7_findField_29 : decode cX7_findField 29 = .ok (.iinc 4 1, 3) := by decide +kernel
theorem dX7_findField_32 : decode cX7_findField 32 = .ok (.goto (-20), 3) := by decide +kernel
theorem dX7_findField_35 : decode cX7_findField 35 = .ok (.iload_n 3, 1) := by decide +kernel
theorem dX7_findField_36 : decode cX7_findField 36 = .ok (.ifCond .le 119, 3) := by decide +kernel
theorem dX7_findField_39 : decode cX7_findField 39 = .ok (.iinc 3 (-1), 3) := by decide +kernel
theorem dX7_findField_42 : decode cX7_findField 42 = .ok (.aload_n 0, 1) := by decide +kernel
theorem dX7_findField_43 : decode cX7_findField 43 = .ok (.getfield 59, 3) := by decide +kernel
theorem dX7_findField_46 : decode cX7_findField 46 = .ok (.iload_n 3, 1) := by decide +kernel
theorem dX7_findField_47 : decode cX7_findField 47 = .ok (.iaload, 1) := by decide +kernel
theorem dX7_findField_48 : decode cX7_findField 48 = .ok (.istore 4, 2) := by decide +kernel
theorem dX7_findField_50 : decode cX7_findField 50 = .ok (.iload 4, 2) := by decide +kernel
theorem dX7_findField_52 : decode cX7_findField 52 = .ok (.ifCond .lt (-17), 3) := by decide +kernel
theorem dX7_findField_55 : decode cX7_findField 55 = .ok (.aload_n 0, 1) := by decide +kernel
theorem dX7_findField_56 : decode cX7_findField 56 = .ok (.getfield 62, 3) := by decide +kernel
theorem dX7_findField_59 : decode cX7_findField 59 = .ok (.iload 4, 2) := by decide +kernel
theorem dX7_findField_61 : decode cX7_findField 61 = .ok (.baload, 1) := by decide +kernel
theorem dX7_findField_62 : decode cX7_findField 62 = .ok (.ifCond .eq 6, 3) := by decide +kernel
theorem dX7_findField_65 : decode cX7_findField 65 = .ok (.goto (-30), 3) := by decide +kernel
theorem dX7_findField_68 : decode cX7_findField 68 = .ok (.aload_n 0, 1) := by decide +kernel
theorem dX7_findField_69 : decode cX7_findField 69 = .ok (.getfield 62, 3) := by decide +kernel
theorem dX7_findField_72 : decode cX7_findField 72 = .ok (.iload 4, 2) := by decide +kernel
theorem dX7_findField_74 : decode cX7_findField 74 = .ok (.iconst 1, 1) := by decide +kernel
theorem dX7_findField_75 : decode cX7_findField 75 = .ok (.bastore, 1) := by decide +kernel
theorem dX7_findField_76 : decode cX7_findField 76 = .ok (.aload_n 0, 1) := by decide +kernel
theorem dX7_findField_77 : decode cX7_findField 77 = .ok (.iload 4, 2) := by decide +kernel
theorem dX7_findField_79 : decode cX7_findField 79 = .ok (.iload_n 2, 1) := by decide +kernel
theorem dX7_findField_80 : decode cX7_findField 80 = .ok (.invokevirtual 151, 3) := by decide +kernel
theorem dX7_findField_83 : decode cX7_findField 83 = .ok (.istore 5, 2) := by decide +kernel
theorem dX7_findField_85 : decode cX7_findField 85 = .ok (.iload 5, 2) := by decide +kernel
theorem dX7_findField_87 : decode cX7_findField 87 = .ok (.ifCond .lt 6, 3) := by decide +kernel
theorem dX7_findField_90 : decode cX7_findField 90 = .ok (.iload 5, 2) := by decide +kernel
theorem dX7_findField_92 : decode cX7_findField 92 = .ok (.ireturn, 1) := by decide +kernel
theorem dX7_findField_93 : decode cX7_findField 93 = .ok (.aload_n 0, 1) := by decide +kernel
theorem dX7_findField_94 : decode cX7_findField 94 = .ok (.getfield 59, 3) := by decide +kernel
theorem dX7_findField_97 : decode cX7_findField 97 = .ok (.iload_n 3, 1) := by decide +kernel
theorem dX7_findField_98 : decode cX7_findField 98 = .ok (.aload_n 0, 1) := by decide +kernel
theorem dX7_findField_99 : decode cX7_findField 99 = .ok (.getfield 16, 3) := by decide +kernel
theorem dX7_findField_102 : decode cX7_findField 102 = .ok (.iload 4, 2) := by decide +kernel
theorem dX7_findField_104 : decode cX7_findField 104 = .ok (.iaload, 1) := by decide +kernel
theorem dX7_findField_105 : decode cX7_findField 105 = .ok (.iastore, 1) := by decide +kernel
theorem dX7_findField_106 : decode cX7_findField 106 = .ok (.iinc 3 1, 3) := by decide +kernel
theorem dX7_findField_109 : decode cX7_findField 109 = .ok (.aload_n 0, 1) := by decide +kernel
theorem dX7_findField_110 : decode cX7_findField 110 = .ok (.getfield 20, 3) := by decide +kernel
theorem dX7_findField_113 : decode cX7_findField 113 = .ok (.iload 4, 2) := by decide +kernel
theorem dX7_findField_115 : decode cX7_findField 115 = .ok (.iaload, 1) := by decide +kernel
theorem dX7_findField_116 : decode cX7_findField 116 = .ok (.iconst 1, 1) := by decide +kernel
theorem dX7_findField_117 : decode cX7_findField 117 = .ok (.isub, 1) := by decide +kernel
theorem dX7_findField_118 : decode cX7_findField 118 = .ok (.istore 6, 2) := by decide +kernel
theorem dX7_findField_120 : decode cX7_findField 120 = .ok (.iload 6, 2) := by decide +kernel
theorem dX7_findField_122 : decode cX7_findField 122 = .ok (.ifCond .lt 30, 3) := by decide +kernel
theorem dX7_findField_125 : decode cX7_findField 125 = .ok (.aload_n 0, 1) := by decide +kernel
theorem dX7_findField_126 : decode cX7_findField 126 = .ok (.getfield 59, 3) := by decide +kernel
theorem dX7_findField_129 : decode cX7_findField 129 = .ok (.iload_n 3, 1) := by decide +kernel
theorem dX7_findField_130 : decode cX7_findField 130 = .ok (.aload_n 0, 1) := by decide +kernel
theorem dX7_findField_131 : decode cX7_findField 131 = .ok (.getfield 23, 3) := by decide +kernel
theorem dX7_findField_134 : decode cX7_findField 134 = .ok (.iconst 4, 1) := by decide +kernel
theorem dX7_findField_135 : decode cX7_findField 135 = .ok (.iload 4, 2) := by decide +kernel
theorem dX7_findField_137 : decode cX7_findField 137 = .ok (.imul, 1) := by decide +kernel
theorem dX7_findField_138 : decode cX7_findField 138 = .ok (.iload 6, 2) := by decide +kernel
theorem dX7_findField_140 : decode cX7_findField 140 = .ok (.iadd, 1) := by decide +kernel
theorem dX7_findField_141 : decode cX7_findField 141 = .ok (.iaload, 1) := by decide +kernel
theorem dX7_findField_142 : decode cX7_findField 142 = .ok (.iastore, 1) := by decide +kernel
theorem dX7_findField_143 : decode cX7_findField 143 = .ok (.iinc 3 1, 3) := by decide +kernel
theorem dX7_findField_146 : decode cX7_findField 146 = .ok (.iinc 6 (-1), 3) := by decide +kernel
theorem dX7_findField_149 : decode cX7_findField 149 = .ok (.goto (-29), 3) := by decide +kernel
theorem dX7_findField_152 : decode cX7_findField 152 = .ok (.goto (-117), 3) := by decide +kernel
theorem dX7_findField_155 : decode cX7_findField 155 = .ok (.bipush (-6), 2) := by decide +kernel
theorem dX7_findField_157 : decode cX7_findField 157 = .ok (.ireturn, 1) := by decide +kernel
theorem dX7_findMethod_0 : decode cX7_findMethod 0 = .ok (.iload_n 1, 1) := by decide +kernel
theorem dX7_findMethod_1 : decode cX7_findMethod 1 = .ok (.istore_n 3, 1) := by decide +kernel
theorem dX7_findMethod_2 : decode cX7_findMethod 2 = .ok (.iload_n 3, 1) := by decide +kernel
theorem dX7_findMethod_3 : decode cX7_findMethod 3 = .ok (.ifCond .lt 35, 3) := by decide +kernel
theorem dX7_findMethod_6 : decode cX7_findMethod 6 = .ok (.aload_n 0, 1) := by decide +kernel
theorem dX7_findMethod_7 : decode cX7_findMethod 7 = .ok (.iload_n 3, 1) := by decide +kernel
theorem dX7_findMethod_8 : decode cX7_findMethod 8 = .ok (.iload_n 2, 1) := by decide +kernel
theorem dX7_findMethod_9 : decode cX7_findMethod 9 = .ok (.invokevirtual 155, 3) := by decide +kernel
theorem dX7_findMethod_12 : decode cX7_findMethod 12 = .ok (.istore 4, 2) := by decide +kernel
theorem dX7_findMethod_14 : decode cX7_findMethod 14 = .ok (.iload 4, 2) := by decide +kernel
theorem dX7_findMethod_16 : decode cX7_findMethod 16 = .ok (.ifCond .lt 12, 3) := by decide +kernel
theorem dX7_findMethod_19 : decode cX7_findMethod 19 = .ok (.iconst 5, 1) := by decide +kernel
theorem dX7_findMethod_20 : decode cX7_findMethod 20 = .ok (.iload_n 3, 1) := by decide +kernel
theorem dX7_findMethod_21 : decode cX7_findMethod 21 = .ok (.imul, 1) := by decide +kernel
theorem dX7_findMethod_22 : decode cX7_findMethod 22 = .ok (.iconst 1, 1) := by decide +kernel
theorem dX7_findMethod_23 : decode cX7_findMethod 23 = .ok (.iadd, 1) := by decide +kernel
theorem dX7_findMethod_24 : decode cX7_findMethod 24 = .ok (.iload 4, 2) := by decide +kernel
theorem dX7_findMethod_26 : decode cX7_findMethod 26 = .ok (.iadd, 1) := by decide +kernel
theorem dX7_findMethod_27 : decode cX7_findMethod 27 = .ok (.ireturn, 1) := by decide +kernel
theorem dX7_findMethod_28 : decode cX7_findMethod 28 = .ok (.aload_n 0, 1) := by decide +kernel
theorem dX7_findMethod_29 : decode cX7_findMethod 29 = .ok (.getfield 16, 3) := by decide +kernel
theorem dX7_findMethod_32 : decode cX7_findMethod 32 = .ok (.iload_n 3, 1) := by decide +kernel
theorem dX7_findMethod_33 : decode cX7_findMethod 33 = .ok (.iaload, 1) := by decide +kernel
theorem dX7_findMethod_34 : decode cX7_findMethod 34 = .ok (.istore_n 3, 1) := by decide +kernel
theorem dX7_findMethod_35 : decode cX7_findMethod 35 = .ok (.goto (-33), 3) := by decide +kernel
theorem dX7_findMethod_38 : decode cX7_findMethod 38 = .ok (.bipush (-6), 2) := by decide +kernel
theorem dX7_findMethod_40 : decode cX7_findMethod 40 = .ok (.ireturn, 1) := by decide +kernel
theorem dX7_found_0 : decode cX7_found 0 = .ok (.aload_n 0, 1) := by decide +kernel
theorem dX7_found_1 : decode cX7_found 1 = .ok (.iload_n 1, 1) := by decide +kernel
theorem dX7_found_2 : decode cX7_found 2 = .ok (.invokevirtual 136, 3) := by decide +kernel
theorem dX7_found_5 : decode cX7_found 5 = .ok (.ifCond .ne 5, 3) := by decide +kernel
theorem dX7_found_8 : decode cX7_found 8 = .ok (.iconst (-1), 1) := by decide +kernel
theorem dX7_found_9 : decode cX7_found 9 = .ok (.ireturn, 1) := by decide +kernel
theorem dX7_found_10 : decode cX7_found 10 = .ok (.iload_n 2, 1) := by decide +kernel
theorem dX7_found_11 : decode cX7_found 11 = .ok (.iconst 0, 1) := by decide +kernel
theorem dX7_found_12 : decode cX7_found 12 = .ok (.bipush 9, 2) := by decide +kernel
theorem dX7_found_14 : decode cX7_found 14 = .ok (.invokestatic 132, 3) := by decide +kernel
theorem dX7_found_17 : decode cX7_found 17 = .ok (.ifCond .ne 6, 3) := by decide +kernel
theorem dX7_found_20 : decode cX7_found 20 = .ok (.bipush (-2), 2) := by decide +kernel
theorem dX7_found_22 : decode cX7_found 22 = .ok (.ireturn, 1) := by decide +kernel
theorem dX7_found_23 : decode cX7_found 23 = .ok (.iload_n 3, 1) := by decide +kernel
theorem dX7_found_24 : decode cX7_found 24 = .ok (.ifCond .eq 12, 3) := by decide +kernel
theorem dX7_found_27 : decode cX7_found 27 = .ok (.aload_n 0, 1) := by decide +kernel
theorem dX7_found_28 : decode cX7_found 28 = .ok (.iload_n 1, 1) := by decide +kernel
theorem dX7_found_29 : decode cX7_found 29 = .ok (.iload_n 2, 1) := by decide +kernel
theorem dX7_found_30 : decode cX7_found 30 = .ok (.invokevirtual 158, 3) := by decide +kernel
theorem dX7_found_33 : decode cX7_found 33 = .ok (.goto 9, 3) := by decide +kernel
theorem dX7_found_36 : decode cX7_found 36 = .ok (.aload_n 0, 1) := by decide +kernel
theorem dX7_found_37 : decode cX7_found 37 = .ok (.iload_n 1, 1) := by decide +kernel
theorem dX7_found_38 : decode cX7_found 38 = .ok (.iload_n 2, 1) := by decide +kernel
theorem dX7_found_39 : decode cX7_found 39 = .ok (.invokevirtual 161, 3) := by decide +kernel
theorem dX7_found_42 : decode cX7_found 42 = .ok (.istore 4, 2) := by decide +kernel
theorem dX7_found_44 : decode cX7_found 44 = .ok (.iload 4, 2) := by decide +kernel
theorem dX7_found_46 : decode cX7_found 46 = .ok (.ifCond .ge 8, 3) := by decide +kernel
theorem dX7_found_49 : decode cX7_found 49 = .ok (.bipush (-6), 2) := by decide +kernel
theorem dX7_found_51 : decode cX7_found 51 = .ok (.goto 19, 3) := by decide +kernel
theorem dX7_found_54 : decode cX7_found 54 = .ok (.iload_n 3, 1) := by decide +kernel
theorem dX7_found_55 : decode cX7_found 55 = .ok (.ifCond .eq 10, 3) := by decide +kernel
theorem dX7_found_58 : decode cX7_found 58 = .ok (.iload 4, 2) := by decide +kernel
theorem dX7_found_60 : decode cX7_found 60 = .ok (.iconst 5, 1) := by decide +kernel
theorem dX7_found_61 : decode cX7_found 61 = .ok (.idiv, 1) := by decide +kernel
theorem dX7_found_62 : decode cX7_found 62 = .ok (.goto 8, 3) := by decide +kernel
theorem dX7_found_65 : decode cX7_found 65 = .ok (.iload 4, 2) := by decide +kernel
theorem dX7_found_67 : decode cX7_found 67 = .ok (.bipush 6, 2) := by decide +kernel
theorem dX7_found_69 : decode cX7_found 69 = .ok (.idiv, 1) := by decide +kernel
theorem dX7_found_70 : decode cX7_found 70 = .ok (.ireturn, 1) := by decide +kernel
theorem dX7_listFirst_0 : decode cX7_listFirst 0 = .ok (.aload_n 0, 1) := by decide +kernel
theorem dX7_listFirst_1 : decode cX7_listFirst 1 = .ok (.iconst 0, 1) := by decide +kernel
theorem dX7_listFirst_2 : decode cX7_listFirst 2 = .ok (.putfield 164, 3) := by decide +kernel
theorem dX7_listFirst_5 : decode cX7_listFirst 5 = .ok (.aload_n 0, 1) := by decide +kernel
theorem dX7_listFirst_6 : decode cX7_listFirst 6 = .ok (.getfield 7, 3) := by decide +kernel
theorem dX7_listFirst_9 : decode cX7_listFirst 9 = .ok (.iload_n 1, 1) := by decide +kernel
theorem dX7_listFirst_10 : decode cX7_listFirst 10 = .ok (.baload, 1) := by decide +kernel
theorem dX7_listFirst_11 : decode cX7_listFirst 11 = .ok (.ifCond .eq 4, 3) := by decide +kernel
theorem dX7_listFirst_14 : decode cX7_listFirst 14 = .ok (.return_, 1) := by decide +kernel
theorem dX7_listFirst_15 : decode cX7_listFirst 15 = .ok (.aload_n 0, 1) := by decide +kernel
theorem dX7_listFirst_16 : decode cX7_listFirst 16 = .ok (.getfield 16, 3) := by decide +kernel
theorem dX7_listFirst_19 : decode cX7_listFirst 19 = .ok (.iload_n 1, 1) := by decide +kernel
theorem dX7_listFirst_20 : decode cX7_listFirst 20 = .ok (.iaload, 1) := by decide +kernel
theorem dX7_listFirst_21 : decode cX7_listFirst 21 = .ok (.ifCond .lt 20, 3) := by decide +kernel
theorem dX7_listFirst_24 : decode cX7_listFirst 24 = .ok (.aload_n 0, 1) := by decide +kernel
theorem dX7_listFirst_25 : decode cX7_listFirst 25 = .ok (.getfield 65, 3) := by decide +kernel
theorem dX7_listFirst_28 : decode cX7_listFirst 28 = .ok (.iconst 0, 1) := by decide +kernel
theorem dX7_listFirst_29 : decode cX7_listFirst 29 = .ok (.aload_n 0, 1) := by decide +kernel
theorem dX7_listFirst_30 : decode cX7_listFirst 30 = .ok (.getfield 16, 3) := by decide +kernel
theorem dX7_listFirst_33 : decode cX7_listFirst 33 = .ok (.iload_n 1, 1) := by decide +kernel
theorem dX7_listFirst_34 : decode cX7_listFirst 34 = .ok (.iaload, 1) := by decide +kernel
theorem dX7_listFirst_35 : decode cX7_listFirst 35 = .ok (.iastore, 1) := by decide +kernel
theorem dX7_listFirst_36 : decode cX7_listFirst 36 = .ok (.aload_n 0, 1) := by decide +kernel
theorem dX7_listFirst_37 : decode cX7_listFirst 37 = .ok (.iconst 1, 1) := by decide +kernel
theorem dX7_listFirst_38 : decode cX7_listFirst 38 = .ok (.putfield 164, 3) := by decide +kernel
theorem dX7_listFirst_41 : decode cX7_listFirst 41 = .ok (.iconst 0, 1) := by decide +kernel
theorem dX7_listFirst_42 : decode cX7_listFirst 42 = .ok (.istore_n 2, 1) := by decide +kernel
theorem dX7_listFirst_43 : decode cX7_listFirst 43 = .ok (.iload_n 2, 1) := by decide +kernel
theorem dX7_listFirst_44 : decode cX7_listFirst 44 = .ok (.aload_n 0, 1) := by decide +kernel
theorem dX7_listFirst_45 : decode cX7_listFirst 45 = .ok (.getfield 128, 3) := by decide +kernel
theorem dX7_listFirst_48 : decode cX7_listFirst 48 = .ok (.if_icmp .ge 16, 3) := by decide +kernel
theorem dX7_listFirst_51 : decode cX7_listFirst 51 = .ok (.aload_n 0, 1) := by decide +kernel
theorem dX7_listFirst_52 : decode cX7_listFirst 52 = .ok (.getfield 68, 3) := by decide +kernel
theorem dX7_listFirst_55 : decode cX7_listFirst 55 = .ok (.iload_n 2, 1) := by decide +kernel
theorem dX7_listFirst_56 : decode cX7_listFirst 56 = .ok (.iconst 0, 1) := by decide +kernel
theorem dX7_listFirst_57 : decode cX7_listFirst 57 = .ok (.bastore, 1) := by decide +kernel
theorem dX7_listFirst_58 : decode cX7_listFirst 58 = .ok (.iinc 2 1, 3) := by decide +kernel
theorem dX7_listFirst_61 : decode cX7_listFirst 61 = .ok (.goto (-18), 3) := by decide +kernel
theorem dX7_listFirst_64 : decode cX7_listFirst 64 = .ok (.iconst 0, 1) := by decide +kernel
theorem dX7_listFirst_65 : decode cX7_listFirst 65 = .ok (.istore_n 2, 1) := by decide +kernel
theorem dX7_listFirst_66 : decode cX7_listFirst 66 = .ok (.aload_n 0, 1) := by decide +kernel
theorem dX7_listFirst_67 : decode cX7_listFirst 67 = .ok (.getfield 20, 3) := by decide +kernel
theorem dX7_listFirst_70 : decode cX7_listFirst 70 = .ok (.iload_n 1, 1) := by decide +kernel
theorem dX7_listFirst_71 : decode cX7_listFirst 71 = .ok (.iaload, 1) := by decide +kernel
theorem dX7_listFirst_72 : decode cX7_listFirst 72 = .ok (.iconst 1, 1) := by decide +kernel
theorem dX7_listFirst_73 : decode cX7_listFirst 73 = .ok (.isub, 1) := by decide +kernel
theorem dX7_listFirst_74 : decode cX7_listFirst 74 = .ok (.istore_n 3, 1) := by decide +kernel
theorem dX7_listFirst_75 : decode cX7_listFirst 75 = .ok (.iload_n 3, 1) := by decide +kernel
theorem dX7_listFirst_76 : decode cX7_listFirst 76 = .ok (.ifCond .lt 35, 3) := by decide +kernel
theorem dX7_listFirst_79 : decode cX7_listFirst 79 = .ok (.aload_n 0, 1) := by decide +kernel
theorem dX7_listFirst_80 : decode cX7_listFirst 80 = .ok (.getfield 59, 3) := by decide +kernel
theorem dX7_listFirst_83 : decode cX7_listFirst 83 = .ok (.iload_n 2, 1) := by decide +kernel
theorem dX7_listFirst_84 : decode cX7_listFirst 84 = .ok (.aload_n 0, 1) := by decide +kernel
theorem dX7_listFirst_85 : decode cX7_listFirst 85 = .ok (.getfield 23, 3) := by decide +kernel
theorem dX7_listFirst_88 : decode cX7_listFirst 88 = .ok (.iconst 4, 1) := by decide +kernel
theorem dX7_listFirst_89 : decode cX7_listFirst 89 = .ok (.iload_n 1, 1) := by decide +kernel
theorem dX7_listFirst_90 : decode cX7_listFirst 90 = .ok (.imul, 1) := by decide +kernel
theorem dX7_listFirst_91 : decode cX7_listFirst 91 = .ok (.iload_n 3, 1) := by decide +kernel
theorem dX7_listFirst_92 : decode cX7_listFirst 92 = .ok (.iadd, 1) := by decide +kernel
theorem dX7_listFirst_93 : decode cX7_listFirst 93 = .ok (.iaload, 1) := by decide +kernel
theorem dX7_listFirst_94 : decode cX7_listFirst 94 = .ok (.iastore, 1) := by decide +kernel
theorem dX7_listFirst_95 : decode cX7_listFirst 95 = .ok (.aload_n 0, 1) := by decide +kernel
theorem dX7_listFirst_96 : decode cX7_listFirst 96 = .ok (.getfield 71, 3) := by decide +kernel
theorem dX7_listFirst_99 : decode cX7_listFirst 99 = .ok (.iload_n 2, 1) := by decide +kernel
theorem dX7_listFirst_100 : decode cX7_listFirst 100 = .ok (.iconst 0, 1) := by decide +kernel
theorem dX7_listFirst_101 : decode cX7_listFirst 101 = .ok (.bastore, 1) := by decide +kernel
theorem dX7_listFirst_102 : decode cX7_listFirst 102 = .ok (.iinc 2 1, 3) := by decide +kernel
theorem dX7_listFirst_105 : decode cX7_listFirst 105 = .ok (.iinc 3 (-1), 3) := by decide +kernel
theorem dX7_listFirst_108 : decode cX7_listFirst 108 = .ok (.goto (-33), 3) := by decide +kernel
theorem dX7_listFirst_111 : decode cX7_listFirst 111 = .ok (.iload_n 2, 1) := by decide +kernel
theorem dX7_listFirst_112 : decode cX7_listFirst 112 = .ok (.ifCond .le 134, 3) := by decide +kernel
theorem dX7_listFirst_115 : decode cX7_listFirst 115 = .ok (.iinc 2 (-1), 3) := by decide +kernel
theorem dX7_listFirst_118 : decode cX7_listFirst 118 = .ok (.aload_n 0, 1) := by decide +kernel
theorem dX7_listFirst_119 : decode cX7_listFirst 119 = .ok (.getfield 59, 3) := by decide +kernel
theorem dX7_listFirst_122 : decode cX7_listFirst 122 = .ok (.iload_n 2, 1) := by decide +kernel
theorem dX7_listFirst_123 : decode cX7_listFirst 123 = .ok (.iaload, 1) := by decide +kernel
theorem dX7_listFirst_124 : decode cX7_listFirst 124 = .ok (.istore_n 3, 1) := by decide +kernel
theorem dX7_listFirst_125 : decode cX7_listFirst 125 = .ok (.aload_n 0, 1) := by decide +kernel
theorem dX7_listFirst_126 : decode cX7_listFirst 126 = .ok (.getfield 71, 3) := by decide +kernel
theorem dX7_listFirst_129 : decode cX7_listFirst 129 = .ok (.iload_n 2, 1) := by decide +kernel
theorem dX7_listFirst_130 : decode cX7_listFirst 130 = .ok (.baload, 1) := by decide +kernel
theorem dX7_listFirst_131 : decode cX7_listFirst 131 = .ok (.ifCond .eq 35, 3) := by decide +kernel
theorem dX7_listFirst_134 : decode cX7_listFirst 134 = .ok (.aload_n 0, 1) := by decide +kernel
theorem dX7_listFirst_135 : decode cX7_listFirst 135 = .ok (.getfield 13, 3) := by decide +kernel
theorem dX7_listFirst_138 : decode cX7_listFirst 138 = .ok (.iload_n 3, 1) := by decide +kernel
theorem dX7_listFirst_139 : decode cX7_listFirst 139 = .ok (.baload, 1) := by decide +kernel
theorem dX7_listFirst_140 : decode cX7_listFirst 140 = .ok (.ifCond .eq (-29), 3) := by decide +kernel
theorem dX7_listFirst_143 : decode cX7_listFirst 143 = .ok (.aload_n 0, 1) := by decide +kernel
theorem dX7_listFirst_144 : decode cX7_listFirst 144 = .ok (.getfield 65, 3) := by decide +kernel
theorem dX7_listFirst_147 : decode cX7_listFirst 147 = .ok (.aload_n 0, 1) := by decide +kernel
theorem dX7_listFirst_148 : decode cX7_listFirst 148 = .ok (.getfield 164, 3) := by decide +kernel
theorem dX7_listFirst_151 : decode cX7_listFirst 151 = .ok (.iload_n 3, 1) := by decide +kernel
theorem dX7_listFirst_152 : decode cX7_listFirst 152 = .ok (.iastore, 1) := by decide +kernel
theorem dX7_listFirst_153 : decode cX7_listFirst 153 = .ok (.aload_n 0, 1) := by decide +kernel
theorem dX7_listFirst_154 : decode cX7_listFirst 154 = .ok (.dup, 1) := by decide +kernel
theorem dX7_listFirst_155 : decode cX7_listFirst 155 = .ok (.getfield 164, 3) := by decide +kernel
theorem dX7_listFirst_158 : decode cX7_listFirst 158 = .ok (.iconst 1, 1) := by decide +kernel
theorem dX7_listFirst_159 : decode cX7_listFirst 159 = .ok (.iadd, 1) := by decide +kernel
theorem dX7_listFirst_160 : decode cX7_listFirst 160 = .ok (.putfield 164, 3) := by decide +kernel
theorem dX7_listFirst_163 : decode cX7_listFirst 163 = .ok (.goto (-52), 3) := by decide +kernel
theorem dX7_listFirst_166 : decode cX7_listFirst 166 = .ok (.aload_n 0, 1) := by decide +kernel
theorem dX7_listFirst_167 : decode cX7_listFirst 167 = .ok (.getfield 68, 3) := by decide +kernel
theorem dX7_listFirst_170 : decode cX7_listFirst 170 = .ok (.iload_n 3, 1) := by decide +kernel
theorem dX7_listFirst_171 : decode cX7_listFirst 171 = .ok (.baload, 1) := by decide +kernel
theorem dX7_listFirst_172 : decode cX7_listFirst 172 = .ok (.ifCond .eq 6, 3) := by decide +kernel
theorem dX7_listFirst_175 : decode cX7_listFirst 175 = .ok (.goto (-64), 3) := by decide +kernel
theorem dX7_listFirst_178 : decode cX7_listFirst 178 = .ok (.aload_n 0, 1) := by decide +kernel
theorem dX7_listFirst_179 : decode cX7_listFirst 179 = .ok (.getfield 68, 3) := by decide +kernel
theorem dX7_listFirst_182 : decode cX7_listFirst 182 = .ok (.iload_n 3, 1) := by decide +kernel
theorem dX7_listFirst_183 : decode cX7_listFirst 183 = .ok (.iconst 1, 1) := by decide +kernel
theorem dX7_listFirst_184 : decode cX7_listFirst 184 = .ok (.bastore, 1) := by decide +kernel
theorem dX7_listFirst_185 : decode cX7_listFirst 185 = .ok (.aload_n 0, 1) := by decide +kernel
theorem dX7_listFirst_186 : decode cX7_listFirst 186 = .ok (.getfield 71, 3) := by decide +kernel
theorem dX7_listFirst_189 : decode cX7_listFirst 189 = .ok (.iload_n 2, 1) := by decide +kernel
theorem dX7_listFirst_190 : decode cX7_listFirst 190 = .ok (.iconst 1, 1) := by decide +kernel
theorem dX7_listFirst_191 : decode cX7_listFirst 191 = .ok (.bastore, 1) := by decide +kernel
theorem dX7_listFirst_192 : decode cX7_listFirst 192 = .ok (.iinc 2 1, 3) := by decide +kernel
theorem dX7_listFirst_195 : decode cX7_listFirst 195 = .ok (.aload_n 0, 1) := by decide +kernel
theorem dX7_listFirst_196 : decode cX7_listFirst 196 = .ok (.getfield 20, 3) := by decide +kernel
theorem dX7_listFirst_199 : decode cX7_listFirst 199 = .ok (.iload_n 3, 1) := by decide +kernel
theorem dX7_listFirst_200 : decode cX7_listFirst 200 = .ok (.iaload, 1) := by decide +kernel
theorem dX7_listFirst_201 : decode cX7_listFirst 201 = .ok (.iconst 1, 1) := by decide +kernel
theorem dX7_listFirst_202 : decode cX7_listFirst 202 = .ok (.isub, 1) := by decide +kernel
theorem dX7_listFirst_203 : decode cX7_listFirst 203 = .ok (.istore 4, 2) := by decide +kernel
theorem dX7_listFirst_205 : decode cX7_listFirst 205 = .ok (.iload 4, 2) := by decide +kernel
theorem dX7_listFirst_207 : decode cX7_listFirst 207 = .ok (.ifCond .lt 36, 3) := by decide +kernel
theorem dX7_listFirst_210 : decode cX7_listFirst 210 = .ok (.aload_n 0, 1) := by decide +kernel
theorem dX7_listFirst_211 : decode cX7_listFirst 211 = .ok (.getfield 59, 3) := by decide +kernel
theorem dX7_listFirst_214 : decode cX7_listFirst 214 = .ok (.iload_n 2, 1) := by decide +kernel
theorem dX7_listFirst_215 : decode cX7_listFirst 215 = .ok (.aload_n 0, 1) := by decide +kernel
theorem dX7_listFirst_216 : decode cX7_listFirst 216 = .ok (.getfield 23, 3) := by decide +kernel
theorem dX7_listFirst_219 : decode cX7_listFirst 219 = .ok (.iconst 4, 1) := by decide +kernel
theorem dX7_listFirst_220 : decode cX7_listFirst 220 = .ok (.iload_n 3, 1) := by decide +kernel
theorem dX7_listFirst_221 : decode cX7_listFirst 221 = .ok (.imul, 1) := by decide +kernel
theorem dX7_listFirst_222 : decode cX7_listFirst 222 = .ok (.iload 4, 2) := by decide +kernel
theorem dX7_listFirst_224 : decode cX7_listFirst 224 = .ok (.iadd, 1) := by decide +kernel
theorem dX7_listFirst_225 : decode cX7_listFirst 225 = .ok (.iaload, 1) := by decide +kernel
theorem dX7_listFirst_226 : decode cX7_listFirst 226 = .ok (.iastore, 1) := by decide +kernel
theorem dX7_listFirst_227 : decode cX7_listFirst 227 = .ok (.aload_n 0, 1) := by decide +kernel
theorem dX7_listFirst_228 : decode cX7_listFirst 228 = .ok (.getfield 71, 3) := by decide +kernel
theorem dX7_listFirst_231 : decode cX7_listFirst 231 = .ok (.iload_n 2, 1) := by decide +kernel
theorem dX7_listFirst_232 : decode cX7_listFirst 232 = .ok (.iconst 0, 1) := by decide +kernel
theorem dX7_listFirst_233 : decode cX7_listFirst 233 = .ok (.bastore, 1) := by decide +kernel
theorem dX7_listFirst_234 : decode cX7_listFirst 234 = .ok (.iinc 2 1, 3) := by decide +kernel
theorem dX7_listFirst_237 : decode cX7_listFirst 237 = .ok (.iinc 4 (-1), 3) := by decide +kernel
theorem dX7_listFirst_240 : decode cX7_listFirst 240 = .ok (.goto (-35), 3) := by decide +kernel
theorem dX7_listFirst_243 : decode cX7_listFirst 243 = .ok (.goto (-132), 3) := by decide +kernel
theorem dX7_listFirst_246 : decode cX7_listFirst 246 = .ok (.return_, 1) := by decide +kernel
theorem dX7_started_0 : decode cX7_started 0 = .ok (.aload_n 0, 1) := by decide +kernel
theorem dX7_started_1 : decode cX7_started 1 = .ok (.iload_n 1, 1) := by decide +kernel
theorem dX7_started_2 : decode cX7_started 2 = .ok (.iload_n 2, 1) := by decide +kernel
theorem dX7_started_3 : decode cX7_started 3 = .ok (.iload_n 3, 1) := by decide +kernel
theorem dX7_started_4 : decode cX7_started 4 = .ok (.invokevirtual 167, 3) := by decide +kernel
theorem dX7_started_7 : decode cX7_started 7 = .ok (.ifCond .eq 6, 3) := by decide +kernel
theorem dX7_started_10 : decode cX7_started 10 = .ok (.bipush (-6), 2) := by decide +kernel
theorem dX7_started_12 : decode cX7_started 12 = .ok (.ireturn, 1) := by decide +kernel
theorem dX7_started_13 : decode cX7_started 13 = .ok (.iload_n 1, 1) := by decide +kernel
theorem dX7_started_14 : decode cX7_started 14 = .ok (.iconst 1, 1) := by decide +kernel
theorem dX7_started_15 : decode cX7_started 15 = .ok (.if_icmp .eq 8, 3) := by decide +kernel
theorem dX7_started_18 : decode cX7_started 18 = .ok (.iload_n 1, 1) := by decide +kernel
theorem dX7_started_19 : decode cX7_started 19 = .ok (.iconst 2, 1) := by decide +kernel
theorem dX7_started_20 : decode cX7_started 20 = .ok (.if_icmp .ne 32, 3) := by decide +kernel
theorem dX7_started_23 : decode cX7_started 23 = .ok (.aload_n 0, 1) := by decide +kernel
theorem dX7_started_24 : decode cX7_started 24 = .ok (.iload_n 2, 1) := by decide +kernel
theorem dX7_started_25 : decode cX7_started 25 = .ok (.iload_n 3, 1) := by decide +kernel
theorem dX7_started_26 : decode cX7_started 26 = .ok (.invokevirtual 161, 3) := by decide +kernel
theorem dX7_started_29 : decode cX7_started 29 = .ok (.istore 4, 2) := by decide +kernel
theorem dX7_started_31 : decode cX7_started 31 = .ok (.aload_n 0, 1) := by decide +kernel
theorem dX7_started_32 : decode cX7_started 32 = .ok (.getfield 32, 3) := by decide +kernel
theorem dX7_started_35 : decode cX7_started 35 = .ok (.iload 4, 2) := by decide +kernel
theorem dX7_started_37 : decode cX7_started 37 = .ok (.baload, 1) := by decide +kernel
theorem dX7_started_38 : decode cX7_started 38 = .ok (.ifCond .eq 8, 3) := by decide +kernel
theorem dX7_started_41 : decode cX7_started 41 = .ok (.bipush (-6), 2) := by decide +kernel
theorem dX7_started_43 : decode cX7_started 43 = .ok (.goto 8, 3) := by decide +kernel
theorem dX7_started_46 : decode cX7_started 46 = .ok (.iload 4, 2) := by decide +kernel
theorem dX7_started_48 : decode cX7_started 48 = .ok (.bipush 6, 2) := by decide +kernel
theorem dX7_started_50 : decode cX7_started 50 = .ok (.idiv, 1) := by decide +kernel
theorem dX7_started_51 : decode cX7_started 51 = .ok (.ireturn, 1) := by decide +kernel
theorem dX7_started_52 : decode cX7_started 52 = .ok (.iload_n 1, 1) := by decide +kernel
theorem dX7_started_53 : decode cX7_started 53 = .ok (.iconst 3, 1) := by decide +kernel
theorem dX7_started_54 : decode cX7_started 54 = .ok (.if_icmp .ne 14, 3) := by decide +kernel
theorem dX7_started_57 : decode cX7_started 57 = .ok (.aload_n 0, 1) := by decide +kernel
theorem dX7_started_58 : decode cX7_started 58 = .ok (.iload_n 2, 1) := by decide +kernel
theorem dX7_started_59 : decode cX7_started 59 = .ok (.iload_n 3, 1) := by decide +kernel
theorem dX7_started_60 : decode cX7_started 60 = .ok (.invokevirtual 158, 3) := by decide +kernel
theorem dX7_started_63 : decode cX7_started 63 = .ok (.iconst 5, 1) := by decide +kernel
theorem dX7_started_64 : decode cX7_started 64 = .ok (.idiv, 1) := by decide +kernel
theorem dX7_started_65 : decode cX7_started 65 = .ok (.goto 19, 3) := by decide +kernel
theorem dX7_started_68 : decode cX7_started 68 = .ok (.iload_n 1, 1) := by decide +kernel
theorem dX7_started_69 : decode cX7_started 69 = .ok (.iconst 4, 1) := by decide +kernel
theorem dX7_started_70 : decode cX7_started 70 = .ok (.if_icmp .eq 8, 3) := by decide +kernel
theorem dX7_started_73 : decode cX7_started 73 = .ok (.iload_n 1, 1) := by decide +kernel
theorem dX7_started_74 : decode cX7_started 74 = .ok (.iconst 5, 1) := by decide +kernel
theorem dX7_started_75 : decode cX7_started 75 = .ok (.if_icmp .ne 7, 3) := by decide +kernel
theorem dX7_started_78 : decode cX7_started 78 = .ok (.iload_n 2, 1) := by decide +kernel
theorem dX7_started_79 : decode cX7_started 79 = .ok (.goto 5, 3) := by decide +kernel
theorem dX7_started_82 : decode cX7_started 82 = .ok (.bipush (-6), 2) := by decide +kernel
theorem dX7_started_84 : decode cX7_started 84 = .ok (.ireturn, 1) := by decide +kernel
theorem dX7_isRuled_0 : decode cX7_isRuled 0 = .ok (.iload_n 1, 1) := by decide +kernel
theorem dX7_isRuled_1 : decode cX7_isRuled 1 = .ok (.tableswitch 114 1 4 #[31, 46, 75, 90], 31) := by decide +kernel
theorem dX7_isRuled_32 : decode cX7_isRuled 32 = .ok (.aload_n 0, 1) := by decide +kernel
theorem dX7_isRuled_33 : decode cX7_isRuled 33 = .ok (.iload_n 2, 1) := by decide +kernel
theorem dX7_isRuled_34 : decode cX7_isRuled 34 = .ok (.iload_n 3, 1) := by decide +kernel
theorem dX7_isRuled_35 : decode cX7_isRuled 35 = .ok (.invokevirtual 161, 3) := by decide +kernel
theorem dX7_isRuled_38 : decode cX7_isRuled 38 = .ok (.ifCond .ge 7, 3) := by decide +kernel
theorem dX7_isRuled_41 : decode cX7_isRuled 41 = .ok (.iconst 1, 1) := by decide +kernel
theorem dX7_isRuled_42 : decode cX7_isRuled 42 = .ok (.goto 4, 3) := by decide +kernel
theorem dX7_isRuled_45 : decode cX7_isRuled 45 = .ok (.iconst 0, 1) := by decide +kernel
theorem dX7_isRuled_46 : decode cX7_isRuled 46 = .ok (.ireturn, 1) := by decide +kernel
theorem dX7_isRuled_47 : decode cX7_isRuled 47 = .ok (.aload_n 0, 1) := by decide +kernel
theorem dX7_isRuled_48 : decode cX7_isRuled 48 = .ok (.iload_n 2, 1) := by decide +kernel
theorem dX7_isRuled_49 : decode cX7_isRuled 49 = .ok (.iload_n 3, 1) := by decide +kernel
theorem dX7_isRuled_50 : decode cX7_isRuled 50 = .ok (.invokevirtual 161, 3) := by decide +kernel
theorem dX7_isRuled_53 : decode cX7_isRuled 53 = .ok (.istore 4, 2) := by decide +kernel
theorem dX7_isRuled_55 : decode cX7_isRuled 55 = .ok (.iload 4, 2) := by decide +kernel
theorem dX7_isRuled_57 : decode cX7_isRuled 57 = .ok (.ifCond .lt 13, 3) := by decide +kernel
theorem dX7_isRuled_60 : decode cX7_isRuled 60 = .ok (.aload_n 0, 1) := by decide +kernel
theorem dX7_isRuled_61 : decode cX7_isRuled 61 = .ok (.getfield 32, 3) := by decide +kernel
theorem dX7_isRuled_64 : decode cX7_isRuled 64 = .ok (.iload 4, 2) := by decide +kernel
theorem dX7_isRuled_66 : decode cX7_isRuled 66 = .ok (.baload, 1) := by decide +kernel
theorem dX7_isRuled_67 : decode cX7_isRuled 67 = .ok (.ifCond .eq 7, 3) := by decide +kernel
theorem dX7_isRuled_70 : decode cX7_isRuled 70 = .ok (.iconst 1, 1) := by decide +kernel
theorem dX7_isRuled_71 : decode cX7_isRuled 71 = .ok (.goto 4, 3) := by decide +kernel
theorem dX7_isRuled_74 : decode cX7_isRuled 74 = .ok (.iconst 0, 1) := by decide +kernel
theorem dX7_isRuled_75 : decode cX7_isRuled 75 = .ok (.ireturn, 1) := by decide +kernel
theorem dX7_isRuled_76 : decode cX7_isRuled 76 = .ok (.aload_n 0, 1) := by decide +kernel
theorem dX7_isRuled_77 : decode cX7_isRuled 77 = .ok (.iload_n 2, 1) := by decide +kernel
theorem dX7_isRuled_78 : decode cX7_isRuled 78 = .ok (.iload_n 3, 1) := by decide +kernel
theorem dX7_isRuled_79 : decode cX7_isRuled 79 = .ok (.invokevirtual 158, 3) := by decide +kernel
theorem dX7_isRuled_82 : decode cX7_isRuled 82 = .ok (.ifCond .ge 7, 3) := by decide +kernel
theorem dX7_isRuled_85 : decode cX7_isRuled 85 = .ok (.iconst 1, 1) := by decide +kernel
theorem dX7_isRuled_86 : decode cX7_isRuled 86 = .ok (.goto 4, 3) := by decide +kernel
theorem dX7_isRuled_89 : decode cX7_isRuled 89 = .ok (.iconst 0, 1) := by decide +kernel
theorem dX7_isRuled_90 : decode cX7_isRuled 90 = .ok (.ireturn, 1) := by decide +kernel
theorem dX7_isRuled_91 : decode cX7_isRuled 91 = .ok (.aload_n 0, 1) := by decide +kernel
theorem dX7_isRuled_92 : decode cX7_isRuled 92 = .ok (.getfield 7, 3) := by decide +kernel
theorem dX7_isRuled_95 : decode cX7_isRuled 95 = .ok (.iload_n 2, 1) := by decide +kernel
theorem dX7_isRuled_96 : decode cX7_isRuled 96 = .ok (.baload, 1) := by decide +kernel
theorem dX7_isRuled_97 : decode cX7_isRuled 97 = .ok (.ifCond .ne 12, 3) := by decide +kernel
theorem dX7_isRuled_100 : decode cX7_isRuled 100 = .ok (.aload_n 0, 1) := by decide +kernel
theorem dX7_isRuled_101 : decode cX7_isRuled 101 = .ok (.getfield 13, 3) := by decide +kernel
theorem dX7_isRuled_104 : decode cX7_isRuled 104 = .ok (.iload_n 2, 1) := by decide +kernel
theorem dX7_isRuled_105 : decode cX7_isRuled 105 = .ok (.baload, 1) := by decide +kernel
theorem dX7_isRuled_106 : decode cX7_isRuled 106 = .ok (.ifCond .eq 7, 3) := by decide +kernel
theorem dX7_isRuled_109 : decode cX7_isRuled 109 = .ok (.iconst 1, 1) := by decide +kernel
theorem dX7_isRuled_110 : decode cX7_isRuled 110 = .ok (.goto 4, 3) := by decide +kernel
theorem dX7_isRuled_113 : decode cX7_isRuled 113 = .ok (.iconst 0, 1) := by decide +kernel
theorem dX7_isRuled_114 : decode cX7_isRuled 114 = .ok (.ireturn, 1) := by decide +kernel
theorem dX7_isRuled_115 : decode cX7_isRuled 115 = .ok (.iconst 0, 1) := by decide +kernel
theorem dX7_isRuled_116 : decode cX7_isRuled 116 = .ok (.ireturn, 1) := by decide +kernel
theorem dX7_addAsked_0 : decode cX7_addAsked 0 = .ok (.iload_n 1, 1) := by decide +kernel
theorem dX7_addAsked_1 : decode cX7_addAsked 1 = .ok (.ifCond .lt 8, 3) := by decide +kernel
theorem dX7_addAsked_4 : decode cX7_addAsked 4 = .ok (.iload_n 1, 1) := by decide +kernel
theorem dX7_addAsked_5 : decode cX7_addAsked 5 = .ok (.iload_n 2, 1) := by decide +kernel
theorem dX7_addAsked_6 : decode cX7_addAsked 6 = .ok (.if_icmp .ne 7, 3) := by decide +kernel
theorem dX7_addAsked_9 : decode cX7_addAsked 9 = .ok (.iconst 1, 1) := by decide +kernel
theorem dX7_addAsked_10 : decode cX7_addAsked 10 = .ok (.goto 4, 3) := by decide +kernel
theorem dX7_addAsked_13 : decode cX7_addAsked 13 = .ok (.iconst 0, 1) := by decide +kernel
theorem dX7_addAsked_14 : decode cX7_addAsked 14 = .ok (.istore_n 3, 1) := by decide +kernel
theorem dX7_addAsked_15 : decode cX7_addAsked 15 = .ok (.iconst 0, 1) := by decide +kernel
theorem dX7_addAsked_16 : decode cX7_addAsked 16 = .ok (.istore 4, 2) := by decide +kernel
theorem dX7_addAsked_18 : decode cX7_addAsked 18 = .ok (.iload 4, 2) := by decide +kernel
theorem dX7_addAsked_20 : decode cX7_addAsked 20 = .ok (.aload_n 0, 1) := by decide +kernel
theorem dX7_addAsked_21 : decode cX7_addAsked 21 = .ok (.getfield 170, 3) := by decide +kernel
theorem dX7_addAsked_24 : decode cX7_addAsked 24 = .ok (.if_icmp .ge 30, 3) := by decide +kernel
theorem dX7_addAsked_27 : decode cX7_addAsked 27 = .ok (.iload_n 3, 1) := by decide +kernel
theorem dX7_addAsked_28 : decode cX7_addAsked 28 = .ok (.ifCond .ne 14, 3) := by decide +kernel
theorem dX7_addAsked_31 : decode cX7_addAsked 31 = .ok (.aload_n 0, 1) := by decide +kernel
theorem dX7_addAsked_32 : decode cX7_addAsked 32 = .ok (.getfield 74, 3) := by decide +kernel
theorem dX7_addAsked_35 : decode cX7_addAsked 35 = .ok (.iload 4, 2) := by decide +kernel
theorem dX7_addAsked_37 : decode cX7_addAsked 37 = .ok (.iaload, 1) := by decide +kernel
theorem dX7_addAsked_38 : decode cX7_addAsked 38 = .ok (.iload_n 1, 1) := by decide +kernel
theorem dX7_addAsked_39 : decode cX7_addAsked 39 = .ok (.if_icmp .ne 7, 3) := by decide +kernel
theorem dX7_addAsked_42 : decode cX7_addAsked 42 = .ok (.iconst 1, 1) := by decide +kernel
theorem dX7_addAsked_43 : decode cX7_addAsked 43 = .ok (.goto 4, 3) := by decide +kernel
theorem dX7_addAsked_46 : decode cX7_addAsked 46 = .ok (.iconst 0, 1) := by decide +kernel
theorem dX7_addAsked_47 : decode cX7_addAsked 47 = .ok (.istore_n 3, 1) := by decide +kernel
theorem dX7_addAsked_48 : decode cX7_addAsked 48 = .ok (.iinc 4 1, 3) := by decide +kernel
theorem dX7_addAsked_51 : decode cX7_addAsked 51 = .ok (.goto (-33), 3) := by decide +kernel
theorem dX7_addAsked_54 : decode cX7_addAsked 54 = .ok (.iload_n 3, 1) := by decide +kernel
theorem dX7_addAsked_55 : decode cX7_addAsked 55 = .ok (.ifCond .ne 23, 3) := by decide +kernel
theorem dX7_addAsked_58 : decode cX7_addAsked 58 = .ok (.aload_n 0, 1) := by decide +kernel
theorem dX7_addAsked_59 : decode cX7_addAsked 59 = .ok (.getfield 74, 3) := by decide +kernel
theorem dX7_addAsked_62 : decode cX7_addAsked 62 = .ok (.aload_n 0, 1) := by decide +kernel
theorem dX7_addAsked_63 : decode cX7_addAsked 63 = .ok (.getfield 170, 3) := by decide +kernel
theorem dX7_addAsked_66 : decode cX7_addAsked 66 = .ok (.iload_n 1, 1) := by decide +kernel
theorem dX7_addAsked_67 : decode cX7_addAsked 67 = .ok (.iastore, 1) := by decide +kernel
theorem dX7_addAsked_68 : decode cX7_addAsked 68 = .ok (.aload_n 0, 1) := by decide +kernel
theorem dX7_addAsked_69 : decode cX7_addAsked 69 = .ok (.dup, 1) := by decide +kernel
theorem dX7_addAsked_70 : decode cX7_addAsked 70 = .ok (.getfield 170, 3) := by decide +kernel
theorem dX7_addAsked_73 : decode cX7_addAsked 73 = .ok (.iconst 1, 1) := by decide +kernel
theorem dX7_addAsked_74 : decode cX7_addAsked 74 = .ok (.iadd, 1) := by decide +kernel
theorem dX7_addAsked_75 : decode cX7_addAsked 75 = .ok (.putfield 170, 3) := by decide +kernel
theorem dX7_addAsked_78 : decode cX7_addAsked 78 = .ok (.return_, 1) := by decide +kernel
theorem dX7_listAsked_0 : decode cX7_listAsked 0 = .ok (.aload_n 0, 1) := by decide +kernel
theorem dX7_listAsked_1 : decode cX7_listAsked 1 = .ok (.iload_n 1, 1) := by decide +kernel
theorem dX7_listAsked_2 : decode cX7_listAsked 2 = .ok (.invokevirtual 173, 3) := by decide +kernel
theorem dX7_listAsked_5 : decode cX7_listAsked 5 = .ok (.aload_n 0, 1) := by decide +kernel
theorem dX7_listAsked_6 : decode cX7_listAsked 6 = .ok (.iconst 0, 1) := by decide +kernel
theorem dX7_listAsked_7 : decode cX7_listAsked 7 = .ok (.putfield 170, 3) := by decide +kernel
theorem dX7_listAsked_10 : decode cX7_listAsked 10 = .ok (.iconst 0, 1) := by decide +kernel
theorem dX7_listAsked_11 : decode cX7_listAsked 11 = .ok (.istore_n 2, 1) := by decide +kernel
theorem dX7_listAsked_12 : decode cX7_listAsked 12 = .ok (.iload_n 2, 1) := by decide +kernel
theorem dX7_listAsked_13 : decode cX7_listAsked 13 = .ok (.aload_n 0, 1) := by decide +kernel
theorem dX7_listAsked_14 : decode cX7_listAsked 14 = .ok (.getfield 164, 3) := by decide +kernel
theorem dX7_listAsked_17 : decode cX7_listAsked 17 = .ok (.if_icmp .ge 20, 3) := by decide +kernel
theorem dX7_listAsked_20 : decode cX7_listAsked 20 = .ok (.aload_n 0, 1) := by decide +kernel
theorem dX7_listAsked_21 : decode cX7_listAsked 21 = .ok (.aload_n 0, 1) := by decide +kernel
theorem dX7_listAsked_22 : decode cX7_listAsked 22 = .ok (.getfield 65, 3) := by decide +kernel
theorem dX7_listAsked_25 : decode cX7_listAsked 25 = .ok (.iload_n 2, 1) := by decide +kernel
theorem dX7_listAsked_26 : decode cX7_listAsked 26 = .ok (.iaload, 1) := by decide +kernel
theorem dX7_listAsked_27 : decode cX7_listAsked 27 = .ok (.iload_n 1, 1) := by decide +kernel
theorem dX7_listAsked_28 : decode cX7_listAsked 28 = .ok (.invokevirtual 177, 3) := by decide +kernel
theorem dX7_listAsked_31 : decode cX7_listAsked 31 = .ok (.iinc 2 1, 3) := by decide +kernel
theorem dX7_listAsked_34 : decode cX7_listAsked 34 = .ok (.goto (-22), 3) := by decide +kernel
theorem dX7_listAsked_37 : decode cX7_listAsked 37 = .ok (.bipush 60, 2) := by decide +kernel
theorem dX7_listAsked_39 : decode cX7_listAsked 39 = .ok (.iload_n 1, 1) := by decide +kernel
theorem dX7_listAsked_40 : decode cX7_listAsked 40 = .ok (.imul, 1) := by decide +kernel
theorem dX7_listAsked_41 : decode cX7_listAsked 41 = .ok (.istore_n 2, 1) := by decide +kernel
theorem dX7_listAsked_42 : decode cX7_listAsked 42 = .ok (.iload_n 2, 1) := by decide +kernel
theorem dX7_listAsked_43 : decode cX7_listAsked 43 = .ok (.bipush 60, 2) := by decide +kernel
theorem dX7_listAsked_45 : decode cX7_listAsked 45 = .ok (.iload_n 1, 1) := by decide +kernel
theorem dX7_listAsked_46 : decode cX7_listAsked 46 = .ok (.imul, 1) := by decide +kernel
theorem dX7_listAsked_47 : decode cX7_listAsked 47 = .ok (.aload_n 0, 1) := by decide +kernel
theorem dX7_listAsked_48 : decode cX7_listAsked 48 = .ok (.getfield 44, 3) := by decide +kernel
theorem dX7_listAsked_51 : decode cX7_listAsked 51 = .ok (.iconst 5, 1) := by decide +kernel
theorem dX7_listAsked_52 : decode cX7_listAsked 52 = .ok (.iload_n 1, 1) := by decide +kernel
theorem dX7_listAsked_53 : decode cX7_listAsked 53 = .ok (.imul, 1) := by decide +kernel
theorem dX7_listAsked_54 : decode cX7_listAsked 54 = .ok (.iaload, 1) := by decide +kernel
theorem dX7_listAsked_55 : decode cX7_listAsked 55 = .ok (.iadd, 1) := by decide +kernel
theorem dX7_listAsked_56 : decode cX7_listAsked 56 = .ok (.if_icmp .ge 36, 3) := by decide +kernel
theorem dX7_listAsked_59 : decode cX7_listAsked 59 = .ok (.aload_n 0, 1) := by decide +kernel
theorem dX7_listAsked_60 : decode cX7_listAsked 60 = .ok (.aload_n 0, 1) := by decide +kernel
theorem dX7_listAsked_61 : decode cX7_listAsked 61 = .ok (.aload_n 0, 1) := by decide +kernel
theorem dX7_listAsked_62 : decode cX7_listAsked 62 = .ok (.getfield 47, 3) := by decide +kernel
theorem dX7_listAsked_65 : decode cX7_listAsked 65 = .ok (.iload_n 2, 1) := by decide +kernel
theorem dX7_listAsked_66 : decode cX7_listAsked 66 = .ok (.iaload, 1) := by decide +kernel
theorem dX7_listAsked_67 : decode cX7_listAsked 67 = .ok (.aload_n 0, 1) := by decide +kernel
theorem dX7_listAsked_68 : decode cX7_listAsked 68 = .ok (.getfield 50, 3) := by decide +kernel
theorem dX7_listAsked_71 : decode cX7_listAsked 71 = .ok (.iload_n 2, 1) := by decide +kernel
theorem dX7_listAsked_72 : decode cX7_listAsked 72 = .ok (.iaload, 1) := by decide +kernel
theorem dX7_listAsked_73 : decode cX7_listAsked 73 = .ok (.aload_n 0, 1) := by decide +kernel
theorem dX7_listAsked_74 : decode cX7_listAsked 74 = .ok (.getfield 53, 3) := by decide +kernel
theorem dX7_listAsked_77 : decode cX7_listAsked 77 = .ok (.iload_n 2, 1) := by decide +kernel
theorem dX7_listAsked_78 : decode cX7_listAsked 78 = .ok (.iaload, 1) := by decide +kernel
theorem dX7_listAsked_79 : decode cX7_listAsked 79 = .ok (.invokevirtual 181, 3) := by decide +kernel
theorem dX7_listAsked_82 : decode cX7_listAsked 82 = .ok (.iload_n 1, 1) := by decide +kernel
theorem dX7_listAsked_83 : decode cX7_listAsked 83 = .ok (.invokevirtual 177, 3) := by decide +kernel
theorem dX7_listAsked_86 : decode cX7_listAsked 86 = .ok (.iinc 2 1, 3) := by decide +kernel
theorem dX7_listAsked_89 : decode cX7_listAsked 89 = .ok (.goto (-47), 3) := by decide +kernel
theorem dX7_listAsked_92 : decode cX7_listAsked 92 = .ok (.return_, 1) := by decide +kernel
theorem dX7_asks_0 : decode cX7_asks 0 = .ok (.aload_n 0, 1) := by decide +kernel
theorem dX7_asks_1 : decode cX7_asks 1 = .ok (.iload_n 1, 1) := by decide +kernel
theorem dX7_asks_2 : decode cX7_asks 2 = .ok (.invokevirtual 136, 3) := by decide +kernel
theorem dX7_asks_5 : decode cX7_asks 5 = .ok (.ifCond .ne 5, 3) := by decide +kernel
theorem dX7_asks_8 : decode cX7_asks 8 = .ok (.iconst (-1), 1) := by decide +kernel
theorem dX7_asks_9 : decode cX7_asks 9 = .ok (.ireturn, 1) := by decide +kernel
theorem dX7_asks_10 : decode cX7_asks 10 = .ok (.aload_n 0, 1) := by decide +kernel
theorem dX7_asks_11 : decode cX7_asks 11 = .ok (.iload_n 1, 1) := by decide +kernel
theorem dX7_asks_12 : decode cX7_asks 12 = .ok (.invokevirtual 185, 3) := by decide +kernel
theorem dX7_asks_15 : decode cX7_asks 15 = .ok (.iload_n 2, 1) := by decide +kernel
theorem dX7_asks_16 : decode cX7_asks 16 = .ok (.iconst 0, 1) := by decide +kernel
theorem dX7_asks_17 : decode cX7_asks 17 = .ok (.aload_n 0, 1) := by decide +kernel
theorem dX7_asks_18 : decode cX7_asks 18 = .ok (.getfield 170, 3) := by decide +kernel
theorem dX7_asks_21 : decode cX7_asks 21 = .ok (.iconst 1, 1) := by decide +kernel
theorem dX7_asks_22 : decode cX7_asks 22 = .ok (.isub, 1) := by decide +kernel
theorem dX7_asks_23 : decode cX7_asks 23 = .ok (.invokestatic 132, 3) := by decide +kernel
theorem dX7_asks_26 : decode cX7_asks 26 = .ok (.ifCond .eq 12, 3) := by decide +kernel
theorem dX7_asks_29 : decode cX7_asks 29 = .ok (.aload_n 0, 1) := by decide +kernel
theorem dX7_asks_30 : decode cX7_asks 30 = .ok (.getfield 74, 3) := by decide +kernel
theorem dX7_asks_33 : decode cX7_asks 33 = .ok (.iload_n 2, 1) := by decide +kernel
theorem dX7_asks_34 : decode cX7_asks 34 = .ok (.iaload, 1) := by decide +kernel
theorem dX7_asks_35 : decode cX7_asks 35 = .ok (.goto 5, 3) := by decide +kernel
theorem dX7_asks_38 : decode cX7_asks 38 = .ok (.bipush (-6), 2) := by decide +kernel
theorem dX7_asks_40 : decode cX7_asks 40 = .ok (.ireturn, 1) := by decide +kernel
theorem dX7_isRound_0 : decode cX7_isRound 0 = .ok (.iconst 0, 1) := by decide +kernel
theorem dX7_isRound_1 : decode cX7_isRound 1 = .ok (.istore_n 2, 1) := by decide +kernel
theorem dX7_isRound_2 : decode cX7_isRound 2 = .ok (.iload_n 2, 1) := by decide +kernel
theorem dX7_isRound_3 : decode cX7_isRound 3 = .ok (.aload_n 0, 1) := by decide +kernel
theorem dX7_isRound_4 : decode cX7_isRound 4 = .ok (.getfield 128, 3) := by decide +kernel
theorem dX7_isRound_7 : decode cX7_isRound 7 = .ok (.if_icmp .ge 16, 3) := by decide +kernel
theorem dX7_isRound_10 : decode cX7_isRound 10 = .ok (.aload_n 0, 1) := by decide +kernel
theorem dX7_isRound_11 : decode cX7_isRound 11 = .ok (.getfield 77, 3) := by decide +kernel
theorem dX7_isRound_14 : decode cX7_isRound 14 = .ok (.iload_n 2, 1) := by decide +kernel
theorem dX7_isRound_15 : decode cX7_isRound 15 = .ok (.iconst 0, 1) := by decide +kernel
theorem dX7_isRound_16 : decode cX7_isRound 16 = .ok (.bastore, 1) := by decide +kernel
theorem dX7_isRound_17 : decode cX7_isRound 17 = .ok (.iinc 2 1, 3) := by decide +kernel
theorem dX7_isRound_20 : decode cX7_isRound 20 = .ok (.goto (-18), 3) := by decide +kernel
theorem dX7_isRound_23 : decode cX7_isRound 23 = .ok (.iconst 1, 1) := by decide +kernel
theorem dX7_isRound_24 : decode cX7_isRound 24 = .ok (.istore_n 2, 1) := by decide +kernel
theorem dX7_isRound_25 : decode cX7_isRound 25 = .ok (.aload_n 0, 1) := by decide +kernel
theorem dX7_isRound_26 : decode cX7_isRound 26 = .ok (.getfield 80, 3) := by decide +kernel
theorem dX7_isRound_29 : decode cX7_isRound 29 = .ok (.iconst 0, 1) := by decide +kernel
theorem dX7_isRound_30 : decode cX7_isRound 30 = .ok (.iload_n 1, 1) := by decide +kernel
theorem dX7_isRound_31 : decode cX7_isRound 31 = .ok (.iastore, 1) := by decide +kernel
theorem dX7_isRound_32 : decode cX7_isRound 32 = .ok (.iconst 0, 1) := by decide +kernel
theorem dX7_isRound_33 : decode cX7_isRound 33 = .ok (.istore_n 3, 1) := by decide +kernel
theorem dX7_isRound_34 : decode cX7_isRound 34 = .ok (.iload_n 2, 1) := by decide +kernel
theorem dX7_isRound_35 : decode cX7_isRound 35 = .ok (.ifCond .le 102, 3) := by decide +kernel
theorem dX7_isRound_38 : decode cX7_isRound 38 = .ok (.iinc 2 (-1), 3) := by decide +kernel
theorem dX7_isRound_41 : decode cX7_isRound 41 = .ok (.aload_n 0, 1) := by decide +kernel
theorem dX7_isRound_42 : decode cX7_isRound 42 = .ok (.aload_n 0, 1) := by decide +kernel
theorem dX7_isRound_43 : decode cX7_isRound 43 = .ok (.getfield 80, 3) := by decide +kernel
theorem dX7_isRound_46 : decode cX7_isRound 46 = .ok (.iload_n 2, 1) := by decide +kernel
theorem dX7_isRound_47 : decode cX7_isRound 47 = .ok (.iaload, 1) := by decide +kernel
theorem dX7_isRound_48 : decode cX7_isRound 48 = .ok (.invokevirtual 185, 3) := by decide +kernel
theorem dX7_isRound_51 : decode cX7_isRound 51 = .ok (.iconst 0, 1) := by decide +kernel
theorem dX7_isRound_52 : decode cX7_isRound 52 = .ok (.istore 4, 2) := by decide +kernel
theorem dX7_isRound_54 : decode cX7_isRound 54 = .ok (.iload 4, 2) := by decide +kernel
theorem dX7_isRound_56 : decode cX7_isRound 56 = .ok (.aload_n 0, 1) := by decide +kernel
theorem dX7_isRound_57 : decode cX7_isRound 57 = .ok (.getfield 170, 3) := by decide +kernel
theorem dX7_isRound_60 : decode cX7_isRound 60 = .ok (.if_icmp .ge 74, 3) := by decide +kernel
theorem dX7_isRound_63 : decode cX7_isRound 63 = .ok (.iload_n 3, 1) := by decide +kernel
theorem dX7_isRound_64 : decode cX7_isRound 64 = .ok (.ifCond .ne 14, 3) := by decide +kernel
theorem dX7_isRound_67 : decode cX7_isRound 67 = .ok (.aload_n 0, 1) := by decide +kernel
theorem dX7_isRound_68 : decode cX7_isRound 68 = .ok (.getfield 74, 3) := by decide +kernel
theorem dX7_isRound_71 : decode cX7_isRound 71 = .ok (.iload 4, 2) := by decide +kernel
theorem dX7_isRound_73 : decode cX7_isRound 73 = .ok (.iaload, 1) := by decide +kernel
theorem dX7_isRound_74 : decode cX7_isRound 74 = .ok (.iload_n 1, 1) := by decide +kernel
theorem dX7_isRound_75 : decode cX7_isRound 75 = .ok (.if_icmp .ne 7, 3) := by decide +kernel
theorem dX7_isRound_78 : decode cX7_isRound 78 = .ok (.iconst 1, 1) := by decide +kernel
theorem dX7_isRound_79 : decode cX7_isRound 79 = .ok (.goto 4, 3) := by decide +kernel
theorem dX7_isRound_82 : decode cX7_isRound 82 = .ok (.iconst 0, 1) := by decide +kernel
theorem dX7_isRound_83 : decode cX7_isRound 83 = .ok (.istore_n 3, 1) := by decide +kernel
theorem dX7_isRound_84 : decode cX7_isRound 84 = .ok (.aload_n 0, 1) := by decide +kernel
theorem dX7_isRound_85 : decode cX7_isRound 85 = .ok (.getfield 77, 3) := by decide +kernel
theorem dX7_isRound_88 : decode cX7_isRound 88 = .ok (.aload_n 0, 1) := by decide +kernel
theorem dX7_isRound_89 : decode cX7_isRound 89 = .ok (.getfield 74, 3) := by decide +kernel
theorem dX7_isRound_92 : decode cX7_isRound 92 = .ok (.iload 4, 2) := by decide +kernel
theorem dX7_isRound_94 : decode cX7_isRound 94 = .ok (.iaload, 1) := by decide +kernel
theorem dX7_isRound_95 : decode cX7_isRound 95 = .ok (.baload, 1) := by decide +kernel
theorem dX7_isRound_96 : decode cX7_isRound 96 = .ok (.ifCond .ne 32, 3) := by decide +kernel
theorem dX7_isRound_99 : decode cX7_isRound 99 = .ok (.aload_n 0, 1) := by decide +kernel
theorem dX7_isRound_100 : decode cX7_isRound 100 = .ok (.getfield 77, 3) := by decide +kernel
theorem dX7_isRound_103 : decode cX7_isRound 103 = .ok (.aload_n 0, 1) := by decide +kernel
theorem dX7_isRound_104 : decode cX7_isRound 104 = .ok (.getfield 74, 3) := by decide +kernel
theorem dX7_isRound_107 : decode cX7_isRound 107 = .ok (.iload 4, 2) := by decide +kernel
theorem dX7_isRound_109 : decode cX7_isRound 109 = .ok (.iaload, 1) := by decide +kernel
theorem dX7_isRound_110 : decode cX7_isRound 110 = .ok (.iconst 1, 1) := by decide +kernel
theorem dX7_isRound_111 : decode cX7_isRound 111 = .ok (.bastore, 1) := by decide +kernel
theorem dX7_isRound_112 : decode cX7_isRound 112 = .ok (.aload_n 0, 1) := by decide +kernel
theorem dX7_isRound_113 : decode cX7_isRound 113 = .ok (.getfield 80, 3) := by decide +kernel
theorem dX7_isRound_116 : decode cX7_isRound 116 = .ok (.iload_n 2, 1) := by decide +kernel
theorem dX7_isRound_117 : decode cX7_isRound 117 = .ok (.aload_n 0, 1) := by decide +kernel
theorem dX7_isRound_118 : decode cX7_isRound 118 = .ok (.getfield 74, 3) := by decide +kernel
theorem dX7_isRound_121 : decode cX7_isRound 121 = .ok (.iload 4, 2) := by decide +kernel
theorem dX7_isRound_123 : decode cX7_isRound 123 = .ok (.iaload, 1) := by decide +kernel
theorem dX7_isRound_124 : decode cX7_isRound 124 = .ok (.iastore, 1) := by decide +kernel
theorem dX7_isRound_125 : decode cX7_isRound 125 = .ok (.iinc 2 1, 3) := by decide +kernel
theorem dX7_isRound_128 : decode cX7_isRound 128 = .ok (.iinc 4 1, 3) := by decide +kernel
theorem dX7_isRound_131 : decode cX7_isRound 131 = .ok (.goto (-77), 3) := by decide +kernel
theorem dX7_isRound_134 : decode cX7_isRound 134 = .ok (.goto (-100), 3) := by decide +kernel
theorem dX7_isRound_137 : decode cX7_isRound 137 = .ok (.iload_n 3, 1) := by decide +kernel
theorem dX7_isRound_138 : decode cX7_isRound 138 = .ok (.ireturn, 1) := by decide +kernel
theorem dX7_round_0 : decode cX7_round 0 = .ok (.iconst 0, 1) := by decide +kernel
theorem dX7_round_1 : decode cX7_round 1 = .ok (.istore_n 2, 1) := by decide +kernel
theorem dX7_round_2 : decode cX7_round 2 = .ok (.iconst 0, 1) := by decide +kernel
theorem dX7_round_3 : decode cX7_round 3 = .ok (.istore_n 3, 1) := by decide +kernel
theorem dX7_round_4 : decode cX7_round 4 = .ok (.iload_n 3, 1) := by decide +kernel
theorem dX7_round_5 : decode cX7_round 5 = .ok (.aload_n 0, 1) := by decide +kernel
theorem dX7_round_6 : decode cX7_round 6 = .ok (.getfield 128, 3) := by decide +kernel
theorem dX7_round_9 : decode cX7_round 9 = .ok (.if_icmp .ge 27, 3) := by decide +kernel
theorem dX7_round_12 : decode cX7_round 12 = .ok (.aload_n 0, 1) := by decide +kernel
theorem dX7_round_13 : decode cX7_round 13 = .ok (.iload_n 3, 1) := by decide +kernel
theorem dX7_round_14 : decode cX7_round 14 = .ok (.invokevirtual 188, 3) := by decide +kernel
theorem dX7_round_17 : decode cX7_round 17 = .ok (.ifCond .eq 13, 3) := by decide +kernel
theorem dX7_round_20 : decode cX7_round 20 = .ok (.iload_n 2, 1) := by decide +kernel
theorem dX7_round_21 : decode cX7_round 21 = .ok (.iload_n 1, 1) := by decide +kernel
theorem dX7_round_22 : decode cX7_round 22 = .ok (.if_icmp .ne 5, 3) := by decide +kernel
theorem dX7_round_25 : decode cX7_round 25 = .ok (.iload_n 3, 1) := by decide +kernel
theorem dX7_round_26 : decode cX7_round 26 = .ok (.ireturn, 1) := by decide +kernel
theorem dX7_round_27 : decode cX7_round 27 = .ok (.iinc 2 1, 3) := by decide +kernel
theorem dX7_round_30 : decode cX7_round 30 = .ok (.iinc 3 1, 3) := by decide +kernel
theorem dX7_round_33 : decode cX7_round 33 = .ok (.goto (-29), 3) := by decide +kernel
theorem dX7_round_36 : decode cX7_round 36 = .ok (.bipush (-6), 2) := by decide +kernel
theorem dX7_round_38 : decode cX7_round 38 = .ok (.ireturn, 1) := by decide +kernel
theorem dX7_world_0 : decode cX7_world 0 = .ok (.aload_n 0, 1) := by decide +kernel
theorem dX7_world_1 : decode cX7_world 1 = .ok (.getfield 140, 3) := by decide +kernel
theorem dX7_world_4 : decode cX7_world 4 = .ok (.bipush 12, 2) := by decide +kernel
theorem dX7_world_6 : decode cX7_world 6 = .ok (.if_icmp .ne 6, 3) := by decide +kernel
theorem dX7_world_9 : decode cX7_world 9 = .ok (.bipush (-4), 2) := by decide +kernel
theorem dX7_world_11 : decode cX7_world 11 = .ok (.ireturn, 1) := by decide +kernel
theorem dX7_world_12 : decode cX7_world 12 = .ok (.aload_n 0, 1) := by decide +kernel
theorem dX7_world_13 : decode cX7_world 13 = .ok (.getfield 128, 3) := by decide +kernel
theorem dX7_world_16 : decode cX7_world 16 = .ok (.ifCond .ne 6, 3) := by decide +kernel
theorem dX7_world_19 : decode cX7_world 19 = .ok (.bipush (-5), 2) := by decide +kernel
theorem dX7_world_21 : decode cX7_world 21 = .ok (.ireturn, 1) := by decide +kernel
theorem dX7_world_22 : decode cX7_world 22 = .ok (.aload_n 0, 1) := by decide +kernel
theorem dX7_world_23 : decode cX7_world 23 = .ok (.getfield 140, 3) := by decide +kernel
theorem dX7_world_26 : decode cX7_world 26 = .ok (.istore_n 1, 1) := by decide +kernel
theorem dX7_world_27 : decode cX7_world 27 = .ok (.iconst 0, 1) := by decide +kernel
theorem dX7_world_28 : decode cX7_world 28 = .ok (.istore_n 2, 1) := by decide +kernel
theorem dX7_world_29 : decode cX7_world 29 = .ok (.iload_n 2, 1) := by decide +kernel
theorem dX7_world_30 : decode cX7_world 30 = .ok (.bipush 40, 2) := by decide +kernel
theorem dX7_world_32 : decode cX7_world 32 = .ok (.if_icmp .ge 21, 3) := by decide +kernel
theorem dX7_world_35 : decode cX7_world 35 = .ok (.aload_n 0, 1) := by decide +kernel
theorem dX7_world_36 : decode cX7_world 36 = .ok (.getfield 83, 3) := by decide +kernel
theorem dX7_world_39 : decode cX7_world 39 = .ok (.bipush 40, 2) := by decide +kernel
theorem dX7_world_41 : decode cX7_world 41 = .ok (.iload_n 1, 1) := by decide +kernel
theorem dX7_world_42 : decode cX7_world 42 = .ok (.imul, 1) := by decide +kernel
theorem dX7_world_43 : decode cX7_world 43 = .ok (.iload_n 2, 1) := by decide +kernel
theorem dX7_world_44 : decode cX7_world 44 = .ok (.iadd, 1) := by decide +kernel
theorem dX7_world_45 : decode cX7_world 45 = .ok (.iconst 0, 1) := by decide +kernel
theorem dX7_world_46 : decode cX7_world 46 = .ok (.iastore, 1) := by decide +kernel
theorem dX7_world_47 : decode cX7_world 47 = .ok (.iinc 2 1, 3) := by decide +kernel
theorem dX7_world_50 : decode cX7_world 50 = .ok (.goto (-21), 3) := by decide +kernel
theorem dX7_world_53 : decode cX7_world 53 = .ok (.iconst 0, 1) := by decide +kernel
theorem dX7_world_54 : decode cX7_world 54 = .ok (.istore_n 2, 1) := by decide +kernel
theorem dX7_world_55 : decode cX7_world 55 = .ok (.iload_n 2, 1) := by decide +kernel
theorem dX7_world_56 : decode cX7_world 56 = .ok (.sipush 240, 3) := by decide +kernel
theorem dX7_world_59 : decode cX7_world 59 = .ok (.if_icmp .ge 22, 3) := by decide +kernel
theorem dX7_world_62 : decode cX7_world 62 = .ok (.aload_n 0, 1) := by decide +kernel
theorem dX7_world_63 : decode cX7_world 63 = .ok (.getfield 86, 3) := by decide +kernel
theorem dX7_world_66 : decode cX7_world 66 = .ok (.sipush 240, 3) := by decide +kernel
theorem dX7_world_69 : decode cX7_world 69 = .ok (.iload_n 1, 1) := by decide +kernel
theorem dX7_world_70 : decode cX7_world 70 = .ok (.imul, 1) := by decide +kernel
theorem dX7_world_71 : decode cX7_world 71 = .ok (.iload_n 2, 1) := by decide +kernel
theorem dX7_world_72 : decode cX7_world 72 = .ok (.iadd, 1) := by decide +kernel
theorem dX7_world_73 : decode cX7_world 73 = .ok (.iconst 0, 1) := by decide +kernel
theorem dX7_world_74 : decode cX7_world 74 = .ok (.iastore, 1) := by decide +kernel
theorem dX7_world_75 : decode cX7_world 75 = .ok (.iinc 2 1, 3) := by decide +kernel
theorem dX7_world_78 : decode cX7_world 78 = .ok (.goto (-23), 3) := by decide +kernel
theorem dX7_world_81 : decode cX7_world 81 = .ok (.aload_n 0, 1) := by decide +kernel
theorem dX7_world_82 : decode cX7_world 82 = .ok (.getfield 89, 3) := by decide +kernel
theorem dX7_world_85 : decode cX7_world 85 = .ok (.iload_n 1, 1) := by decide +kernel
theorem dX7_world_86 : decode cX7_world 86 = .ok (.iconst 0, 1) := by decide +kernel
theorem dX7_world_87 : decode cX7_world 87 = .ok (.iastore, 1) := by decide +kernel
theorem dX7_world_88 : decode cX7_world 88 = .ok (.aload_n 0, 1) := by decide +kernel
theorem dX7_world_89 : decode cX7_world 89 = .ok (.getfield 95, 3) := by decide +kernel
theorem dX7_world_92 : decode cX7_world 92 = .ok (.iload_n 1, 1) := by decide +kernel
theorem dX7_world_93 : decode cX7_world 93 = .ok (.iconst 0, 1) := by decide +kernel
theorem dX7_world_94 : decode cX7_world 94 = .ok (.iastore, 1) := by decide +kernel
theorem dX7_world_95 : decode cX7_world 95 = .ok (.aload_n 0, 1) := by decide +kernel
theorem dX7_world_96 : decode cX7_world 96 = .ok (.getfield 101, 3) := by decide +kernel
theorem dX7_world_99 : decode cX7_world 99 = .ok (.iload_n 1, 1) := by decide +kernel
theorem dX7_world_100 : decode cX7_world 100 = .ok (.bipush (-6), 2) := by decide +kernel
theorem dX7_world_102 : decode cX7_world 102 = .ok (.iastore, 1) := by decide +kernel
theorem dX7_world_103 : decode cX7_world 103 = .ok (.aload_n 0, 1) := by decide +kernel
theorem dX7_world_104 : decode cX7_world 104 = .ok (.getfield 104, 3) := by decide +kernel
theorem dX7_world_107 : decode cX7_world 107 = .ok (.iload_n 1, 1) := by decide +kernel
theorem dX7_world_108 : decode cX7_world 108 = .ok (.bipush (-6), 2) := by decide +kernel
theorem dX7_world_110 : decode cX7_world 110 = .ok (.iastore, 1) := by decide +kernel
theorem dX7_world_111 : decode cX7_world 111 = .ok (.iconst 0, 1) := by decide +kernel
theorem dX7_world_112 : decode cX7_world 112 = .ok (.istore_n 2, 1) := by decide +kernel
theorem dX7_world_113 : decode cX7_world 113 = .ok (.iload_n 2, 1) := by decide +kernel
theorem dX7_world_114 : decode cX7_world 114 = .ok (.iconst 4, 1) := by decide +kernel
theorem dX7_world_115 : decode cX7_world 115 = .ok (.if_icmp .ge 20, 3) := by decide +kernel
theorem dX7_world_118 : decode cX7_world 118 = .ok (.aload_n 0, 1) := by decide +kernel
theorem dX7_world_119 : decode cX7_world 119 = .ok (.getfield 107, 3) := by decide +kernel
theorem dX7_world_122 : decode cX7_world 122 = .ok (.iconst 4, 1) := by decide +kernel
theorem dX7_world_123 : decode cX7_world 123 = .ok (.iload_n 1, 1) := by decide +kernel
theorem dX7_world_124 : decode cX7_world 124 = .ok (.imul, 1) := by decide +kernel
theorem dX7_world_125 : decode cX7_world 125 = .ok (.iload_n 2, 1) := by decide +kernel
theorem dX7_world_126 : decode cX7_world 126 = .ok (.iadd, 1) := by decide +kernel
theorem dX7_world_127 : decode cX7_world 127 = .ok (.iconst 0, 1) := by decide +kernel
theorem dX7_world_128 : decode cX7_world 128 = .ok (.iastore, 1) := by decide +kernel
theorem dX7_world_129 : decode cX7_world 129 = .ok (.iinc 2 1, 3) := by decide +kernel
theorem dX7_world_132 : decode cX7_world 132 = .ok (.goto (-19), 3) := by decide +kernel
theorem dX7_world_135 : decode cX7_world 135 = .ok (.aload_n 0, 1) := by decide +kernel
theorem dX7_world_136 : decode cX7_world 136 = .ok (.dup, 1) := by decide +kernel
theorem dX7_world_137 : decode cX7_world 137 = .ok (.getfield 140, 3) := by decide +kernel
theorem dX7_world_140 : decode cX7_world 140 = .ok (.iconst 1, 1) := by decide +kernel
theorem dX7_world_141 : decode cX7_world 141 = .ok (.iadd, 1) := by decide +kernel
theorem dX7_world_142 : decode cX7_world 142 = .ok (.putfield 140, 3) := by decide +kernel
theorem dX7_world_145 : decode cX7_world 145 = .ok (.iload_n 1, 1) := by decide +kernel
theorem dX7_world_146 : decode cX7_world 146 = .ok (.ireturn, 1) := by decide +kernel
theorem dX7_gone_0 : decode cX7_gone 0 = .ok (.aload_n 0, 1) := by decide +kernel
theorem dX7_gone_1 : decode cX7_gone 1 = .ok (.getfield 140, 3) := by decide +kernel
theorem dX7_gone_4 : decode cX7_gone 4 = .ok (.istore_n 1, 1) := by decide +kernel
theorem dX7_gone_5 : decode cX7_gone 5 = .ok (.aload_n 0, 1) := by decide +kernel
theorem dX7_gone_6 : decode cX7_gone 6 = .ok (.iconst 0, 1) := by decide +kernel
theorem dX7_gone_7 : decode cX7_gone 7 = .ok (.putfield 140, 3) := by decide +kernel
theorem dX7_gone_10 : decode cX7_gone 10 = .ok (.iload_n 1, 1) := by decide +kernel
theorem dX7_gone_11 : decode cX7_gone 11 = .ok (.ireturn, 1) := by decide +kernel
theorem dX7_isWorld_0 : decode cX7_isWorld 0 = .ok (.iload_n 1, 1) := by decide +kernel
theorem dX7_isWorld_1 : decode cX7_isWorld 1 = .ok (.iconst 0, 1) := by decide +kernel
theorem dX7_isWorld_2 : decode cX7_isWorld 2 = .ok (.aload_n 0, 1) := by decide +kernel
theorem dX7_isWorld_3 : decode cX7_isWorld 3 = .ok (.getfield 140, 3) := by decide +kernel
theorem dX7_isWorld_6 : decode cX7_isWorld 6 = .ok (.iconst 1, 1) := by decide +kernel
theorem dX7_isWorld_7 : decode cX7_isWorld 7 = .ok (.isub, 1) := by decide +kernel
theorem dX7_isWorld_8 : decode cX7_isWorld 8 = .ok (.invokestatic 132, 3) := by decide +kernel
theorem dX7_isWorld_11 : decode cX7_isWorld 11 = .ok (.ireturn, 1) := by decide +kernel
theorem dX7_copy_0 : decode cX7_copy 0 = .ok (.iconst 0, 1) := by decide +kernel
theorem dX7_copy_1 : decode cX7_copy 1 = .ok (.istore_n 3, 1) := by decide +kernel
theorem dX7_copy_2 : decode cX7_copy 2 = .ok (.iload_n 3, 1) := by decide +kernel
theorem dX7_copy_3 : decode cX7_copy 3 = .ok (.bipush 40, 2) := by decide +kernel
theorem dX7_copy_5 : decode cX7_copy 5 = .ok (.if_icmp .ge 53, 3) := by decide +kernel
theorem dX7_copy_8 : decode cX7_copy 8 = .ok (.aload_n 0, 1) := by decide +kernel
theorem dX7_copy_9 : decode cX7_copy 9 = .ok (.getfield 83, 3) := by decide +kernel
theorem dX7_copy_12 : decode cX7_copy 12 = .ok (.bipush 40, 2) := by decide +kernel
theorem dX7_copy_14 : decode cX7_copy 14 = .ok (.iload_n 2, 1) := by decide +kernel
theorem dX7_copy_15 : decode cX7_copy 15 = .ok (.imul, 1) := by decide +kernel
theorem dX7_copy_16 : decode cX7_copy 16 = .ok (.iload_n 3, 1) := by decide +kernel
theorem dX7_copy_17 : decode cX7_copy 17 = .ok (.iadd, 1) := by decide +kernel
theorem dX7_copy_18 : decode cX7_copy 18 = .ok (.aload_n 0, 1) := by decide +kernel
theorem dX7_copy_19 : decode cX7_copy 19 = .ok (.getfield 83, 3) := by decide +kernel
theorem dX7_copy_22 : decode cX7_copy 22 = .ok (.bipush 40, 2) := by decide +kernel
theorem dX7_copy_24 : decode cX7_copy 24 = .ok (.iload_n 1, 1) := by decide +kernel
theorem dX7_copy_25 : decode cX7_copy 25 = .ok (.imul, 1) := by decide +kernel
theorem dX7_copy_26 : decode cX7_copy 26 = .ok (.iload_n 3, 1) := by decide +kernel
theorem dX7_copy_27 : decode cX7_copy 27 = .ok (.iadd, 1) := by decide +kernel
theorem dX7_copy_28 : decode cX7_copy 28 = .ok (.iaload, 1) := by decide +kernel
theorem dX7_copy_29 : decode cX7_copy 29 = .ok (.iastore, 1) := by decide +kernel
theorem dX7_copy_30 : decode cX7_copy 30 = .ok (.aload_n 0, 1) := by decide +kernel
theorem dX7_copy_31 : decode cX7_copy 31 = .ok (.getfield 98, 3) := by decide +kernel
theorem dX7_copy_34 : decode cX7_copy 34 = .ok (.bipush 40, 2) := by decide +kernel
theorem dX7_copy_36 : decode cX7_copy 36 = .ok (.iload_n 2, 1) := by decide +kernel
theorem dX7_copy_37 : decode cX7_copy 37 = .ok (.imul, 1) := by decide +kernel
theorem dX7_copy_38 : decode cX7_copy 38 = .ok (.iload_n 3, 1) := by decide +kernel
theorem dX7_copy_39 : decode cX7_copy 39 = .ok (.iadd, 1) := by decide +kernel
theorem dX7_copy_40 : decode cX7_copy 40 = .ok (.aload_n 0, 1) := by decide +kernel
theorem dX7_copy_41 : decode cX7_copy 41 = .ok (.getfield 98, 3) := by decide +kernel
theorem dX7_copy_44 : decode cX7_copy 44 = .ok (.bipush 40, 2) := by decide +kernel
theorem dX7_copy_46 : decode cX7_copy 46 = .ok (.iload_n 1, 1) := by decide +kernel
theorem dX7_copy_47 : decode cX7_copy 47 = .ok (.imul, 1) := by decide +kernel
theorem dX7_copy_48 : decode cX7_copy 48 = .ok (.iload_n 3, 1) := by decide +kernel
theorem dX7_copy_49 : decode cX7_copy 49 = .ok (.iadd, 1) := by decide +kernel
theorem dX7_copy_50 : decode cX7_copy 50 = .ok (.iaload, 1) := by decide +kernel
theorem dX7_copy_51 : decode cX7_copy 51 = .ok (.iastore, 1) := by decide +kernel
theorem dX7_copy_52 : decode cX7_copy 52 = .ok (.iinc 3 1, 3) := by decide +kernel
theorem dX7_copy_55 : decode cX7_copy 55 = .ok (.goto (-53), 3) := by decide +kernel
theorem dX7_copy_58 : decode cX7_copy 58 = .ok (.iconst 0, 1) := by decide +kernel
theorem dX7_copy_59 : decode cX7_copy 59 = .ok (.istore_n 3, 1) := by decide +kernel
theorem dX7_copy_60 : decode cX7_copy 60 = .ok (.iload_n 3, 1) := by decide +kernel
theorem dX7_copy_61 : decode cX7_copy 61 = .ok (.sipush 240, 3) := by decide +kernel
theorem dX7_copy_64 : decode cX7_copy 64 = .ok (.if_icmp .ge 33, 3) := by decide +kernel
theorem dX7_copy_67 : decode cX7_copy 67 = .ok (.aload_n 0, 1) := by decide +kernel
theorem dX7_copy_68 : decode cX7_copy 68 = .ok (.getfield 86, 3) := by decide +kernel
theorem dX7_copy_71 : decode cX7_copy 71 = .ok (.sipush 240, 3) := by decide +kernel
theorem dX7_copy_74 : decode cX7_copy 74 = .ok (.iload_n 2, 1) := by decide +kernel
theorem dX7_copy_75 : decode cX7_copy 75 = .ok (.imul, 1) := by decide +kernel
theorem dX7_copy_76 : decode cX7_copy 76 = .ok (.iload_n 3, 1) := by decide +kernel
theorem dX7_copy_77 : decode cX7_copy 77 = .ok (.iadd, 1) := by decide +kernel
theorem dX7_copy_78 : decode cX7_copy 78 = .ok (.aload_n 0, 1) := by decide +kernel
theorem dX7_copy_79 : decode cX7_copy 79 = .ok (.getfield 86, 3) := by decide +kernel
theorem dX7_copy_82 : decode cX7_copy 82 = .ok (.sipush 240, 3) := by decide +kernel
theorem dX7_copy_85 : decode cX7_copy 85 = .ok (.iload_n 1, 1) := by decide +kernel
theorem dX7_copy_86 : decode cX7_copy 86 = .ok (.imul, 1) := by decide +kernel
theorem dX7_copy_87 : decode cX7_copy 87 = .ok (.iload_n 3, 1) := by decide +kernel
theorem dX7_copy_88 : decode cX7_copy 88 = .ok (.iadd, 1) := by decide +kernel
theorem dX7_copy_89 : decode cX7_copy 89 = .ok (.iaload, 1) := by decide +kernel
theorem dX7_copy_90 : decode cX7_copy 90 = .ok (.iastore, 1) := by decide +kernel
theorem dX7_copy_91 : decode cX7_copy 91 = .ok (.iinc 3 1, 3) := by decide +kernel
theorem dX7_copy_94 : decode cX7_copy 94 = .ok (.goto (-34), 3) := by decide +kernel
theorem dX7_copy_97 : decode cX7_copy 97 = .ok (.iconst 0, 1) := by decide +kernel
theorem dX7_copy_98 : decode cX7_copy 98 = .ok (.istore_n 3, 1) := by decide +kernel
theorem dX7_copy_99 : decode cX7_copy 99 = .ok (.iload_n 3, 1) := by decide +kernel
theorem dX7_copy_100 : decode cX7_copy 100 = .ok (.sipush 300, 3) := by decide +kernel
theorem dX7_copy_103 : decode cX7_copy 103 = .ok (.if_icmp .ge 33, 3) := by decide +kernel
theorem dX7_copy_106 : decode cX7_copy 106 = .ok (.aload_n 0, 1) := by decide +kernel
theorem dX7_copy_107 : decode cX7_copy 107 = .ok (.getfield 92, 3) := by decide +kernel
theorem dX7_copy_110 : decode cX7_copy 110 = .ok (.sipush 300, 3) := by decide +kernel
theorem dX7_copy_113 : decode cX7_copy 113 = .ok (.iload_n 2, 1) := by decide +kernel
theorem dX7_copy_114 : decode cX7_copy 114 = .ok (.imul, 1) := by decide +kernel
theorem dX7_copy_115 : decode cX7_copy 115 = .ok (.iload_n 3, 1) := by decide +kernel
theorem dX7_copy_116 : decode cX7_copy 116 = .ok (.iadd, 1) := by decide +kernel
theorem dX7_copy_117 : decode cX7_copy 117 = .ok (.aload_n 0, 1) := by decide +kernel
theorem dX7_copy_118 : decode cX7_copy 118 = .ok (.getfield 92, 3) := by decide +kernel
theorem dX7_copy_121 : decode cX7_copy 121 = .ok (.sipush 300, 3) := by decide +kernel
theorem dX7_copy_124 : decode cX7_copy 124 = .ok (.iload_n 1, 1) := by decide +kernel
theorem dX7_copy_125 : decode cX7_copy 125 = .ok (.imul, 1) := by decide +kernel
theorem dX7_copy_126 : decode cX7_copy 126 = .ok (.iload_n 3, 1) := by decide +kernel
theorem dX7_copy_127 : decode cX7_copy 127 = .ok (.iadd, 1) := by decide +kernel
theorem dX7_copy_128 : decode cX7_copy 128 = .ok (.iaload, 1) := by decide +kernel
theorem dX7_copy_129 : decode cX7_copy 129 = .ok (.iastore, 1) := by decide +kernel
theorem dX7_copy_130 : decode cX7_copy 130 = .ok (.iinc 3 1, 3) := by decide +kernel
theorem dX7_copy_133 : decode cX7_copy 133 = .ok (.goto (-34), 3) := by decide +kernel
theorem dX7_copy_136 : decode cX7_copy 136 = .ok (.aload_n 0, 1) := by decide +kernel
theorem dX7_copy_137 : decode cX7_copy 137 = .ok (.getfield 89, 3) := by decide +kernel
theorem dX7_copy_140 : decode cX7_copy 140 = .ok (.iload_n 2, 1) := by decide +kernel
theorem dX7_copy_141 : decode cX7_copy 141 = .ok (.aload_n 0, 1) := by decide +kernel
theorem dX7_copy_142 : decode cX7_copy 142 = .ok (.getfield 89, 3) := by decide +kernel
theorem dX7_copy_145 : decode cX7_copy 145 = .ok (.iload_n 1, 1) := by decide +kernel
theorem dX7_copy_146 : decode cX7_copy 146 = .ok (.iaload, 1) := by decide +kernel
theorem dX7_copy_147 : decode cX7_copy 147 = .ok (.iastore, 1) := by decide +kernel
theorem dX7_copy_148 : decode cX7_copy 148 = .ok (.aload_n 0, 1) := by decide +kernel
theorem dX7_copy_149 : decode cX7_copy 149 = .ok (.getfield 95, 3) := by decide +kernel
theorem dX7_copy_152 : decode cX7_copy 152 = .ok (.iload_n 2, 1) := by decide +kernel
theorem dX7_copy_153 : decode cX7_copy 153 = .ok (.aload_n 0, 1) := by decide +kernel
theorem dX7_copy_154 : decode cX7_copy 154 = .ok (.getfield 95, 3) := by decide +kernel
theorem dX7_copy_157 : decode cX7_copy 157 = .ok (.iload_n 1, 1) := by decide +kernel
theorem dX7_copy_158 : decode cX7_copy 158 = .ok (.iaload, 1) := by decide +kernel
theorem dX7_copy_159 : decode cX7_copy 159 = .ok (.iastore, 1) := by decide +kernel
theorem dX7_copy_160 : decode cX7_copy 160 = .ok (.return_, 1) := by decide +kernel
theorem dX7_onTape_0 : decode cX7_onTape 0 = .ok (.aload_n 0, 1) := by decide +kernel
theorem dX7_onTape_1 : decode cX7_onTape 1 = .ok (.getfield 89, 3) := by decide +kernel
theorem dX7_onTape_4 : decode cX7_onTape 4 = .ok (.aload_n 0, 1) := by decide +kernel
theorem dX7_onTape_5 : decode cX7_onTape 5 = .ok (.getfield 191, 3) := by decide +kernel
theorem dX7_onTape_8 : decode cX7_onTape 8 = .ok (.iaload, 1) := by decide +kernel
theorem dX7_onTape_9 : decode cX7_onTape 9 = .ok (.sipush 300, 3) := by decide +kernel
theorem dX7_onTape_12 : decode cX7_onTape 12 = .ok (.if_icmp .ge 27, 3) := by decide +kernel
theorem dX7_onTape_15 : decode cX7_onTape 15 = .ok (.aload_n 0, 1) := by decide +kernel
theorem dX7_onTape_16 : decode cX7_onTape 16 = .ok (.getfield 92, 3) := by decide +kernel
theorem dX7_onTape_19 : decode cX7_onTape 19 = .ok (.sipush 300, 3) := by decide +kernel
theorem dX7_onTape_22 : decode cX7_onTape 22 = .ok (.aload_n 0, 1) := by decide +kernel
theorem dX7_onTape_23 : decode cX7_onTape 23 = .ok (.getfield 191, 3) := by decide +kernel
theorem dX7_onTape_26 : decode cX7_onTape 26 = .ok (.imul, 1) := by decide +kernel
theorem dX7_onTape_27 : decode cX7_onTape 27 = .ok (.aload_n 0, 1) := by decide +kernel
theorem dX7_onTape_28 : decode cX7_onTape 28 = .ok (.getfield 89, 3) := by decide +kernel
theorem dX7_onTape_31 : decode cX7_onTape 31 = .ok (.aload_n 0, 1) := by decide +kernel
theorem dX7_onTape_32 : decode cX7_onTape 32 = .ok (.getfield 191, 3) := by decide +kernel
theorem dX7_onTape_35 : decode cX7_onTape 35 = .ok (.iaload, 1) := by decide +kernel
theorem dX7_onTape_36 : decode cX7_onTape 36 = .ok (.iadd, 1) := by decide +kernel
theorem dX7_onTape_37 : decode cX7_onTape 37 = .ok (.iload_n 1, 1) := by decide +kernel
theorem dX7_onTape_38 : decode cX7_onTape 38 = .ok (.iastore, 1) := by decide +kernel
theorem dX7_onTape_39 : decode cX7_onTape 39 = .ok (.aload_n 0, 1) := by decide +kernel
theorem dX7_onTape_40 : decode cX7_onTape 40 = .ok (.getfield 89, 3) := by decide +kernel
theorem dX7_onTape_43 : decode cX7_onTape 43 = .ok (.aload_n 0, 1) := by decide +kernel
theorem dX7_onTape_44 : decode cX7_onTape 44 = .ok (.getfield 191, 3) := by decide +kernel
theorem dX7_onTape_47 : decode cX7_onTape 47 = .ok (.dup2, 1) := by decide +kernel
theorem dX7_onTape_48 : decode cX7_onTape 48 = .ok (.iaload, 1) := by decide +kernel
theorem dX7_onTape_49 : decode cX7_onTape 49 = .ok (.iconst 1, 1) := by decide +kernel
theorem dX7_onTape_50 : decode cX7_onTape 50 = .ok (.iadd, 1) := by decide +kernel
theorem dX7_onTape_51 : decode cX7_onTape 51 = .ok (.iastore, 1) := by decide +kernel
theorem dX7_onTape_52 : decode cX7_onTape 52 = .ok (.return_, 1) := by decide +kernel
theorem dX7_fail_0 : decode cX7_fail 0 = .ok (.aload_n 0, 1) := by decide +kernel
theorem dX7_fail_1 : decode cX7_fail 1 = .ok (.getfield 194, 3) := by decide +kernel
theorem dX7_fail_4 : decode cX7_fail 4 = .ok (.bipush 40, 2) := by decide +kernel
theorem dX7_fail_6 : decode cX7_fail 6 = .ok (.if_icmp .ne 9, 3) := by decide +kernel
theorem dX7_fail_9 : decode cX7_fail 9 = .ok (.aload_n 0, 1) := by decide +kernel
theorem dX7_fail_10 : decode cX7_fail 10 = .ok (.iconst 1, 1) := by decide +kernel
theorem dX7_fail_11 : decode cX7_fail 11 = .ok (.putfield 197, 3) := by decide +kernel
theorem dX7_fail_14 : decode cX7_fail 14 = .ok (.return_, 1) := by decide +kernel
theorem dX7_fail_15 : decode cX7_fail 15 = .ok (.aload_n 0, 1) := by decide +kernel
theorem dX7_fail_16 : decode cX7_fail 16 = .ok (.dup, 1) := by decide +kernel
theorem dX7_fail_17 : decode cX7_fail 17 = .ok (.getfield 194, 3) := by decide +kernel
theorem dX7_fail_20 : decode cX7_fail 20 = .ok (.iconst 1, 1) := by decide +kernel
theorem dX7_fail_21 : decode cX7_fail 21 = .ok (.iadd, 1) := by decide +kernel
theorem dX7_fail_22 : decode cX7_fail 22 = .ok (.putfield 194, 3) := by decide +kernel
theorem dX7_fail_25 : decode cX7_fail 25 = .ok (.aload_n 0, 1) := by decide +kernel
theorem dX7_fail_26 : decode cX7_fail 26 = .ok (.iconst 1, 1) := by decide +kernel
theorem dX7_fail_27 : decode cX7_fail 27 = .ok (.putfield 201, 3) := by decide +kernel
theorem dX7_fail_30 : decode cX7_fail 30 = .ok (.aload_n 0, 1) := by decide +kernel
theorem dX7_fail_31 : decode cX7_fail 31 = .ok (.iload_n 1, 1) := by decide +kernel
theorem dX7_fail_32 : decode cX7_fail 32 = .ok (.putfield 204, 3) := by decide +kernel
theorem dX7_fail_35 : decode cX7_fail 35 = .ok (.aload_n 0, 1) := by decide +kernel
theorem dX7_fail_36 : decode cX7_fail 36 = .ok (.iload_n 2, 1) := by decide +kernel
theorem dX7_fail_37 : decode cX7_fail 37 = .ok (.putfield 207, 3) := by decide +kernel
theorem dX7_fail_40 : decode cX7_fail 40 = .ok (.return_, 1) := by decide +kernel
theorem dX7_pushBody_0 : decode cX7_pushBody 0 = .ok (.aload_n 0, 1) := by decide +kernel
theorem dX7_pushBody_1 : decode cX7_pushBody 1 = .ok (.getfield 210, 3) := by decide +kernel
theorem dX7_pushBody_4 : decode cX7_pushBody 4 = .ok (.bipush 30, 2) := by decide +kernel
theorem dX7_pushBody_6 : decode cX7_pushBody 6 = .ok (.if_icmp .ne 9, 3) := by decide +kernel
theorem dX7_pushBody_9 : decode cX7_pushBody 9 = .ok (.aload_n 0, 1) := by decide +kernel
theorem dX7_pushBody_10 : decode cX7_pushBody 10 = .ok (.iconst 1, 1) := by decide +kernel
theorem dX7_pushBody_11 : decode cX7_pushBody 11 = .ok (.putfield 197, 3) := by decide +kernel
theorem dX7_pushBody_14 : decode cX7_pushBody 14 = .ok (.return_, 1) := by decide +kernel
theorem dX7_pushBody_15 : decode cX7_pushBody 15 = .ok (.aload_n 0, 1) := by decide +kernel
theorem dX7_pushBody_16 : decode cX7_pushBody 16 = .ok (.getfield 110, 3) := by decide +kernel
theorem dX7_pushBody_19 : decode cX7_pushBody 19 = .ok (.aload_n 0, 1) := by decide +kernel
theorem dX7_pushBody_20 : decode cX7_pushBody 20 = .ok (.getfield 213, 3) := by decide +kernel
theorem dX7_pushBody_23 : decode cX7_pushBody 23 = .ok (.iconst 0, 1) := by decide +kernel
theorem dX7_pushBody_24 : decode cX7_pushBody 24 = .ok (.bastore, 1) := by decide +kernel
theorem dX7_pushBody_25 : decode cX7_pushBody 25 = .ok (.aload_n 0, 1) := by decide +kernel
theorem dX7_pushBody_26 : decode cX7_pushBody 26 = .ok (.getfield 113, 3) := by decide +kernel
theorem dX7_pushBody_29 : decode cX7_pushBody 29 = .ok (.aload_n 0, 1) := by decide +kernel
theorem dX7_pushBody_30 : decode cX7_pushBody 30 = .ok (.getfield 213, 3) := by decide +kernel
theorem dX7_pushBody_33 : decode cX7_pushBody 33 = .ok (.iload_n 1, 1) := by decide +kernel
theorem dX7_pushBody_34 : decode cX7_pushBody 34 = .ok (.iastore, 1) := by decide +kernel
theorem dX7_pushBody_35 : decode cX7_pushBody 35 = .ok (.aload_n 0, 1) := by decide +kernel
theorem dX7_pushBody_36 : decode cX7_pushBody 36 = .ok (.getfield 116, 3) := by decide +kernel
theorem dX7_pushBody_39 : decode cX7_pushBody 39 = .ok (.aload_n 0, 1) := by decide +kernel
theorem dX7_pushBody_40 : decode cX7_pushBody 40 = .ok (.getfield 213, 3) := by decide +kernel
theorem dX7_pushBody_43 : decode cX7_pushBody 43 = .ok (.iconst 0, 1) := by decide +kernel
theorem dX7_pushBody_44 : decode cX7_pushBody 44 = .ok (.iastore, 1) := by decide +kernel
theorem dX7_pushBody_45 : decode cX7_pushBody 45 = .ok (.aload_n 0, 1) := by decide +kernel
theorem dX7_pushBody_46 : decode cX7_pushBody 46 = .ok (.getfield 119, 3) := by decide +kernel
theorem dX7_pushBody_49 : decode cX7_pushBody 49 = .ok (.aload_n 0, 1) := by decide +kernel
theorem dX7_pushBody_50 : decode cX7_pushBody 50 = .ok (.getfield 213, 3) := by decide +kernel
theorem dX7_pushBody_53 : decode cX7_pushBody 53 = .ok (.bipush (-6), 2) := by decide +kernel
theorem dX7_pushBody_55 : decode cX7_pushBody 55 = .ok (.iastore, 1) := by decide +kernel
theorem dX7_pushBody_56 : decode cX7_pushBody 56 = .ok (.aload_n 0, 1) := by decide +kernel
theorem dX7_pushBody_57 : decode cX7_pushBody 57 = .ok (.getfield 122, 3) := by decide +kernel
theorem dX7_pushBody_60 : decode cX7_pushBody 60 = .ok (.aload_n 0, 1) := by decide +kernel
theorem dX7_pushBody_61 : decode cX7_pushBody 61 = .ok (.getfield 213, 3) := by decide +kernel
theorem dX7_pushBody_64 : decode cX7_pushBody 64 = .ok (.iconst 0, 1) := by decide +kernel
theorem dX7_pushBody_65 : decode cX7_pushBody 65 = .ok (.bastore, 1) := by decide +kernel
theorem dX7_pushBody_66 : decode cX7_pushBody 66 = .ok (.aload_n 0, 1) := by decide +kernel
theorem dX7_pushBody_67 : decode cX7_pushBody 67 = .ok (.getfield 125, 3) := by decide +kernel
theorem dX7_pushBody_70 : decode cX7_pushBody 70 = .ok (.aload_n 0, 1) := by decide +kernel
theorem dX7_pushBody_71 : decode cX7_pushBody 71 = .ok (.getfield 213, 3) := by decide +kernel
theorem dX7_pushBody_74 : decode cX7_pushBody 74 = .ok (.iconst 0, 1) := by decide +kernel
theorem dX7_pushBody_75 : decode cX7_pushBody 75 = .ok (.bastore, 1) := by decide +kernel
theorem dX7_pushBody_76 : decode cX7_pushBody 76 = .ok (.aload_n 0, 1) := by decide +kernel
theorem dX7_pushBody_77 : decode cX7_pushBody 77 = .ok (.dup, 1) := by decide +kernel
theorem dX7_pushBody_78 : decode cX7_pushBody 78 = .ok (.getfield 213, 3) := by decide +kernel
theorem dX7_pushBody_81 : decode cX7_pushBody 81 = .ok (.iconst 1, 1) := by decide +kernel
theorem dX7_pushBody_82 : decode cX7_pushBody 82 = .ok (.iadd, 1) := by decide +kernel
theorem dX7_pushBody_83 : decode cX7_pushBody 83 = .ok (.putfield 213, 3) := by decide +kernel
theorem dX7_pushBody_86 : decode cX7_pushBody 86 = .ok (.aload_n 0, 1) := by decide +kernel
theorem dX7_pushBody_87 : decode cX7_pushBody 87 = .ok (.dup, 1) := by decide +kernel
theorem dX7_pushBody_88 : decode cX7_pushBody 88 = .ok (.getfield 210, 3) := by decide +kernel
theorem dX7_pushBody_91 : decode cX7_pushBody 91 = .ok (.iconst 1, 1) := by decide +kernel
theorem dX7_pushBody_92 : decode cX7_pushBody 92 = .ok (.iadd, 1) := by decide +kernel
theorem dX7_pushBody_93 : decode cX7_pushBody 93 = .ok (.putfield 210, 3) := by decide +kernel
theorem dX7_pushBody_96 : decode cX7_pushBody 96 = .ok (.aload_n 0, 1) := by decide +kernel
theorem dX7_pushBody_97 : decode cX7_pushBody 97 = .ok (.aload_n 0, 1) := by decide +kernel
theorem dX7_pushBody_98 : decode cX7_pushBody 98 = .ok (.getfield 216, 3) := by decide +kernel
theorem dX7_pushBody_101 : decode cX7_pushBody 101 = .ok (.aload_n 0, 1) := by decide +kernel
theorem dX7_pushBody_102 : decode cX7_pushBody 102 = .ok (.getfield 210, 3) := by decide +kernel
theorem dX7_pushBody_105 : decode cX7_pushBody 105 = .ok (.if_icmp .le 10, 3) := by decide +kernel
theorem dX7_pushBody_108 : decode cX7_pushBody 108 = .ok (.aload_n 0, 1) := by decide +kernel
theorem dX7_pushBody_109 : decode cX7_pushBody 109 = .ok (.getfield 216, 3) := by decide +kernel
theorem dX7_pushBody_112 : decode cX7_pushBody 112 = .ok (.goto 7, 3) := by decide +kernel
theorem dX7_pushBody_115 : decode cX7_pushBody 115 = .ok (.aload_n 0, 1) := by decide +kernel
theorem dX7_pushBody_116 : decode cX7_pushBody 116 = .ok (.getfield 210, 3) := by decide +kernel
theorem dX7_pushBody_119 : decode cX7_pushBody 119 = .ok (.putfield 216, 3) := by decide +kernel
theorem dX7_pushBody_122 : decode cX7_pushBody 122 = .ok (.return_, 1) := by decide +kernel
theorem dX7_start_0 : decode cX7_start 0 = .ok (.aload_n 0, 1) := by decide +kernel
theorem dX7_start_1 : decode cX7_start 1 = .ok (.getfield 83, 3) := by decide +kernel
theorem dX7_start_4 : decode cX7_start 4 = .ok (.bipush 40, 2) := by decide +kernel
theorem dX7_start_6 : decode cX7_start 6 = .ok (.aload_n 0, 1) := by decide +kernel
theorem dX7_start_7 : decode cX7_start 7 = .ok (.getfield 191, 3) := by decide +kernel
theorem dX7_start_10 : decode cX7_start 10 = .ok (.imul, 1) := by decide +kernel
theorem dX7_start_11 : decode cX7_start 11 = .ok (.iload_n 1, 1) := by decide +kernel
theorem dX7_start_12 : decode cX7_start 12 = .ok (.iadd, 1) := by decide +kernel
theorem dX7_start_13 : decode cX7_start 13 = .ok (.iaload, 1) := by decide +kernel
theorem dX7_start_14 : decode cX7_start 14 = .ok (.istore_n 2, 1) := by decide +kernel
theorem dX7_start_15 : decode cX7_start 15 = .ok (.iload_n 2, 1) := by decide +kernel
theorem dX7_start_16 : decode cX7_start 16 = .ok (.iconst 3, 1) := by decide +kernel
theorem dX7_start_17 : decode cX7_start 17 = .ok (.if_icmp .ne 13, 3) := by decide +kernel
theorem dX7_start_20 : decode cX7_start 20 = .ok (.aload_n 0, 1) := by decide +kernel
theorem dX7_start_21 : decode cX7_start 21 = .ok (.bipush 21, 2) := by decide +kernel
theorem dX7_start_23 : decode cX7_start 23 = .ok (.iload_n 1, 1) := by decide +kernel
theorem dX7_start_24 : decode cX7_start 24 = .ok (.invokevirtual 219, 3) := by decide +kernel
theorem dX7_start_27 : decode cX7_start 27 = .ok (.goto 62, 3) := by decide +kernel
theorem dX7_start_30 : decode cX7_start 30 = .ok (.iload_n 2, 1) := by decide +kernel
theorem dX7_start_31 : decode cX7_start 31 = .ok (.ifCond .ne 58, 3) := by decide +kernel
theorem dX7_start_34 : decode cX7_start 34 = .ok (.aload_n 0, 1) := by decide +kernel
theorem dX7_start_35 : decode cX7_start 35 = .ok (.getfield 83, 3) := by decide +kernel
theorem dX7_start_38 : decode cX7_start 38 = .ok (.bipush 40, 2) := by decide +kernel
theorem dX7_start_40 : decode cX7_start 40 = .ok (.aload_n 0, 1) := by decide +kernel
theorem dX7_start_41 : decode cX7_start 41 = .ok (.getfield 191, 3) := by decide +kernel
theorem dX7_start_44 : decode cX7_start 44 = .ok (.imul, 1) := by decide +kernel
theorem dX7_start_45 : decode cX7_start 45 = .ok (.iload_n 1, 1) := by decide +kernel
theorem dX7_start_46 : decode cX7_start 46 = .ok (.iadd, 1) := by decide +kernel
theorem dX7_start_47 : decode cX7_start 47 = .ok (.iconst 1, 1) := by decide +kernel
theorem dX7_start_48 : decode cX7_start 48 = .ok (.iastore, 1) := by decide +kernel
theorem dX7_start_49 : decode cX7_start 49 = .ok (.aload_n 0, 1) := by decide +kernel
theorem dX7_start_50 : decode cX7_start 50 = .ok (.getfield 110, 3) := by decide +kernel
theorem dX7_start_53 : decode cX7_start 53 = .ok (.aload_n 0, 1) := by decide +kernel
theorem dX7_start_54 : decode cX7_start 54 = .ok (.getfield 213, 3) := by decide +kernel
theorem dX7_start_57 : decode cX7_start 57 = .ok (.iconst 1, 1) := by decide +kernel
theorem dX7_start_58 : decode cX7_start 58 = .ok (.bastore, 1) := by decide +kernel
theorem dX7_start_59 : decode cX7_start 59 = .ok (.aload_n 0, 1) := by decide +kernel
theorem dX7_start_60 : decode cX7_start 60 = .ok (.getfield 113, 3) := by decide +kernel
theorem dX7_start_63 : decode cX7_start 63 = .ok (.aload_n 0, 1) := by decide +kernel
theorem dX7_start_64 : decode cX7_start 64 = .ok (.getfield 213, 3) := by decide +kernel
theorem dX7_start_67 : decode cX7_start 67 = .ok (.iload_n 1, 1) := by decide +kernel
theorem dX7_start_68 : decode cX7_start 68 = .ok (.iastore, 1) := by decide +kernel
theorem dX7_start_69 : decode cX7_start 69 = .ok (.aload_n 0, 1) := by decide +kernel
theorem dX7_start_70 : decode cX7_start 70 = .ok (.getfield 116, 3) := by decide +kernel
theorem dX7_start_73 : decode cX7_start 73 = .ok (.aload_n 0, 1) := by decide +kernel
theorem dX7_start_74 : decode cX7_start 74 = .ok (.getfield 213, 3) := by decide +kernel
theorem dX7_start_77 : decode cX7_start 77 = .ok (.iconst 0, 1) := by decide +kernel
theorem dX7_start_78 : decode cX7_start 78 = .ok (.iastore, 1) := by decide +kernel
theorem dX7_start_79 : decode cX7_start 79 = .ok (.aload_n 0, 1) := by decide +kernel
theorem dX7_start_80 : decode cX7_start 80 = .ok (.dup, 1) := by decide +kernel
theorem dX7_start_81 : decode cX7_start 81 = .ok (.getfield 213, 3) := by decide +kernel
theorem dX7_start_84 : decode cX7_start 84 = .ok (.iconst 1, 1) := by decide +kernel
theorem dX7_start_85 : decode cX7_start 85 = .ok (.iadd, 1) := by decide +kernel
theorem dX7_start_86 : decode cX7_start 86 = .ok (.putfield 213, 3) := by decide +kernel
theorem dX7_start_89 : decode cX7_start 89 = .ok (.return_, 1) := by decide +kernel
theorem dX7_goOnStart_0 : decode cX7_goOnStart 0 = .ok (.aload_n 0, 1) := by decide +kernel
theorem dX7_goOnStart_1 : decode cX7_goOnStart 1 = .ok (.getfield 213, 3) := by decide +kernel
theorem dX7_goOnStart_4 : decode cX7_goOnStart 4 = .ok (.iconst 1, 1) := by decide +kernel
theorem dX7_goOnStart_5 : decode cX7_goOnStart 5 = .ok (.isub, 1) := by decide +kernel
theorem dX7_goOnStart_6 : decode cX7_goOnStart 6 = .ok (.istore_n 1, 1) := by decide +kernel
theorem dX7_goOnStart_7 : decode cX7_goOnStart 7 = .ok (.aload_n 0, 1) := by decide +kernel
theorem dX7_goOnStart_8 : decode cX7_goOnStart 8 = .ok (.getfield 113, 3) := by decide +kernel
theorem dX7_goOnStart_11 : decode cX7_goOnStart 11 = .ok (.iload_n 1, 1) := by decide +kernel
theorem dX7_goOnStart_12 : decode cX7_goOnStart 12 = .ok (.iaload, 1) := by decide +kernel
theorem dX7_goOnStart_13 : decode cX7_goOnStart 13 = .ok (.istore_n 2, 1) := by decide +kernel
theorem dX7_goOnStart_14 : decode cX7_goOnStart 14 = .ok (.aload_n 0, 1) := by decide +kernel
theorem dX7_goOnStart_15 : decode cX7_goOnStart 15 = .ok (.iload_n 2, 1) := by decide +kernel
theorem dX7_goOnStart_16 : decode cX7_goOnStart 16 = .ok (.invokevirtual 173, 3) := by decide +kernel
theorem dX7_goOnStart_19 : decode cX7_goOnStart 19 = .ok (.aload_n 0, 1) := by decide +kernel
theorem dX7_goOnStart_20 : decode cX7_goOnStart 20 = .ok (.getfield 116, 3) := by decide +kernel
theorem dX7_goOnStart_23 : decode cX7_goOnStart 23 = .ok (.iload_n 1, 1) := by decide +kernel
theorem dX7_goOnStart_24 : decode cX7_goOnStart 24 = .ok (.iaload, 1) := by decide +kernel
theorem dX7_goOnStart_25 : decode cX7_goOnStart 25 = .ok (.istore_n 3, 1) := by decide +kernel
theorem dX7_goOnStart_26 : decode cX7_goOnStart 26 = .ok (.aload_n 0, 1) := by decide +kernel
theorem dX7_goOnStart_27 : decode cX7_goOnStart 27 = .ok (.getfield 116, 3) := by decide +kernel
theorem dX7_goOnStart_30 : decode cX7_goOnStart 30 = .ok (.iload_n 1, 1) := by decide +kernel
theorem dX7_goOnStart_31 : decode cX7_goOnStart 31 = .ok (.dup2, 1) := by decide +kernel
theorem dX7_goOnStart_32 : decode cX7_goOnStart 32 = .ok (.iaload, 1) := by decide +kernel
theorem dX7_goOnStart_33 : decode cX7_goOnStart 33 = .ok (.iconst 1, 1) := by decide +kernel
theorem dX7_goOnStart_34 : decode cX7_goOnStart 34 = .ok (.iadd, 1) := by decide +kernel
theorem dX7_goOnStart_35 : decode cX7_goOnStart 35 = .ok (.iastore, 1) := by decide +kernel
theorem dX7_goOnStart_36 : decode cX7_goOnStart 36 = .ok (.iload_n 3, 1) := by decide +kernel
theorem dX7_goOnStart_37 : decode cX7_goOnStart 37 = .ok (.aload_n 0, 1) := by decide +kernel
theorem dX7_goOnStart_38 : decode cX7_goOnStart 38 = .ok (.getfield 164, 3) := by decide +kernel
theorem dX7_goOnStart_41 : decode cX7_goOnStart 41 = .ok (.if_icmp .ge 16, 3) := by decide +kernel
theorem dX7_goOnStart_44 : decode cX7_goOnStart 44 = .ok (.aload_n 0, 1) := by decide +kernel
theorem dX7_goOnStart_45 : decode cX7_goOnStart 45 = .ok (.aload_n 0, 1) := by decide +kernel
theorem dX7_goOnStart_46 : decode cX7_goOnStart 46 = .ok (.getfield 65, 3) := by decide +kernel
theorem dX7_goOnStart_49 : decode cX7_goOnStart 49 = .ok (.iload_n 3, 1) := by decide +kernel
theorem dX7_goOnStart_50 : decode cX7_goOnStart 50 = .ok (.iaload, 1) := by decide +kernel
theorem dX7_goOnStart_51 : decode cX7_goOnStart 51 = .ok (.invokevirtual 222, 3) := by decide +kernel
theorem dX7_goOnStart_54 : decode cX7_goOnStart 54 = .ok (.goto 107, 3) := by decide +kernel
theorem dX7_goOnStart_57 : decode cX7_goOnStart 57 = .ok (.iload_n 3, 1) := by decide +kernel
theorem dX7_goOnStart_58 : decode cX7_goOnStart 58 = .ok (.aload_n 0, 1) := by decide +kernel
theorem dX7_goOnStart_59 : decode cX7_goOnStart 59 = .ok (.getfield 164, 3) := by decide +kernel
theorem dX7_goOnStart_62 : decode cX7_goOnStart 62 = .ok (.if_icmp .ne 74, 3) := by decide +kernel
theorem dX7_goOnStart_65 : decode cX7_goOnStart 65 = .ok (.aload_n 0, 1) := by decide +kernel
theorem dX7_goOnStart_66 : decode cX7_goOnStart 66 = .ok (.getfield 210, 3) := by decide +kernel
theorem dX7_goOnStart_69 : decode cX7_goOnStart 69 = .ok (.bipush 30, 2) := by decide +kernel
theorem dX7_goOnStart_71 : decode cX7_goOnStart 71 = .ok (.if_icmp .ne 9, 3) := by decide +kernel
theorem dX7_goOnStart_74 : decode cX7_goOnStart 74 = .ok (.aload_n 0, 1) := by decide +kernel
theorem dX7_goOnStart_75 : decode cX7_goOnStart 75 = .ok (.iconst 1, 1) := by decide +kernel
theorem dX7_goOnStart_76 : decode cX7_goOnStart 76 = .ok (.putfield 197, 3) := by decide +kernel
theorem dX7_goOnStart_79 : decode cX7_goOnStart 79 = .ok (.return_, 1) := by decide +kernel
theorem dX7_goOnStart_80 : decode cX7_goOnStart 80 = .ok (.aload_n 0, 1) := by decide +kernel
theorem dX7_goOnStart_81 : decode cX7_goOnStart 81 = .ok (.getfield 98, 3) := by decide +kernel
theorem dX7_goOnStart_84 : decode cX7_goOnStart 84 = .ok (.bipush 40, 2) := by decide +kernel
theorem dX7_goOnStart_86 : decode cX7_goOnStart 86 = .ok (.aload_n 0, 1) := by decide +kernel
theorem dX7_goOnStart_87 : decode cX7_goOnStart 87 = .ok (.getfield 191, 3) := by decide +kernel
theorem dX7_goOnStart_90 : decode cX7_goOnStart 90 = .ok (.imul, 1) := by decide +kernel
theorem dX7_goOnStart_91 : decode cX7_goOnStart 91 = .ok (.aload_n 0, 1) := by decide +kernel
theorem dX7_goOnStart_92 : decode cX7_goOnStart 92 = .ok (.getfield 95, 3) := by decide +kernel
theorem dX7_goOnStart_95 : decode cX7_goOnStart 95 = .ok (.aload_n 0, 1) := by decide +kernel
theorem dX7_goOnStart_96 : decode cX7_goOnStart 96 = .ok (.getfield 191, 3) := by decide +kernel
theorem dX7_goOnStart_99 : decode cX7_goOnStart 99 = .ok (.iaload, 1) := by decide +kernel
theorem dX7_goOnStart_100 : decode cX7_goOnStart 100 = .ok (.iadd, 1) := by decide +kernel
theorem dX7_goOnStart_101 : decode cX7_goOnStart 101 = .ok (.iload_n 2, 1) := by decide +kernel
theorem dX7_goOnStart_102 : decode cX7_goOnStart 102 = .ok (.iastore, 1) := by decide +kernel
theorem dX7_goOnStart_103 : decode cX7_goOnStart 103 = .ok (.aload_n 0, 1) := by decide +kernel
theorem dX7_goOnStart_104 : decode cX7_goOnStart 104 = .ok (.getfield 95, 3) := by decide +kernel
theorem dX7_goOnStart_107 : decode cX7_goOnStart 107 = .ok (.aload_n 0, 1) := by decide +kernel
theorem dX7_goOnStart_108 : decode cX7_goOnStart 108 = .ok (.getfield 191, 3) := by decide +kernel
theorem dX7_goOnStart_111 : decode cX7_goOnStart 111 = .ok (.dup2, 1) := by decide +kernel
theorem dX7_goOnStart_112 : decode cX7_goOnStart 112 = .ok (.iaload, 1) := by decide +kernel
theorem dX7_goOnStart_113 : decode cX7_goOnStart 113 = .ok (.iconst 1, 1) := by decide +kernel
theorem dX7_goOnStart_114 : decode cX7_goOnStart 114 = .ok (.iadd, 1) := by decide +kernel
theorem dX7_goOnStart_115 : decode cX7_goOnStart 115 = .ok (.iastore, 1) := by decide +kernel
theorem dX7_goOnStart_116 : decode cX7_goOnStart 116 = .ok (.aload_n 0, 1) := by decide +kernel
theorem dX7_goOnStart_117 : decode cX7_goOnStart 117 = .ok (.dup, 1) := by decide +kernel
theorem dX7_goOnStart_118 : decode cX7_goOnStart 118 = .ok (.getfield 225, 3) := by decide +kernel
theorem dX7_goOnStart_121 : decode cX7_goOnStart 121 = .ok (.iconst 1, 1) := by decide +kernel
theorem dX7_goOnStart_122 : decode cX7_goOnStart 122 = .ok (.iadd, 1) := by decide +kernel
theorem dX7_goOnStart_123 : decode cX7_goOnStart 123 = .ok (.putfield 225, 3) := by decide +kernel
theorem dX7_goOnStart_126 : decode cX7_goOnStart 126 = .ok (.aload_n 0, 1) := by decide +kernel
theorem dX7_goOnStart_127 : decode cX7_goOnStart 127 = .ok (.iconst 5, 1) := by decide +kernel
theorem dX7_goOnStart_128 : decode cX7_goOnStart 128 = .ok (.iload_n 2, 1) := by decide +kernel
theorem dX7_goOnStart_129 : decode cX7_goOnStart 129 = .ok (.imul, 1) := by decide +kernel
theorem dX7_goOnStart_130 : decode cX7_goOnStart 130 = .ok (.invokevirtual 228, 3) := by decide +kernel
theorem dX7_goOnStart_133 : decode cX7_goOnStart 133 = .ok (.goto 28, 3) := by decide +kernel
theorem dX7_goOnStart_136 : decode cX7_goOnStart 136 = .ok (.aload_n 0, 1) := by decide +kernel
theorem dX7_goOnStart_137 : decode cX7_goOnStart 137 = .ok (.getfield 83, 3) := by decide +kernel
theorem dX7_goOnStart_140 : decode cX7_goOnStart 140 = .ok (.bipush 40, 2) := by decide +kernel
theorem dX7_goOnStart_142 : decode cX7_goOnStart 142 = .ok (.aload_n 0, 1) := by decide +kernel
theorem dX7_goOnStart_143 : decode cX7_goOnStart 143 = .ok (.getfield 191, 3) := by decide +kernel
theorem dX7_goOnStart_146 : decode cX7_goOnStart 146 = .ok (.imul, 1) := by decide +kernel
theorem dX7_goOnStart_147 : decode cX7_goOnStart 147 = .ok (.iload_n 2, 1) := by decide +kernel
theorem dX7_goOnStart_148 : decode cX7_goOnStart 148 = .ok (.iadd, 1) := by decide +kernel
theorem dX7_goOnStart_149 : decode cX7_goOnStart 149 = .ok (.iconst 2, 1) := by decide +kernel
theorem dX7_goOnStart_150 : decode cX7_goOnStart 150 = .ok (.iastore, 1) := by decide +kernel
theorem dX7_goOnStart_151 : decode cX7_goOnStart 151 = .ok (.aload_n 0, 1) := by decide +kernel
theorem dX7_goOnStart_152 : decode cX7_goOnStart 152 = .ok (.dup, 1) := by decide +kernel
theorem dX7_goOnStart_153 : decode cX7_goOnStart 153 = .ok (.getfield 213, 3) := by decide +kernel
theorem dX7_goOnStart_156 : decode cX7_goOnStart 156 = .ok (.iconst 1, 1) := by decide +kernel
theorem dX7_goOnStart_157 : decode cX7_goOnStart 157 = .ok (.isub, 1) := by decide +kernel
theorem dX7_goOnStart_158 : decode cX7_goOnStart 158 = .ok (.putfield 213, 3) := by decide +kernel
theorem dX7_goOnStart_161 : decode cX7_goOnStart 161 = .ok (.return_, 1) := by decide +kernel
theorem dX7_kindAt_0 : decode cX7_kindAt 0 = .ok (.aload_n 0, 1) := by decide +kernel
theorem dX7_kindAt_1 : decode cX7_kindAt 1 = .ok (.getfield 113, 3) := by decide +kernel
theorem dX7_kindAt_4 : decode cX7_kindAt 4 = .ok (.iload_n 1, 1) := by decide +kernel
theorem dX7_kindAt_5 : decode cX7_kindAt 5 = .ok (.iaload, 1) := by decide +kernel
theorem dX7_kindAt_6 : decode cX7_kindAt 6 = .ok (.ifCond .ge 10, 3) := by decide +kernel
theorem dX7_kindAt_9 : decode cX7_kindAt 9 = .ok (.aload_n 0, 1) := by decide +kernel
theorem dX7_kindAt_10 : decode cX7_kindAt 10 = .ok (.getfield 231, 3) := by decide +kernel
theorem dX7_kindAt_13 : decode cX7_kindAt 13 = .ok (.goto 24, 3) := by decide +kernel
theorem dX7_kindAt_16 : decode cX7_kindAt 16 = .ok (.aload_n 0, 1) := by decide +kernel
theorem dX7_kindAt_17 : decode cX7_kindAt 17 = .ok (.getfield 47, 3) := by decide +kernel
theorem dX7_kindAt_20 : decode cX7_kindAt 20 = .ok (.bipush 12, 2) := by decide +kernel
theorem dX7_kindAt_22 : decode cX7_kindAt 22 = .ok (.aload_n 0, 1) := by decide +kernel
theorem dX7_kindAt_23 : decode cX7_kindAt 23 = .ok (.getfield 113, 3) := by decide +kernel
theorem dX7_kindAt_26 : decode cX7_kindAt 26 = .ok (.iload_n 1, 1) := by decide +kernel
theorem dX7_kindAt_27 : decode cX7_kindAt 27 = .ok (.iaload, 1) := by decide +kernel
theorem dX7_kindAt_28 : decode cX7_kindAt 28 = .ok (.imul, 1) := by decide +kernel
theorem dX7_kindAt_29 : decode cX7_kindAt 29 = .ok (.aload_n 0, 1) := by decide +kernel
theorem dX7_kindAt_30 : decode cX7_kindAt 30 = .ok (.getfield 116, 3) := by decide +kernel
theorem dX7_kindAt_33 : decode cX7_kindAt 33 = .ok (.iload_n 1, 1) := by decide +kernel
theorem dX7_kindAt_34 : decode cX7_kindAt 34 = .ok (.iaload, 1) := by decide +kernel
theorem dX7_kindAt_35 : decode cX7_kindAt 35 = .ok (.iadd, 1) := by decide +kernel
theorem dX7_kindAt_36 : decode cX7_kindAt 36 = .ok (.iaload, 1) := by decide +kernel
theorem dX7_kindAt_37 : decode cX7_kindAt 37 = .ok (.ireturn, 1) := by decide +kernel
theorem dX7_typeAt_0 : decode cX7_typeAt 0 = .ok (.aload_n 0, 1) := by decide +kernel
theorem dX7_typeAt_1 : decode cX7_typeAt 1 = .ok (.getfield 113, 3) := by decide +kernel
theorem dX7_typeAt_4 : decode cX7_typeAt 4 = .ok (.iload_n 1, 1) := by decide +kernel
theorem dX7_typeAt_5 : decode cX7_typeAt 5 = .ok (.iaload, 1) := by decide +kernel
theorem dX7_typeAt_6 : decode cX7_typeAt 6 = .ok (.ifCond .ge 10, 3) := by decide +kernel
theorem dX7_typeAt_9 : decode cX7_typeAt 9 = .ok (.aload_n 0, 1) := by decide +kernel
theorem dX7_typeAt_10 : decode cX7_typeAt 10 = .ok (.getfield 234, 3) := by decide +kernel
theorem dX7_typeAt_13 : decode cX7_typeAt 13 = .ok (.goto 24, 3) := by decide +kernel
theorem dX7_typeAt_16 : decode cX7_typeAt 16 = .ok (.aload_n 0, 1) := by decide +kernel
theorem dX7_typeAt_17 : decode cX7_typeAt 17 = .ok (.getfield 50, 3) := by decide +kernel
theorem dX7_typeAt_20 : decode cX7_typeAt 20 = .ok (.bipush 12, 2) := by decide +kernel
theorem dX7_typeAt_22 : decode cX7_typeAt 22 = .ok (.aload_n 0, 1) := by decide +kernel
theorem dX7_typeAt_23 : decode cX7_typeAt 23 = .ok (.getfield 113, 3) := by decide +kernel
theorem dX7_typeAt_26 : decode cX7_typeAt 26 = .ok (.iload_n 1, 1) := by decide +kernel
theorem dX7_typeAt_27 : decode cX7_typeAt 27 = .ok (.iaload, 1) := by decide +kernel
theorem dX7_typeAt_28 : decode cX7_typeAt 28 = .ok (.imul, 1) := by decide +kernel
theorem dX7_typeAt_29 : decode cX7_typeAt 29 = .ok (.aload_n 0, 1) := by decide +kernel
theorem dX7_typeAt_30 : decode cX7_typeAt 30 = .ok (.getfield 116, 3) := by decide +kernel
theorem dX7_typeAt_33 : decode cX7_typeAt 33 = .ok (.iload_n 1, 1) := by decide +kernel
theorem dX7_typeAt_34 : decode cX7_typeAt 34 = .ok (.iaload, 1) := by decide +kernel
theorem dX7_typeAt_35 : decode cX7_typeAt 35 = .ok (.iadd, 1) := by decide +kernel
theorem dX7_typeAt_36 : decode cX7_typeAt 36 = .ok (.iaload, 1) := by decide +kernel
theorem dX7_typeAt_37 : decode cX7_typeAt 37 = .ok (.ireturn, 1) := by decide +kernel
theorem dX7_nameAt_0 : decode cX7_nameAt 0 = .ok (.aload_n 0, 1) := by decide +kernel
theorem dX7_nameAt_1 : decode cX7_nameAt 1 = .ok (.getfield 113, 3) := by decide +kernel
theorem dX7_nameAt_4 : decode cX7_nameAt 4 = .ok (.iload_n 1, 1) := by decide +kernel
theorem dX7_nameAt_5 : decode cX7_nameAt 5 = .ok (.iaload, 1) := by decide +kernel
theorem dX7_nameAt_6 : decode cX7_nameAt 6 = .ok (.ifCond .ge 10, 3) := by decide +kernel
theorem dX7_nameAt_9 : decode cX7_nameAt 9 = .ok (.aload_n 0, 1) := by decide +kernel
theorem dX7_nameAt_10 : decode cX7_nameAt 10 = .ok (.getfield 237, 3) := by decide +kernel
theorem dX7_nameAt_13 : decode cX7_nameAt 13 = .ok (.goto 24, 3) := by decide +kernel
theorem dX7_nameAt_16 : decode cX7_nameAt 16 = .ok (.aload_n 0, 1) := by decide +kernel
theorem dX7_nameAt_17 : decode cX7_nameAt 17 = .ok (.getfield 53, 3) := by decide +kernel
theorem dX7_nameAt_20 : decode cX7_nameAt 20 = .ok (.bipush 12, 2) := by decide +kernel
theorem dX7_nameAt_22 : decode cX7_nameAt 22 = .ok (.aload_n 0, 1) := by decide +kernel
theorem dX7_nameAt_23 : decode cX7_nameAt 23 = .ok (.getfield 113, 3) := by decide +kernel
theorem dX7_nameAt_26 : decode cX7_nameAt 26 = .ok (.iload_n 1, 1) := by decide +kernel
theorem dX7_nameAt_27 : decode cX7_nameAt 27 = .ok (.iaload, 1) := by decide +kernel
theorem dX7_nameAt_28 : decode cX7_nameAt 28 = .ok (.imul, 1) := by decide +kernel
theorem dX7_nameAt_29 : decode cX7_nameAt 29 = .ok (.aload_n 0, 1) := by decide +kernel
theorem dX7_nameAt_30 : decode cX7_nameAt 30 = .ok (.getfield 116, 3) := by decide +kernel
theorem dX7_nameAt_33 : decode cX7_nameAt 33 = .ok (.iload_n 1, 1) := by decide +kernel
theorem dX7_nameAt_34 : decode cX7_nameAt 34 = .ok (.iaload, 1) := by decide +kernel
theorem dX7_nameAt_35 : decode cX7_nameAt 35 = .ok (.iadd, 1) := by decide +kernel
theorem dX7_nameAt_36 : decode cX7_nameAt 36 = .ok (.iaload, 1) := by decide +kernel
theorem dX7_nameAt_37 : decode cX7_nameAt 37 = .ok (.ireturn, 1) := by decide +kernel
theorem dX7_valueAt_0 : decode cX7_valueAt 0 = .ok (.aload_n 0, 1) := by decide +kernel
theorem dX7_valueAt_1 : decode cX7_valueAt 1 = .ok (.getfield 113, 3) := by decide +kernel
theorem dX7_valueAt_4 : decode cX7_valueAt 4 = .ok (.iload_n 1, 1) := by decide +kernel
theorem dX7_valueAt_5 : decode cX7_valueAt 5 = .ok (.iaload, 1) := by decide +kernel
theorem dX7_valueAt_6 : decode cX7_valueAt 6 = .ok (.ifCond .ge 10, 3) := by decide +kernel
theorem dX7_valueAt_9 : decode cX7_valueAt 9 = .ok (.aload_n 0, 1) := by decide +kernel
theorem dX7_valueAt_10 : decode cX7_valueAt 10 = .ok (.getfield 240, 3) := by decide +kernel
theorem dX7_valueAt_13 : decode cX7_valueAt 13 = .ok (.goto 24, 3) := by decide +kernel
theorem dX7_valueAt_16 : decode cX7_valueAt 16 = .ok (.aload_n 0, 1) := by decide +kernel
theorem dX7_valueAt_17 : decode cX7_valueAt 17 = .ok (.getfield 56, 3) := by decide +kernel
theorem dX7_valueAt_20 : decode cX7_valueAt 20 = .ok (.bipush 12, 2) := by decide +kernel
theorem dX7_valueAt_22 : decode cX7_valueAt 22 = .ok (.aload_n 0, 1) := by decide +kernel
theorem dX7_valueAt_23 : decode cX7_valueAt 23 = .ok (.getfield 113, 3) := by decide +kernel
theorem dX7_valueAt_26 : decode cX7_valueAt 26 = .ok (.iload_n 1, 1) := by decide +kernel
theorem dX7_valueAt_27 : decode cX7_valueAt 27 = .ok (.iaload, 1) := by decide +kernel
theorem dX7_valueAt_28 : decode cX7_valueAt 28 = .ok (.imul, 1) := by decide +kernel
theorem dX7_valueAt_29 : decode cX7_valueAt 29 = .ok (.aload_n 0, 1) := by decide +kernel
theorem dX7_valueAt_30 : decode cX7_valueAt 30 = .ok (.getfield 116, 3) := by decide +kernel
theorem dX7_valueAt_33 : decode cX7_valueAt 33 = .ok (.iload_n 1, 1) := by decide +kernel
theorem dX7_valueAt_34 : decode cX7_valueAt 34 = .ok (.iaload, 1) := by decide +kernel
theorem dX7_valueAt_35 : decode cX7_valueAt 35 = .ok (.iadd, 1) := by decide +kernel
theorem dX7_valueAt_36 : decode cX7_valueAt 36 = .ok (.iaload, 1) := by decide +kernel
theorem dX7_valueAt_37 : decode cX7_valueAt 37 = .ok (.ireturn, 1) := by decide +kernel
theorem dX7_sizeOf_0 : decode cX7_sizeOf 0 = .ok (.aload_n 0, 1) := by decide +kernel
theorem dX7_sizeOf_1 : decode cX7_sizeOf 1 = .ok (.getfield 113, 3) := by decide +kernel
theorem dX7_sizeOf_4 : decode cX7_sizeOf 4 = .ok (.iload_n 1, 1) := by decide +kernel
theorem dX7_sizeOf_5 : decode cX7_sizeOf 5 = .ok (.iaload, 1) := by decide +kernel
theorem dX7_sizeOf_6 : decode cX7_sizeOf 6 = .ok (.ifCond .ge 7, 3) := by decide +kernel
theorem dX7_sizeOf_9 : decode cX7_sizeOf 9 = .ok (.iconst 1, 1) := by decide +kernel
theorem dX7_sizeOf_10 : decode cX7_sizeOf 10 = .ok (.goto 14, 3) := by decide +kernel
theorem dX7_sizeOf_13 : decode cX7_sizeOf 13 = .ok (.aload_n 0, 1) := by decide +kernel
theorem dX7_sizeOf_14 : decode cX7_sizeOf 14 = .ok (.getfield 44, 3) := by decide +kernel
theorem dX7_sizeOf_17 : decode cX7_sizeOf 17 = .ok (.aload_n 0, 1) := by decide +kernel
theorem dX7_sizeOf_18 : decode cX7_sizeOf 18 = .ok (.getfield 113, 3) := by decide +kernel
theorem dX7_sizeOf_21 : decode cX7_sizeOf 21 = .ok (.iload_n 1, 1) := by decide +kernel
theorem dX7_sizeOf_22 : decode cX7_sizeOf 22 = .ok (.iaload, 1) := by decide +kernel
theorem dX7_sizeOf_23 : decode cX7_sizeOf 23 = .ok (.iaload, 1) := by decide +kernel
theorem dX7_sizeOf_24 : decode cX7_sizeOf 24 = .ok (.ireturn, 1) := by decide +kernel
theorem dX7_did_0 : decode cX7_did 0 = .ok (.aload_n 0, 1) := by decide +kernel
theorem dX7_did_1 : decode cX7_did 1 = .ok (.getfield 116, 3) := by decide +kernel
theorem dX7_did_4 : decode cX7_did 4 = .ok (.iload_n 1, 1) := by decide +kernel
theorem dX7_did_5 : decode cX7_did 5 = .ok (.dup2, 1) := by decide +kernel
theorem dX7_did_6 : decode cX7_did 6 = .ok (.iaload, 1) := by decide +kernel
theorem dX7_did_7 : decode cX7_did 7 = .ok (.iconst 1, 1) := by decide +kernel
theorem dX7_did_8 : decode cX7_did 8 = .ok (.iadd, 1) := by decide +kernel
theorem dX7_did_9 : decode cX7_did 9 = .ok (.iastore, 1) := by decide +kernel
theorem dX7_did_10 : decode cX7_did 10 = .ok (.aload_n 0, 1) := by decide +kernel
theorem dX7_did_11 : decode cX7_did 11 = .ok (.getfield 119, 3) := by decide +kernel
theorem dX7_did_14 : decode cX7_did 14 = .ok (.iload_n 1, 1) := by decide +kernel
theorem dX7_did_15 : decode cX7_did 15 = .ok (.bipush (-6), 2) := by decide +kernel
theorem dX7_did_17 : decode cX7_did 17 = .ok (.iastore, 1) := by decide +kernel
theorem dX7_did_18 : decode cX7_did 18 = .ok (.aload_n 0, 1) := by decide +kernel
theorem dX7_did_19 : decode cX7_did 19 = .ok (.getfield 122, 3) := by decide +kernel
theorem dX7_did_22 : decode cX7_did 22 = .ok (.iload_n 1, 1) := by decide +kernel
theorem dX7_did_23 : decode cX7_did 23 = .ok (.iconst 0, 1) := by decide +kernel
theorem dX7_did_24 : decode cX7_did 24 = .ok (.bastore, 1) := by decide +kernel
theorem dX7_did_25 : decode cX7_did 25 = .ok (.return_, 1) := by decide +kernel
theorem dX7_goOnBody_0 : decode cX7_goOnBody 0 = .ok (.aload_n 0, 1) := by decide +kernel
theorem dX7_goOnBody_1 : decode cX7_goOnBody 1 = .ok (.getfield 213, 3) := by decide +kernel
theorem dX7_goOnBody_4 : decode cX7_goOnBody 4 = .ok (.iconst 1, 1) := by decide +kernel
theorem dX7_goOnBody_5 : decode cX7_goOnBody 5 = .ok (.isub, 1) := by decide +kernel
theorem dX7_goOnBody_6 : decode cX7_goOnBody 6 = .ok (.istore_n 1, 1) := by decide +kernel
theorem dX7_goOnBody_7 : decode cX7_goOnBody 7 = .ok (.aload_n 0, 1) := by decide +kernel
theorem dX7_goOnBody_8 : decode cX7_goOnBody 8 = .ok (.getfield 122, 3) := by decide +kernel
theorem dX7_goOnBody_11 : decode cX7_goOnBody 11 = .ok (.iload_n 1, 1) := by decide +kernel
theorem dX7_goOnBody_12 : decode cX7_goOnBody 12 = .ok (.baload, 1) := by decide +kernel
theorem dX7_goOnBody_13 : decode cX7_goOnBody 13 = .ok (.ifCond .eq 9, 3) := by decide +kernel
theorem dX7_goOnBody_16 : decode cX7_goOnBody 16 = .ok (.aload_n 0, 1) := by decide +kernel
theorem dX7_goOnBody_17 : decode cX7_goOnBody 17 = .ok (.iload_n 1, 1) := by decide +kernel
theorem dX7_goOnBody_18 : decode cX7_goOnBody 18 = .ok (.invokevirtual 243, 3) := by decide +kernel
theorem dX7_goOnBody_21 : decode cX7_goOnBody 21 = .ok (.return_, 1) := by decide +kernel
theorem dX7_goOnBody_22 : decode cX7_goOnBody 22 = .ok (.aload_n 0, 1) := by decide +kernel
theorem dX7_goOnBody_23 : decode cX7_goOnBody 23 = .ok (.getfield 116, 3) := by decide +kernel
theorem dX7_goOnBody_26 : decode cX7_goOnBody 26 = .ok (.iload_n 1, 1) := by decide +kernel
theorem dX7_goOnBody_27 : decode cX7_goOnBody 27 = .ok (.iaload, 1) := by decide +kernel
theorem dX7_goOnBody_28 : decode cX7_goOnBody 28 = .ok (.aload_n 0, 1) := by decide +kernel
theorem dX7_goOnBody_29 : decode cX7_goOnBody 29 = .ok (.iload_n 1, 1) := by decide +kernel
theorem dX7_goOnBody_30 : decode cX7_goOnBody 30 = .ok (.invokevirtual 246, 3) := by decide +kernel
theorem dX7_goOnBody_33 : decode cX7_goOnBody 33 = .ok (.if_icmp .ne 37, 3) := by decide +kernel
theorem dX7_goOnBody_36 : decode cX7_goOnBody 36 = .ok (.aload_n 0, 1) := by decide +kernel
theorem dX7_goOnBody_37 : decode cX7_goOnBody 37 = .ok (.dup, 1) := by decide +kernel
theorem dX7_goOnBody_38 : decode cX7_goOnBody 38 = .ok (.getfield 210, 3) := by decide +kernel
theorem dX7_goOnBody_41 : decode cX7_goOnBody 41 = .ok (.aload_n 0, 1) := by decide +kernel
theorem dX7_goOnBody_42 : decode cX7_goOnBody 42 = .ok (.getfield 113, 3) := by decide +kernel
theorem dX7_goOnBody_45 : decode cX7_goOnBody 45 = .ok (.iload_n 1, 1) := by decide +kernel
theorem dX7_goOnBody_46 : decode cX7_goOnBody 46 = .ok (.iaload, 1) := by decide +kernel
theorem dX7_goOnBody_47 : decode cX7_goOnBody 47 = .ok (.ifCond .ge 7, 3) := by decide +kernel
theorem dX7_goOnBody_50 : decode cX7_goOnBody 50 = .ok (.iconst 0, 1) := by decide +kernel
theorem dX7_goOnBody_51 : decode cX7_goOnBody 51 = .ok (.goto 4, 3) := by decide +kernel
theorem dX7_goOnBody_54 : decode cX7_goOnBody 54 = .ok (.iconst 1, 1) := by decide +kernel
theorem dX7_goOnBody_55 : decode cX7_goOnBody 55 = .ok (.isub, 1) := by decide +kernel
theorem dX7_goOnBody_56 : decode cX7_goOnBody 56 = .ok (.putfield 210, 3) := by decide +kernel
theorem dX7_goOnBody_59 : decode cX7_goOnBody 59 = .ok (.aload_n 0, 1) := by decide +kernel
theorem dX7_goOnBody_60 : decode cX7_goOnBody 60 = .ok (.dup, 1) := by decide +kernel
theorem dX7_goOnBody_61 : decode cX7_goOnBody 61 = .ok (.getfield 213, 3) := by decide +kernel
theorem dX7_goOnBody_64 : decode cX7_goOnBody 64 = .ok (.iconst 1, 1) := by decide +kernel
theorem dX7_goOnBody_65 : decode cX7_goOnBody 65 = .ok (.isub, 1) := by decide +kernel
theorem dX7_goOnBody_66 : decode cX7_goOnBody 66 = .ok (.putfield 213, 3) := by decide +kernel
theorem dX7_goOnBody_69 : decode cX7_goOnBody 69 = .ok (.return_, 1) := by decide +kernel
theorem dX7_goOnBody_70 : decode cX7_goOnBody 70 = .ok (.aload_n 0, 1) := by decide +kernel
theorem dX7_goOnBody_71 : decode cX7_goOnBody 71 = .ok (.getfield 250, 3) := by decide +kernel
theorem dX7_goOnBody_74 : decode cX7_goOnBody 74 = .ok (.sipush 1000, 3) := by decide +kernel
theorem dX7_goOnBody_77 : decode cX7_goOnBody 77 = .ok (.if_icmp .ne 9, 3) := by decide +kernel
theorem dX7_goOnBody_80 : decode cX7_goOnBody 80 = .ok (.aload_n 0, 1) := by decide +kernel
theorem dX7_goOnBody_81 : decode cX7_goOnBody 81 = .ok (.iconst 1, 1) := by decide +kernel
theorem dX7_goOnBody_82 : decode cX7_goOnBody 82 = .ok (.putfield 197, 3) := by decide +kernel
theorem dX7_goOnBody_85 : decode cX7_goOnBody 85 = .ok (.return_, 1) := by decide +kernel
theorem dX7_goOnBody_86 : decode cX7_goOnBody 86 = .ok (.aload_n 0, 1) := by decide +kernel
theorem dX7_goOnBody_87 : decode cX7_goOnBody 87 = .ok (.dup, 1) := by decide +kernel
theorem dX7_goOnBody_88 : decode cX7_goOnBody 88 = .ok (.getfield 250, 3) := by decide +kernel
theorem dX7_goOnBody_91 : decode cX7_goOnBody 91 = .ok (.iconst 1, 1) := by decide +kernel
theorem dX7_goOnBody_92 : decode cX7_goOnBody 92 = .ok (.iadd, 1) := by decide +kernel
theorem dX7_goOnBody_93 : decode cX7_goOnBody 93 = .ok (.putfield 250, 3) := by decide +kernel
theorem dX7_goOnBody_96 : decode cX7_goOnBody 96 = .ok (.aload_n 0, 1) := by decide +kernel
theorem dX7_goOnBody_97 : decode cX7_goOnBody 97 = .ok (.iload_n 1, 1) := by decide +kernel
theorem dX7_goOnBody_98 : decode cX7_goOnBody 98 = .ok (.invokevirtual 253, 3) := by decide +kernel
theorem dX7_goOnBody_101 : decode cX7_goOnBody 101 = .ok (.istore_n 2, 1) := by decide +kernel
theorem dX7_goOnBody_102 : decode cX7_goOnBody 102 = .ok (.iload_n 2, 1) := by decide +kernel
theorem dX7_goOnBody_103 : decode cX7_goOnBody 103 = .ok (.bipush 8, 2) := by decide +kernel
theorem dX7_goOnBody_105 : decode cX7_goOnBody 105 = .ok (.if_icmp .ne 46, 3) := by decide +kernel
theorem dX7_goOnBody_108 : decode cX7_goOnBody 108 = .ok (.aload_n 0, 1) := by decide +kernel
theorem dX7_goOnBody_109 : decode cX7_goOnBody 109 = .ok (.getfield 119, 3) := by decide +kernel
theorem dX7_goOnBody_112 : decode cX7_goOnBody 112 = .ok (.iload_n 1, 1) := by decide +kernel
theorem dX7_goOnBody_113 : decode cX7_goOnBody 113 = .ok (.aload_n 0, 1) := by decide +kernel
theorem dX7_goOnBody_114 : decode cX7_goOnBody 114 = .ok (.getfield 119, 3) := by decide +kernel
theorem dX7_goOnBody_117 : decode cX7_goOnBody 117 = .ok (.iload_n 1, 1) := by decide +kernel
theorem dX7_goOnBody_118 : decode cX7_goOnBody 118 = .ok (.iaload, 1) := by decide +kernel
theorem dX7_goOnBody_119 : decode cX7_goOnBody 119 = .ok (.bipush (-6), 2) := by decide +kernel
theorem dX7_goOnBody_121 : decode cX7_goOnBody 121 = .ok (.if_icmp .ne 12, 3) := by decide +kernel
theorem dX7_goOnBody_124 : decode cX7_goOnBody 124 = .ok (.aload_n 0, 1) := by decide +kernel
theorem dX7_goOnBody_125 : decode cX7_goOnBody 125 = .ok (.getfield 116, 3) := by decide +kernel
theorem dX7_goOnBody_128 : decode cX7_goOnBody 128 = .ok (.iload_n 1, 1) := by decide +kernel
theorem dX7_goOnBody_129 : decode cX7_goOnBody 129 = .ok (.iaload, 1) := by decide +kernel
theorem dX7_goOnBody_130 : decode cX7_goOnBody 130 = .ok (.goto 9, 3) := by decide +kernel
theorem dX7_goOnBody_133 : decode cX7_goOnBody 133 = .ok (.aload_n 0, 1) := by decide +kernel
theorem dX7_goOnBody_134 : decode cX7_goOnBody 134 = .ok (.getfield 119, 3) := by decide +kernel
theorem dX7_goOnBody_137 : decode cX7_goOnBody 137 = .ok (.iload_n 1, 1) := by decide +kernel
theorem dX7_goOnBody_138 : decode cX7_goOnBody 138 = .ok (.iaload, 1) := by decide +kernel
theorem dX7_goOnBody_139 : decode cX7_goOnBody 139 = .ok (.iastore, 1) := by decide +kernel
theorem dX7_goOnBody_140 : decode cX7_goOnBody 140 = .ok (.aload_n 0, 1) := by decide +kernel
theorem dX7_goOnBody_141 : decode cX7_goOnBody 141 = .ok (.getfield 116, 3) := by decide +kernel
theorem dX7_goOnBody_144 : decode cX7_goOnBody 144 = .ok (.iload_n 1, 1) := by decide +kernel
theorem dX7_goOnBody_145 : decode cX7_goOnBody 145 = .ok (.dup2, 1) := by decide +kernel
theorem dX7_goOnBody_146 : decode cX7_goOnBody 146 = .ok (.iaload, 1) := by decide +kernel
theorem dX7_goOnBody_147 : decode cX7_goOnBody 147 = .ok (.iconst 1, 1) := by decide +kernel
theorem dX7_goOnBody_148 : decode cX7_goOnBody 148 = .ok (.iadd, 1) := by decide +kernel
theorem dX7_goOnBody_149 : decode cX7_goOnBody 149 = .ok (.iastore, 1) := by decide +kernel
theorem dX7_goOnBody_150 : decode cX7_goOnBody 150 = .ok (.return_, 1) := by decide +kernel
theorem dX7_goOnBody_151 : decode cX7_goOnBody 151 = .ok (.aload_n 0, 1) := by decide +kernel
theorem dX7_goOnBody_152 : decode cX7_goOnBody 152 = .ok (.iload_n 2, 1) := by decide +kernel
theorem dX7_goOnBody_153 : decode cX7_goOnBody 153 = .ok (.aload_n 0, 1) := by decide +kernel
theorem dX7_goOnBody_154 : decode cX7_goOnBody 154 = .ok (.iload_n 1, 1) := by decide +kernel
theorem dX7_goOnBody_155 : decode cX7_goOnBody 155 = .ok (.invokevirtual 256, 3) := by decide +kernel
theorem dX7_goOnBody_158 : decode cX7_goOnBody 158 = .ok (.aload_n 0, 1) := by decide +kernel
theorem dX7_goOnBody_159 : decode cX7_goOnBody 159 = .ok (.iload_n 1, 1) := by decide +kernel
theorem dX7_goOnBody_160 : decode cX7_goOnBody 160 = .ok (.invokevirtual 259, 3) := by decide +kernel
theorem dX7_goOnBody_163 : decode cX7_goOnBody 163 = .ok (.invokevirtual 167, 3) := by decide +kernel
theorem dX7_goOnBody_166 : decode cX7_goOnBody 166 = .ok (.ifCond .eq 12, 3) := by decide +kernel
theorem dX7_goOnBody_169 : decode cX7_goOnBody 169 = .ok (.aload_n 0, 1) := by decide +kernel
theorem dX7_goOnBody_170 : decode cX7_goOnBody 170 = .ok (.bipush 22, 2) := by decide +kernel
theorem dX7_goOnBody_172 : decode cX7_goOnBody 172 = .ok (.bipush (-6), 2) := by decide +kernel
theorem dX7_goOnBody_174 : decode cX7_goOnBody 174 = .ok (.invokevirtual 219, 3) := by decide +kernel
theorem dX7_goOnBody_177 : decode cX7_goOnBody 177 = .ok (.return_, 1) := by decide +kernel
theorem dX7_goOnBody_178 : decode cX7_goOnBody 178 = .ok (.aload_n 0, 1) := by decide +kernel
theorem dX7_goOnBody_179 : decode cX7_goOnBody 179 = .ok (.iload_n 2, 1) := by decide +kernel
theorem dX7_goOnBody_180 : decode cX7_goOnBody 180 = .ok (.aload_n 0, 1) := by decide +kernel
theorem dX7_goOnBody_181 : decode cX7_goOnBody 181 = .ok (.iload_n 1, 1) := by decide +kernel
theorem dX7_goOnBody_182 : decode cX7_goOnBody 182 = .ok (.invokevirtual 256, 3) := by decide +kernel
theorem dX7_goOnBody_185 : decode cX7_goOnBody 185 = .ok (.aload_n 0, 1) := by decide +kernel
theorem dX7_goOnBody_186 : decode cX7_goOnBody 186 = .ok (.iload_n 1, 1) := by decide +kernel
theorem dX7_goOnBody_187 : decode cX7_goOnBody 187 = .ok (.invokevirtual 259, 3) := by decide +kernel
theorem dX7_goOnBody_190 : decode cX7_goOnBody 190 = .ok (.invokevirtual 181, 3) := by decide +kernel
theorem dX7_goOnBody_193 : decode cX7_goOnBody 193 = .ok (.istore_n 3, 1) := by decide +kernel
theorem dX7_goOnBody_194 : decode cX7_goOnBody 194 = .ok (.aload_n 0, 1) := by decide +kernel
theorem dX7_goOnBody_195 : decode cX7_goOnBody 195 = .ok (.getfield 122, 3) := by decide +kernel
theorem dX7_goOnBody_198 : decode cX7_goOnBody 198 = .ok (.iload_n 1, 1) := by decide +kernel
theorem dX7_goOnBody_199 : decode cX7_goOnBody 199 = .ok (.iconst 1, 1) := by decide +kernel
theorem dX7_goOnBody_200 : decode cX7_goOnBody 200 = .ok (.bastore, 1) := by decide +kernel
theorem dX7_goOnBody_201 : decode cX7_goOnBody 201 = .ok (.iload_n 3, 1) := by decide +kernel
theorem dX7_goOnBody_202 : decode cX7_goOnBody 202 = .ok (.ifCond .lt 8, 3) := by decide +kernel
theorem dX7_goOnBody_205 : decode cX7_goOnBody 205 = .ok (.aload_n 0, 1) := by decide +kernel
theorem dX7_goOnBody_206 : decode cX7_goOnBody 206 = .ok (.iload_n 3, 1) := by decide +kernel
theorem dX7_goOnBody_207 : decode cX7_goOnBody 207 = .ok (.invokevirtual 222, 3) := by decide +kernel
theorem dX7_goOnBody_210 : decode cX7_goOnBody 210 = .ok (.return_, 1) := by decide +kernel
theorem dX7_goBehind_0 : decode cX7_goBehind 0 = .ok (.aload_n 0, 1) := by decide +kernel
theorem dX7_goBehind_1 : decode cX7_goBehind 1 = .ok (.iload_n 1, 1) := by decide +kernel
theorem dX7_goBehind_2 : decode cX7_goBehind 2 = .ok (.invokevirtual 256, 3) := by decide +kernel
theorem dX7_goBehind_5 : decode cX7_goBehind 5 = .ok (.istore_n 2, 1) := by decide +kernel
theorem dX7_goBehind_6 : decode cX7_goBehind 6 = .ok (.aload_n 0, 1) := by decide +kernel
theorem dX7_goBehind_7 : decode cX7_goBehind 7 = .ok (.iload_n 1, 1) := by decide +kernel
theorem dX7_goBehind_8 : decode cX7_goBehind 8 = .ok (.invokevirtual 259, 3) := by decide +kernel
theorem dX7_goBehind_11 : decode cX7_goBehind 11 = .ok (.istore_n 3, 1) := by decide +kernel
theorem dX7_goBehind_12 : decode cX7_goBehind 12 = .ok (.aload_n 0, 1) := by decide +kernel
theorem dX7_goBehind_13 : decode cX7_goBehind 13 = .ok (.iload_n 1, 1) := by decide +kernel
theorem dX7_goBehind_14 : decode cX7_goBehind 14 = .ok (.invokevirtual 262, 3) := by decide +kernel
theorem dX7_goBehind_17 : decode cX7_goBehind 17 = .ok (.istore 4, 2) := by decide +kernel
theorem dX7_goBehind_19 : decode cX7_goBehind 19 = .ok (.aload_n 0, 1) := by decide +kernel
theorem dX7_goBehind_20 : decode cX7_goBehind 20 = .ok (.iload_n 1, 1) := by decide +kernel
theorem dX7_goBehind_21 : decode cX7_goBehind 21 = .ok (.invokevirtual 253, 3) := by decide +kernel
theorem dX7_goBehind_24 : decode cX7_goBehind 24 = .ok (.tableswitch 203 0 7 #[48, 62, 118, 148, 203, 203, 203, 192], 48) := by decide +kernel
theorem dX7_goBehind_72 : decode cX7_goBehind 72 = .ok (.aload_n 0, 1) := by decide +kernel
theorem dX7_goBehind_73 : decode cX7_goBehind 73 = .ok (.iload_n 1, 1) := by decide +kernel
theorem dX7_goBehind_74 : decode cX7_goBehind 74 = .ok (.invokevirtual 265, 3) := by decide +kernel
theorem dX7_goBehind_77 : decode cX7_goBehind 77 = .ok (.aload_n 0, 1) := by decide +kernel
theorem dX7_goBehind_78 : decode cX7_goBehind 78 = .ok (.iload 4, 2) := by decide +kernel
theorem dX7_goBehind_80 : decode cX7_goBehind 80 = .ok (.invokevirtual 268, 3) := by decide +kernel
theorem dX7_goBehind_83 : decode cX7_goBehind 83 = .ok (.goto 149, 3) := by decide +kernel
theorem dX7_goBehind_86 : decode cX7_goBehind 86 = .ok (.aload_n 0, 1) := by decide +kernel
theorem dX7_goBehind_87 : decode cX7_goBehind 87 = .ok (.iload_n 2, 1) := by decide +kernel
theorem dX7_goBehind_88 : decode cX7_goBehind 88 = .ok (.iload_n 3, 1) := by decide +kernel
theorem dX7_goBehind_89 : decode cX7_goBehind 89 = .ok (.invokevirtual 161, 3) := by decide +kernel
theorem dX7_goBehind_92 : decode cX7_goBehind 92 = .ok (.istore 5, 2) := by decide +kernel
theorem dX7_goBehind_94 : decode cX7_goBehind 94 = .ok (.aload_n 0, 1) := by decide +kernel
theorem dX7_goBehind_95 : decode cX7_goBehind 95 = .ok (.iload_n 1, 1) := by decide +kernel
theorem dX7_goBehind_96 : decode cX7_goBehind 96 = .ok (.invokevirtual 265, 3) := by decide +kernel
theorem dX7_goBehind_99 : decode cX7_goBehind 99 = .ok (.aload_n 0, 1) := by decide +kernel
theorem dX7_goBehind_100 : decode cX7_goBehind 100 = .ok (.aload_n 0, 1) := by decide +kernel
theorem dX7_goBehind_101 : decode cX7_goBehind 101 = .ok (.getfield 32, 3) := by decide +kernel
theorem dX7_goBehind_104 : decode cX7_goBehind 104 = .ok (.iload 5, 2) := by decide +kernel
theorem dX7_goBehind_106 : decode cX7_goBehind 106 = .ok (.baload, 1) := by decide +kernel
theorem dX7_goBehind_107 : decode cX7_goBehind 107 = .ok (.ifCond .eq 13, 3) := by decide +kernel
theorem dX7_goBehind_110 : decode cX7_goBehind 110 = .ok (.aload_n 0, 1) := by decide +kernel
theorem dX7_goBehind_111 : decode cX7_goBehind 111 = .ok (.getfield 35, 3) := by decide +kernel
theorem dX7_goBehind_114 : decode cX7_goBehind 114 = .ok (.iload 5, 2) := by decide +kernel
theorem dX7_goBehind_116 : decode cX7_goBehind 116 = .ok (.iaload, 1) := by decide +kernel
theorem dX7_goBehind_117 : decode cX7_goBehind 117 = .ok (.goto 19, 3) := by decide +kernel
theorem dX7_goBehind_120 : decode cX7_goBehind 120 = .ok (.aload_n 0, 1) := by decide +kernel
theorem dX7_goBehind_121 : decode cX7_goBehind 121 = .ok (.getfield 86, 3) := by decide +kernel
theorem dX7_goBehind_124 : decode cX7_goBehind 124 = .ok (.sipush 240, 3) := by decide +kernel
theorem dX7_goBehind_127 : decode cX7_goBehind 127 = .ok (.aload_n 0, 1) := by decide +kernel
theorem dX7_goBehind_128 : decode cX7_goBehind 128 = .ok (.getfield 191, 3) := by decide +kernel
theorem dX7_goBehind_131 : decode cX7_goBehind 131 = .ok (.imul, 1) := by decide +kernel
theorem dX7_goBehind_132 : decode cX7_goBehind 132 = .ok (.iload 5, 2) := by decide +kernel
theorem dX7_goBehind_134 : decode cX7_goBehind 134 = .ok (.iadd, 1) := by decide +kernel
theorem dX7_goBehind_135 : decode cX7_goBehind 135 = .ok (.iaload, 1) := by decide +kernel
theorem dX7_goBehind_136 : decode cX7_goBehind 136 = .ok (.invokevirtual 268, 3) := by decide +kernel
theorem dX7_goBehind_139 : decode cX7_goBehind 139 = .ok (.goto 93, 3) := by decide +kernel
theorem dX7_goBehind_142 : decode cX7_goBehind 142 = .ok (.aload_n 0, 1) := by decide +kernel
theorem dX7_goBehind_143 : decode cX7_goBehind 143 = .ok (.getfield 86, 3) := by decide +kernel
theorem dX7_goBehind_146 : decode cX7_goBehind 146 = .ok (.sipush 240, 3) := by decide +kernel
theorem dX7_goBehind_149 : decode cX7_goBehind 149 = .ok (.aload_n 0, 1) := by decide +kernel
theorem dX7_goBehind_150 : decode cX7_goBehind 150 = .ok (.getfield 191, 3) := by decide +kernel
theorem dX7_goBehind_153 : decode cX7_goBehind 153 = .ok (.imul, 1) := by decide +kernel
theorem dX7_goBehind_154 : decode cX7_goBehind 154 = .ok (.aload_n 0, 1) := by decide +kernel
theorem dX7_goBehind_155 : decode cX7_goBehind 155 = .ok (.iload_n 2, 1) := by decide +kernel
theorem dX7_goBehind_156 : decode cX7_goBehind 156 = .ok (.iload_n 3, 1) := by decide +kernel
theorem dX7_goBehind_157 : decode cX7_goBehind 157 = .ok (.invokevirtual 161, 3) := by decide +kernel
theorem dX7_goBehind_160 : decode cX7_goBehind 160 = .ok (.iadd, 1) := by decide +kernel
theorem dX7_goBehind_161 : decode cX7_goBehind 161 = .ok (.iload 4, 2) := by decide +kernel
theorem dX7_goBehind_163 : decode cX7_goBehind 163 = .ok (.iastore, 1) := by decide +kernel
theorem dX7_goBehind_164 : decode cX7_goBehind 164 = .ok (.aload_n 0, 1) := by decide +kernel
theorem dX7_goBehind_165 : decode cX7_goBehind 165 = .ok (.iload_n 1, 1) := by decide +kernel
theorem dX7_goBehind_166 : decode cX7_goBehind 166 = .ok (.invokevirtual 265, 3) := by decide +kernel
theorem dX7_goBehind_169 : decode cX7_goBehind 169 = .ok (.goto 63, 3) := by decide +kernel
theorem dX7_goBehind_172 : decode cX7_goBehind 172 = .ok (.aload_n 0, 1) := by decide +kernel
theorem dX7_goBehind_173 : decode cX7_goBehind 173 = .ok (.getfield 125, 3) := by decide +kernel
theorem dX7_goBehind_176 : decode cX7_goBehind 176 = .ok (.iload_n 1, 1) := by decide +kernel
theorem dX7_goBehind_177 : decode cX7_goBehind 177 = .ok (.baload, 1) := by decide +kernel
theorem dX7_goBehind_178 : decode cX7_goBehind 178 = .ok (.ifCond .eq 18, 3) := by decide +kernel
theorem dX7_goBehind_181 : decode cX7_goBehind 181 = .ok (.aload_n 0, 1) := by decide +kernel
theorem dX7_goBehind_182 : decode cX7_goBehind 182 = .ok (.getfield 125, 3) := by decide +kernel
theorem dX7_goBehind_185 : decode cX7_goBehind 185 = .ok (.iload_n 1, 1) := by decide +kernel
theorem dX7_goBehind_186 : decode cX7_goBehind 186 = .ok (.iconst 0, 1) := by decide +kernel
theorem dX7_goBehind_187 : decode cX7_goBehind 187 = .ok (.bastore, 1) := by decide +kernel
theorem dX7_goBehind_188 : decode cX7_goBehind 188 = .ok (.aload_n 0, 1) := by decide +kernel
theorem dX7_goBehind_189 : decode cX7_goBehind 189 = .ok (.iload_n 1, 1) := by decide +kernel
theorem dX7_goBehind_190 : decode cX7_goBehind 190 = .ok (.invokevirtual 265, 3) := by decide +kernel
theorem dX7_goBehind_193 : decode cX7_goBehind 193 = .ok (.goto 39, 3) := by decide +kernel
theorem dX7_goBehind_196 : decode cX7_goBehind 196 = .ok (.aload_n 0, 1) := by decide +kernel
theorem dX7_goBehind_197 : decode cX7_goBehind 197 = .ok (.getfield 125, 3) := by decide +kernel
theorem dX7_goBehind_200 : decode cX7_goBehind 200 = .ok (.iload_n 1, 1) := by decide +kernel
theorem dX7_goBehind_201 : decode cX7_goBehind 201 = .ok (.iconst 1, 1) := by decide +kernel
theorem dX7_goBehind_202 : decode cX7_goBehind 202 = .ok (.bastore, 1) := by decide +kernel
theorem dX7_goBehind_203 : decode cX7_goBehind 203 = .ok (.aload_n 0, 1) := by decide +kernel
theorem dX7_goBehind_204 : decode cX7_goBehind 204 = .ok (.aload_n 0, 1) := by decide +kernel
theorem dX7_goBehind_205 : decode cX7_goBehind 205 = .ok (.iload_n 2, 1) := by decide +kernel
theorem dX7_goBehind_206 : decode cX7_goBehind 206 = .ok (.iload_n 3, 1) := by decide +kernel
theorem dX7_goBehind_207 : decode cX7_goBehind 207 = .ok (.invokevirtual 158, 3) := by decide +kernel
theorem dX7_goBehind_210 : decode cX7_goBehind 210 = .ok (.invokevirtual 228, 3) := by decide +kernel
theorem dX7_goBehind_213 : decode cX7_goBehind 213 = .ok (.goto 19, 3) := by decide +kernel
theorem dX7_goBehind_216 : decode cX7_goBehind 216 = .ok (.aload_n 0, 1) := by decide +kernel
theorem dX7_goBehind_217 : decode cX7_goBehind 217 = .ok (.iload 4, 2) := by decide +kernel
theorem dX7_goBehind_219 : decode cX7_goBehind 219 = .ok (.bipush (-6), 2) := by decide +kernel
theorem dX7_goBehind_221 : decode cX7_goBehind 221 = .ok (.invokevirtual 219, 3) := by decide +kernel
theorem dX7_goBehind_224 : decode cX7_goBehind 224 = .ok (.goto 8, 3) := by decide +kernel
theorem dX7_goBehind_227 : decode cX7_goBehind 227 = .ok (.aload_n 0, 1) := by decide +kernel
theorem dX7_goBehind_228 : decode cX7_goBehind 228 = .ok (.iload_n 1, 1) := by decide +kernel
theorem dX7_goBehind_229 : decode cX7_goBehind 229 = .ok (.invokevirtual 265, 3) := by decide +kernel
theorem dX7_goBehind_232 : decode cX7_goBehind 232 = .ok (.return_, 1) := by decide +kernel
theorem dX7_goDown_0 : decode cX7_goDown 0 = .ok (.aload_n 0, 1) := by decide +kernel
theorem dX7_goDown_1 : decode cX7_goDown 1 = .ok (.getfield 213, 3) := by decide +kernel
theorem dX7_goDown_4 : decode cX7_goDown 4 = .ok (.iconst 1, 1) := by decide +kernel
theorem dX7_goDown_5 : decode cX7_goDown 5 = .ok (.isub, 1) := by decide +kernel
theorem dX7_goDown_6 : decode cX7_goDown 6 = .ok (.istore_n 1, 1) := by decide +kernel
theorem dX7_goDown_7 : decode cX7_goDown 7 = .ok (.aload_n 0, 1) := by decide +kernel
theorem dX7_goDown_8 : decode cX7_goDown 8 = .ok (.getfield 125, 3) := by decide +kernel
theorem dX7_goDown_11 : decode cX7_goDown 11 = .ok (.iload_n 1, 1) := by decide +kernel
theorem dX7_goDown_12 : decode cX7_goDown 12 = .ok (.iconst 0, 1) := by decide +kernel
theorem dX7_goDown_13 : decode cX7_goDown 13 = .ok (.bastore, 1) := by decide +kernel
theorem dX7_goDown_14 : decode cX7_goDown 14 = .ok (.aload_n 0, 1) := by decide +kernel
theorem dX7_goDown_15 : decode cX7_goDown 15 = .ok (.getfield 110, 3) := by decide +kernel
theorem dX7_goDown_18 : decode cX7_goDown 18 = .ok (.iload_n 1, 1) := by decide +kernel
theorem dX7_goDown_19 : decode cX7_goDown 19 = .ok (.baload, 1) := by decide +kernel
theorem dX7_goDown_20 : decode cX7_goDown 20 = .ok (.ifCond .eq 88, 3) := by decide +kernel
theorem dX7_goDown_23 : decode cX7_goDown 23 = .ok (.aload_n 0, 1) := by decide +kernel
theorem dX7_goDown_24 : decode cX7_goDown 24 = .ok (.getfield 83, 3) := by decide +kernel
theorem dX7_goDown_27 : decode cX7_goDown 27 = .ok (.bipush 40, 2) := by decide +kernel
theorem dX7_goDown_29 : decode cX7_goDown 29 = .ok (.aload_n 0, 1) := by decide +kernel
theorem dX7_goDown_30 : decode cX7_goDown 30 = .ok (.getfield 191, 3) := by decide +kernel
theorem dX7_goDown_33 : decode cX7_goDown 33 = .ok (.imul, 1) := by decide +kernel
theorem dX7_goDown_34 : decode cX7_goDown 34 = .ok (.aload_n 0, 1) := by decide +kernel
theorem dX7_goDown_35 : decode cX7_goDown 35 = .ok (.getfield 113, 3) := by decide +kernel
theorem dX7_goDown_38 : decode cX7_goDown 38 = .ok (.iload_n 1, 1) := by decide +kernel
theorem dX7_goDown_39 : decode cX7_goDown 39 = .ok (.iaload, 1) := by decide +kernel
theorem dX7_goDown_40 : decode cX7_goDown 40 = .ok (.iadd, 1) := by decide +kernel
theorem dX7_goDown_41 : decode cX7_goDown 41 = .ok (.iconst 3, 1) := by decide +kernel
theorem dX7_goDown_42 : decode cX7_goDown 42 = .ok (.iastore, 1) := by decide +kernel
theorem dX7_goDown_43 : decode cX7_goDown 43 = .ok (.aload_n 0, 1) := by decide +kernel
theorem dX7_goDown_44 : decode cX7_goDown 44 = .ok (.aload_n 0, 1) := by decide +kernel
theorem dX7_goDown_45 : decode cX7_goDown 45 = .ok (.getfield 113, 3) := by decide +kernel
theorem dX7_goDown_48 : decode cX7_goDown 48 = .ok (.iload_n 1, 1) := by decide +kernel
theorem dX7_goDown_49 : decode cX7_goDown 49 = .ok (.iaload, 1) := by decide +kernel
theorem dX7_goDown_50 : decode cX7_goDown 50 = .ok (.invokevirtual 173, 3) := by decide +kernel
theorem dX7_goDown_53 : decode cX7_goDown 53 = .ok (.aload_n 0, 1) := by decide +kernel
theorem dX7_goDown_54 : decode cX7_goDown 54 = .ok (.getfield 116, 3) := by decide +kernel
theorem dX7_goDown_57 : decode cX7_goDown 57 = .ok (.iload_n 1, 1) := by decide +kernel
theorem dX7_goDown_58 : decode cX7_goDown 58 = .ok (.iaload, 1) := by decide +kernel
theorem dX7_goDown_59 : decode cX7_goDown 59 = .ok (.aload_n 0, 1) := by decide +kernel
theorem dX7_goDown_60 : decode cX7_goDown 60 = .ok (.getfield 164, 3) := by decide +kernel
theorem dX7_goDown_63 : decode cX7_goDown 63 = .ok (.iconst 1, 1) := by decide +kernel
theorem dX7_goDown_64 : decode cX7_goDown 64 = .ok (.iadd, 1) := by decide +kernel
theorem dX7_goDown_65 : decode cX7_goDown 65 = .ok (.if_icmp .ne 7, 3) := by decide +kernel
theorem dX7_goDown_68 : decode cX7_goDown 68 = .ok (.iconst 1, 1) := by decide +kernel
theorem dX7_goDown_69 : decode cX7_goDown 69 = .ok (.goto 4, 3) := by decide +kernel
theorem dX7_goDown_72 : decode cX7_goDown 72 = .ok (.iconst 0, 1) := by decide +kernel
theorem dX7_goDown_73 : decode cX7_goDown 73 = .ok (.istore_n 2, 1) := by decide +kernel
theorem dX7_goDown_74 : decode cX7_goDown 74 = .ok (.aload_n 0, 1) := by decide +kernel
theorem dX7_goDown_75 : decode cX7_goDown 75 = .ok (.dup, 1) := by decide +kernel
theorem dX7_goDown_76 : decode cX7_goDown 76 = .ok (.getfield 213, 3) := by decide +kernel
theorem dX7_goDown_79 : decode cX7_goDown 79 = .ok (.iconst 1, 1) := by decide +kernel
theorem dX7_goDown_80 : decode cX7_goDown 80 = .ok (.isub, 1) := by decide +kernel
theorem dX7_goDown_81 : decode cX7_goDown 81 = .ok (.putfield 213, 3) := by decide +kernel
theorem dX7_goDown_84 : decode cX7_goDown 84 = .ok (.iload_n 2, 1) := by decide +kernel
theorem dX7_goDown_85 : decode cX7_goDown 85 = .ok (.ifCond .eq 22, 3) := by decide +kernel
theorem dX7_goDown_88 : decode cX7_goDown 88 = .ok (.aload_n 0, 1) := by decide +kernel
theorem dX7_goDown_89 : decode cX7_goDown 89 = .ok (.getfield 204, 3) := by decide +kernel
theorem dX7_goDown_92 : decode cX7_goDown 92 = .ok (.bipush 20, 2) := by decide +kernel
theorem dX7_goDown_94 : decode cX7_goDown 94 = .ok (.if_icmp .ge 13, 3) := by decide +kernel
theorem dX7_goDown_97 : decode cX7_goDown 97 = .ok (.aload_n 0, 1) := by decide +kernel
theorem dX7_goDown_98 : decode cX7_goDown 98 = .ok (.bipush 20, 2) := by decide +kernel
theorem dX7_goDown_100 : decode cX7_goDown 100 = .ok (.aload_n 0, 1) := by decide +kernel
theorem dX7_goDown_101 : decode cX7_goDown 101 = .ok (.getfield 204, 3) := by decide +kernel
theorem dX7_goDown_104 : decode cX7_goDown 104 = .ok (.invokevirtual 219, 3) := by decide +kernel
theorem dX7_goDown_107 : decode cX7_goDown 107 = .ok (.return_, 1) := by decide +kernel
theorem dX7_goDown_108 : decode cX7_goDown 108 = .ok (.aload_n 0, 1) := by decide +kernel
theorem dX7_goDown_109 : decode cX7_goDown 109 = .ok (.getfield 113, 3) := by decide +kernel
theorem dX7_goDown_112 : decode cX7_goDown 112 = .ok (.iload_n 1, 1) := by decide +kernel
theorem dX7_goDown_113 : decode cX7_goDown 113 = .ok (.iaload, 1) := by decide +kernel
theorem dX7_goDown_114 : decode cX7_goDown 114 = .ok (.ifCond .lt 102, 3) := by decide +kernel
theorem dX7_goDown_117 : decode cX7_goDown 117 = .ok (.aload_n 0, 1) := by decide +kernel
theorem dX7_goDown_118 : decode cX7_goDown 118 = .ok (.getfield 116, 3) := by decide +kernel
theorem dX7_goDown_121 : decode cX7_goDown 121 = .ok (.iload_n 1, 1) := by decide +kernel
theorem dX7_goDown_122 : decode cX7_goDown 122 = .ok (.iaload, 1) := by decide +kernel
theorem dX7_goDown_123 : decode cX7_goDown 123 = .ok (.iconst 1, 1) := by decide +kernel
theorem dX7_goDown_124 : decode cX7_goDown 124 = .ok (.isub, 1) := by decide +kernel
theorem dX7_goDown_125 : decode cX7_goDown 125 = .ok (.istore_n 2, 1) := by decide +kernel
theorem dX7_goDown_126 : decode cX7_goDown 126 = .ok (.aload_n 0, 1) := by decide +kernel
theorem dX7_goDown_127 : decode cX7_goDown 127 = .ok (.getfield 119, 3) := by decide +kernel
theorem dX7_goDown_130 : decode cX7_goDown 130 = .ok (.iload_n 1, 1) := by decide +kernel
theorem dX7_goDown_131 : decode cX7_goDown 131 = .ok (.iaload, 1) := by decide +kernel
theorem dX7_goDown_132 : decode cX7_goDown 132 = .ok (.bipush (-6), 2) := by decide +kernel
theorem dX7_goDown_134 : decode cX7_goDown 134 = .ok (.if_icmp .eq 72, 3) := by decide +kernel
theorem dX7_goDown_137 : decode cX7_goDown 137 = .ok (.iload_n 2, 1) := by decide +kernel
theorem dX7_goDown_138 : decode cX7_goDown 138 = .ok (.aload_n 0, 1) := by decide +kernel
theorem dX7_goDown_139 : decode cX7_goDown 139 = .ok (.getfield 119, 3) := by decide +kernel
theorem dX7_goDown_142 : decode cX7_goDown 142 = .ok (.iload_n 1, 1) := by decide +kernel
theorem dX7_goDown_143 : decode cX7_goDown 143 = .ok (.iaload, 1) := by decide +kernel
theorem dX7_goDown_144 : decode cX7_goDown 144 = .ok (.if_icmp .lt 62, 3) := by decide +kernel
theorem dX7_goDown_147 : decode cX7_goDown 147 = .ok (.aload_n 0, 1) := by decide +kernel
theorem dX7_goDown_148 : decode cX7_goDown 148 = .ok (.getfield 56, 3) := by decide +kernel
theorem dX7_goDown_151 : decode cX7_goDown 151 = .ok (.bipush 12, 2) := by decide +kernel
theorem dX7_goDown_153 : decode cX7_goDown 153 = .ok (.aload_n 0, 1) := by decide +kernel
theorem dX7_goDown_154 : decode cX7_goDown 154 = .ok (.getfield 113, 3) := by decide +kernel
theorem dX7_goDown_157 : decode cX7_goDown 157 = .ok (.iload_n 1, 1) := by decide +kernel
theorem dX7_goDown_158 : decode cX7_goDown 158 = .ok (.iaload, 1) := by decide +kernel
theorem dX7_goDown_159 : decode cX7_goDown 159 = .ok (.imul, 1) := by decide +kernel
theorem dX7_goDown_160 : decode cX7_goDown 160 = .ok (.iload_n 2, 1) := by decide +kernel
theorem dX7_goDown_161 : decode cX7_goDown 161 = .ok (.iadd, 1) := by decide +kernel
theorem dX7_goDown_162 : decode cX7_goDown 162 = .ok (.iaload, 1) := by decide +kernel
theorem dX7_goDown_163 : decode cX7_goDown 163 = .ok (.istore_n 3, 1) := by decide +kernel
theorem dX7_goDown_164 : decode cX7_goDown 164 = .ok (.iload_n 3, 1) := by decide +kernel
theorem dX7_goDown_165 : decode cX7_goDown 165 = .ok (.iconst (-1), 1) := by decide +kernel
theorem dX7_goDown_166 : decode cX7_goDown 166 = .ok (.if_icmp .eq 11, 3) := by decide +kernel
theorem dX7_goDown_169 : decode cX7_goDown 169 = .ok (.iload_n 3, 1) := by decide +kernel
theorem dX7_goDown_170 : decode cX7_goDown 170 = .ok (.aload_n 0, 1) := by decide +kernel
theorem dX7_goDown_171 : decode cX7_goDown 171 = .ok (.getfield 204, 3) := by decide +kernel
theorem dX7_goDown_174 : decode cX7_goDown 174 = .ok (.if_icmp .ne 26, 3) := by decide +kernel
theorem dX7_goDown_177 : decode cX7_goDown 177 = .ok (.aload_n 0, 1) := by decide +kernel
theorem dX7_goDown_178 : decode cX7_goDown 178 = .ok (.iconst 0, 1) := by decide +kernel
theorem dX7_goDown_179 : decode cX7_goDown 179 = .ok (.putfield 201, 3) := by decide +kernel
theorem dX7_goDown_182 : decode cX7_goDown 182 = .ok (.aload_n 0, 1) := by decide +kernel
theorem dX7_goDown_183 : decode cX7_goDown 183 = .ok (.sipush 1000, 3) := by decide +kernel
theorem dX7_goDown_186 : decode cX7_goDown 186 = .ok (.aload_n 0, 1) := by decide +kernel
theorem dX7_goDown_187 : decode cX7_goDown 187 = .ok (.getfield 204, 3) := by decide +kernel
theorem dX7_goDown_190 : decode cX7_goDown 190 = .ok (.iadd, 1) := by decide +kernel
theorem dX7_goDown_191 : decode cX7_goDown 191 = .ok (.invokevirtual 268, 3) := by decide +kernel
theorem dX7_goDown_194 : decode cX7_goDown 194 = .ok (.aload_n 0, 1) := by decide +kernel
theorem dX7_goDown_195 : decode cX7_goDown 195 = .ok (.iload_n 1, 1) := by decide +kernel
theorem dX7_goDown_196 : decode cX7_goDown 196 = .ok (.invokevirtual 265, 3) := by decide +kernel
theorem dX7_goDown_199 : decode cX7_goDown 199 = .ok (.return_, 1) := by decide +kernel
theorem dX7_goDown_200 : decode cX7_goDown 200 = .ok (.iinc 2 (-1), 3) := by decide +kernel
theorem dX7_goDown_203 : decode cX7_goDown 203 = .ok (.goto (-77), 3) := by decide +kernel
theorem dX7_goDown_206 : decode cX7_goDown 206 = .ok (.aload_n 0, 1) := by decide +kernel
theorem dX7_goDown_207 : decode cX7_goDown 207 = .ok (.dup, 1) := by decide +kernel
theorem dX7_goDown_208 : decode cX7_goDown 208 = .ok (.getfield 210, 3) := by decide +kernel
theorem dX7_goDown_211 : decode cX7_goDown 211 = .ok (.iconst 1, 1) := by decide +kernel
theorem dX7_goDown_212 : decode cX7_goDown 212 = .ok (.isub, 1) := by decide +kernel
theorem dX7_goDown_213 : decode cX7_goDown 213 = .ok (.putfield 210, 3) := by decide +kernel
theorem dX7_goDown_216 : decode cX7_goDown 216 = .ok (.aload_n 0, 1) := by decide +kernel
theorem dX7_goDown_217 : decode cX7_goDown 217 = .ok (.dup, 1) := by decide +kernel
theorem dX7_goDown_218 : decode cX7_goDown 218 = .ok (.getfield 213, 3) := by decide +kernel
theorem dX7_goDown_221 : decode cX7_goDown 221 = .ok (.iconst 1, 1) := by decide +kernel
theorem dX7_goDown_222 : decode cX7_goDown 222 = .ok (.isub, 1) := by decide +kernel
theorem dX7_goDown_223 : decode cX7_goDown 223 = .ok (.putfield 213, 3) := by decide +kernel
theorem dX7_goDown_226 : decode cX7_goDown 226 = .ok (.return_, 1) := by decide +kernel
theorem dX7_go_0 : decode cX7_go 0 = .ok (.aload_n 0, 1) := by decide +kernel
theorem dX7_go_1 : decode cX7_go 1 = .ok (.iload_n 1, 1) := by decide +kernel
theorem dX7_go_2 : decode cX7_go 2 = .ok (.putfield 191, 3) := by decide +kernel
theorem dX7_go_5 : decode cX7_go 5 = .ok (.aload_n 0, 1) := by decide +kernel
theorem dX7_go_6 : decode cX7_go 6 = .ok (.iconst 0, 1) := by decide +kernel
theorem dX7_go_7 : decode cX7_go 7 = .ok (.putfield 213, 3) := by decide +kernel
theorem dX7_go_10 : decode cX7_go 10 = .ok (.aload_n 0, 1) := by decide +kernel
theorem dX7_go_11 : decode cX7_go 11 = .ok (.iconst 0, 1) := by decide +kernel
theorem dX7_go_12 : decode cX7_go 12 = .ok (.putfield 210, 3) := by decide +kernel
theorem dX7_go_15 : decode cX7_go 15 = .ok (.aload_n 0, 1) := by decide +kernel
theorem dX7_go_16 : decode cX7_go 16 = .ok (.iconst 0, 1) := by decide +kernel
theorem dX7_go_17 : decode cX7_go 17 = .ok (.putfield 250, 3) := by decide +kernel
theorem dX7_go_20 : decode cX7_go 20 = .ok (.aload_n 0, 1) := by decide +kernel
theorem dX7_go_21 : decode cX7_go 21 = .ok (.iconst 0, 1) := by decide +kernel
theorem dX7_go_22 : decode cX7_go 22 = .ok (.putfield 216, 3) := by decide +kernel
theorem dX7_go_25 : decode cX7_go 25 = .ok (.aload_n 0, 1) := by decide +kernel
theorem dX7_go_26 : decode cX7_go 26 = .ok (.iconst 0, 1) := by decide +kernel
theorem dX7_go_27 : decode cX7_go 27 = .ok (.putfield 194, 3) := by decide +kernel
theorem dX7_go_30 : decode cX7_go 30 = .ok (.aload_n 0, 1) := by decide +kernel
theorem dX7_go_31 : decode cX7_go 31 = .ok (.iconst 0, 1) := by decide +kernel
theorem dX7_go_32 : decode cX7_go 32 = .ok (.putfield 225, 3) := by decide +kernel
theorem dX7_go_35 : decode cX7_go 35 = .ok (.aload_n 0, 1) := by decide +kernel
theorem dX7_go_36 : decode cX7_go 36 = .ok (.iconst 0, 1) := by decide +kernel
theorem dX7_go_37 : decode cX7_go 37 = .ok (.putfield 197, 3) := by decide +kernel
theorem dX7_go_40 : decode cX7_go 40 = .ok (.aload_n 0, 1) := by decide +kernel
theorem dX7_go_41 : decode cX7_go 41 = .ok (.iconst 0, 1) := by decide +kernel
theorem dX7_go_42 : decode cX7_go 42 = .ok (.putfield 201, 3) := by decide +kernel
theorem dX7_go_45 : decode cX7_go 45 = .ok (.aload_n 0, 1) := by decide +kernel
theorem dX7_go_46 : decode cX7_go 46 = .ok (.iload_n 2, 1) := by decide +kernel
theorem dX7_go_47 : decode cX7_go 47 = .ok (.putfield 231, 3) := by decide +kernel
theorem dX7_go_50 : decode cX7_go 50 = .ok (.aload_n 0, 1) := by decide +kernel
theorem dX7_go_51 : decode cX7_go 51 = .ok (.iload_n 3, 1) := by decide +kernel
theorem dX7_go_52 : decode cX7_go 52 = .ok (.putfield 234, 3) := by decide +kernel
theorem dX7_go_55 : decode cX7_go 55 = .ok (.aload_n 0, 1) := by decide +kernel
theorem dX7_go_56 : decode cX7_go 56 = .ok (.iload 4, 2) := by decide +kernel
theorem dX7_go_58 : decode cX7_go 58 = .ok (.putfield 237, 3) := by decide +kernel
theorem dX7_go_61 : decode cX7_go 61 = .ok (.aload_n 0, 1) := by decide +kernel
theorem dX7_go_62 : decode cX7_go 62 = .ok (.iload 5, 2) := by decide +kernel
theorem dX7_go_64 : decode cX7_go 64 = .ok (.putfield 240, 3) := by decide +kernel
theorem dX7_go_67 : decode cX7_go 67 = .ok (.aload_n 0, 1) := by decide +kernel
theorem dX7_go_68 : decode cX7_go 68 = .ok (.getfield 110, 3) := by decide +kernel
theorem dX7_go_71 : decode cX7_go 71 = .ok (.iconst 0, 1) := by decide +kernel
theorem dX7_go_72 : decode cX7_go 72 = .ok (.iconst 0, 1) := by decide +kernel
theorem dX7_go_73 : decode cX7_go 73 = .ok (.bastore, 1) := by decide +kernel
theorem dX7_go_74 : decode cX7_go 74 = .ok (.aload_n 0, 1) := by decide +kernel
theorem dX7_go_75 : decode cX7_go 75 = .ok (.getfield 113, 3) := by decide +kernel
theorem dX7_go_78 : decode cX7_go 78 = .ok (.iconst 0, 1) := by decide +kernel
theorem dX7_go_79 : decode cX7_go 79 = .ok (.iconst (-1), 1) := by decide +kernel
theorem dX7_go_80 : decode cX7_go 80 = .ok (.iastore, 1) := by decide +kernel
theorem dX7_go_81 : decode cX7_go 81 = .ok (.aload_n 0, 1) := by decide +kernel
theorem dX7_go_82 : decode cX7_go 82 = .ok (.getfield 116, 3) := by decide +kernel
theorem dX7_go_85 : decode cX7_go 85 = .ok (.iconst 0, 1) := by decide +kernel
theorem dX7_go_86 : decode cX7_go 86 = .ok (.iconst 0, 1) := by decide +kernel
theorem dX7_go_87 : decode cX7_go 87 = .ok (.iastore, 1) := by decide +kernel
theorem dX7_go_88 : decode cX7_go 88 = .ok (.aload_n 0, 1) := by decide +kernel
theorem dX7_go_89 : decode cX7_go 89 = .ok (.getfield 119, 3) := by decide +kernel
theorem dX7_go_92 : decode cX7_go 92 = .ok (.iconst 0, 1) := by decide +kernel
theorem dX7_go_93 : decode cX7_go 93 = .ok (.bipush (-6), 2) := by decide +kernel
theorem dX7_go_95 : decode cX7_go 95 = .ok (.iastore, 1) := by decide +kernel
theorem dX7_go_96 : decode cX7_go 96 = .ok (.aload_n 0, 1) := by decide +kernel
theorem dX7_go_97 : decode cX7_go 97 = .ok (.getfield 122, 3) := by decide +kernel
theorem dX7_go_100 : decode cX7_go 100 = .ok (.iconst 0, 1) := by decide +kernel
theorem dX7_go_101 : decode cX7_go 101 = .ok (.iconst 0, 1) := by decide +kernel
theorem dX7_go_102 : decode cX7_go 102 = .ok (.bastore, 1) := by decide +kernel
theorem dX7_go_103 : decode cX7_go 103 = .ok (.aload_n 0, 1) := by decide +kernel
theorem dX7_go_104 : decode cX7_go 104 = .ok (.getfield 125, 3) := by decide +kernel
theorem dX7_go_107 : decode cX7_go 107 = .ok (.iconst 0, 1) := by decide +kernel
theorem dX7_go_108 : decode cX7_go 108 = .ok (.iconst 0, 1) := by decide +kernel
theorem dX7_go_109 : decode cX7_go 109 = .ok (.bastore, 1) := by decide +kernel
theorem dX7_go_110 : decode cX7_go 110 = .ok (.aload_n 0, 1) := by decide +kernel
theorem dX7_go_111 : decode cX7_go 111 = .ok (.iconst 1, 1) := by decide +kernel
theorem dX7_go_112 : decode cX7_go 112 = .ok (.putfield 213, 3) := by decide +kernel
theorem dX7_go_115 : decode cX7_go 115 = .ok (.aload_n 0, 1) := by decide +kernel
theorem dX7_go_116 : decode cX7_go 116 = .ok (.getfield 213, 3) := by decide +kernel
theorem dX7_go_119 : decode cX7_go 119 = .ok (.ifCond .le 52, 3) := by decide +kernel
theorem dX7_go_122 : decode cX7_go 122 = .ok (.aload_n 0, 1) := by decide +kernel
theorem dX7_go_123 : decode cX7_go 123 = .ok (.getfield 197, 3) := by decide +kernel
theorem dX7_go_126 : decode cX7_go 126 = .ok (.ifCond .ne 45, 3) := by decide +kernel
theorem dX7_go_129 : decode cX7_go 129 = .ok (.aload_n 0, 1) := by decide +kernel
theorem dX7_go_130 : decode cX7_go 130 = .ok (.getfield 201, 3) := by decide +kernel
theorem dX7_go_133 : decode cX7_go 133 = .ok (.ifCond .eq 10, 3) := by decide +kernel
theorem dX7_go_136 : decode cX7_go 136 = .ok (.aload_n 0, 1) := by decide +kernel
theorem dX7_go_137 : decode cX7_go 137 = .ok (.invokevirtual 271, 3) := by decide +kernel
theorem dX7_go_140 : decode cX7_go 140 = .ok (.goto (-25), 3) := by decide +kernel
theorem dX7_go_143 : decode cX7_go 143 = .ok (.aload_n 0, 1) := by decide +kernel
theorem dX7_go_144 : decode cX7_go 144 = .ok (.getfield 110, 3) := by decide +kernel
theorem dX7_go_147 : decode cX7_go 147 = .ok (.aload_n 0, 1) := by decide +kernel
theorem dX7_go_148 : decode cX7_go 148 = .ok (.getfield 213, 3) := by decide +kernel
theorem dX7_go_151 : decode cX7_go 151 = .ok (.iconst 1, 1) := by decide +kernel
theorem dX7_go_152 : decode cX7_go 152 = .ok (.isub, 1) := by decide +kernel
theorem dX7_go_153 : decode cX7_go 153 = .ok (.baload, 1) := by decide +kernel
theorem dX7_go_154 : decode cX7_go 154 = .ok (.ifCond .eq 10, 3) := by decide +kernel
theorem dX7_go_157 : decode cX7_go 157 = .ok (.aload_n 0, 1) := by decide +kernel
theorem dX7_go_158 : decode cX7_go 158 = .ok (.invokevirtual 274, 3) := by decide +kernel
theorem dX7_go_161 : decode cX7_go 161 = .ok (.goto (-46), 3) := by decide +kernel
theorem dX7_go_164 : decode cX7_go 164 = .ok (.aload_n 0, 1) := by decide +kernel
theorem dX7_go_165 : decode cX7_go 165 = .ok (.invokevirtual 277, 3) := by decide +kernel
theorem dX7_go_168 : decode cX7_go 168 = .ok (.goto (-53), 3) := by decide +kernel
theorem dX7_go_171 : decode cX7_go 171 = .ok (.return_, 1) := by decide +kernel
theorem dX7_cameTo_0 : decode cX7_cameTo 0 = .ok (.aload_n 0, 1) := by decide +kernel
theorem dX7_cameTo_1 : decode cX7_cameTo 1 = .ok (.getfield 197, 3) := by decide +kernel
theorem dX7_cameTo_4 : decode cX7_cameTo 4 = .ok (.ifCond .eq 7, 3) := by decide +kernel
theorem dX7_cameTo_7 : decode cX7_cameTo 7 = .ok (.iconst 5, 1) := by decide +kernel
theorem dX7_cameTo_8 : decode cX7_cameTo 8 = .ok (.goto 54, 3) := by decide +kernel
theorem dX7_cameTo_11 : decode cX7_cameTo 11 = .ok (.aload_n 0, 1) := by decide +kernel
theorem dX7_cameTo_12 : decode cX7_cameTo 12 = .ok (.getfield 201, 3) := by decide +kernel
theorem dX7_cameTo_15 : decode cX7_cameTo 15 = .ok (.ifCond .ne 7, 3) := by decide +kernel
theorem dX7_cameTo_18 : decode cX7_cameTo 18 = .ok (.iconst 0, 1) := by decide +kernel
theorem dX7_cameTo_19 : decode cX7_cameTo 19 = .ok (.goto 43, 3) := by decide +kernel
theorem dX7_cameTo_22 : decode cX7_cameTo 22 = .ok (.aload_n 0, 1) := by decide +kernel
theorem dX7_cameTo_23 : decode cX7_cameTo 23 = .ok (.getfield 204, 3) := by decide +kernel
theorem dX7_cameTo_26 : decode cX7_cameTo 26 = .ok (.bipush 20, 2) := by decide +kernel
theorem dX7_cameTo_28 : decode cX7_cameTo 28 = .ok (.if_icmp .ne 7, 3) := by decide +kernel
theorem dX7_cameTo_31 : decode cX7_cameTo 31 = .ok (.iconst 1, 1) := by decide +kernel
theorem dX7_cameTo_32 : decode cX7_cameTo 32 = .ok (.goto 30, 3) := by decide +kernel
theorem dX7_cameTo_35 : decode cX7_cameTo 35 = .ok (.aload_n 0, 1) := by decide +kernel
theorem dX7_cameTo_36 : decode cX7_cameTo 36 = .ok (.getfield 204, 3) := by decide +kernel
theorem dX7_cameTo_39 : decode cX7_cameTo 39 = .ok (.bipush 21, 2) := by decide +kernel
theorem dX7_cameTo_41 : decode cX7_cameTo 41 = .ok (.if_icmp .ne 7, 3) := by decide +kernel
theorem dX7_cameTo_44 : decode cX7_cameTo 44 = .ok (.iconst 2, 1) := by decide +kernel
theorem dX7_cameTo_45 : decode cX7_cameTo 45 = .ok (.goto 17, 3) := by decide +kernel
theorem dX7_cameTo_48 : decode cX7_cameTo 48 = .ok (.aload_n 0, 1) := by decide +kernel
theorem dX7_cameTo_49 : decode cX7_cameTo 49 = .ok (.getfield 204, 3) := by decide +kernel
theorem dX7_cameTo_52 : decode cX7_cameTo 52 = .ok (.bipush 22, 2) := by decide +kernel
theorem dX7_cameTo_54 : decode cX7_cameTo 54 = .ok (.if_icmp .ne 7, 3) := by decide +kernel
theorem dX7_cameTo_57 : decode cX7_cameTo 57 = .ok (.iconst 3, 1) := by decide +kernel
theorem dX7_cameTo_58 : decode cX7_cameTo 58 = .ok (.goto 4, 3) := by decide +kernel
theorem dX7_cameTo_61 : decode cX7_cameTo 61 = .ok (.iconst 4, 1) := by decide +kernel
theorem dX7_cameTo_62 : decode cX7_cameTo 62 = .ok (.ireturn, 1) := by decide +kernel
theorem dX7_refusal_0 : decode cX7_refusal 0 = .ok (.aload_n 0, 1) := by decide +kernel
theorem dX7_refusal_1 : decode cX7_refusal 1 = .ok (.iload_n 1, 1) := by decide +kernel
theorem dX7_refusal_2 : decode cX7_refusal 2 = .ok (.invokevirtual 280, 3) := by decide +kernel
theorem dX7_refusal_5 : decode cX7_refusal 5 = .ok (.ifCond .eq 11, 3) := by decide +kernel
theorem dX7_refusal_8 : decode cX7_refusal 8 = .ok (.aload_n 0, 1) := by decide +kernel
theorem dX7_refusal_9 : decode cX7_refusal 9 = .ok (.iload_n 3, 1) := by decide +kernel
theorem dX7_refusal_10 : decode cX7_refusal 10 = .ok (.invokevirtual 136, 3) := by decide +kernel
theorem dX7_refusal_13 : decode cX7_refusal 13 = .ok (.ifCond .ne 5, 3) := by decide +kernel
theorem dX7_refusal_16 : decode cX7_refusal 16 = .ok (.iconst (-1), 1) := by decide +kernel
theorem dX7_refusal_17 : decode cX7_refusal 17 = .ok (.ireturn, 1) := by decide +kernel
theorem dX7_refusal_18 : decode cX7_refusal 18 = .ok (.iload_n 2, 1) := by decide +kernel
theorem dX7_refusal_19 : decode cX7_refusal 19 = .ok (.iconst 1, 1) := by decide +kernel
theorem dX7_refusal_20 : decode cX7_refusal 20 = .ok (.bipush 6, 2) := by decide +kernel
theorem dX7_refusal_22 : decode cX7_refusal 22 = .ok (.invokestatic 132, 3) := by decide +kernel
theorem dX7_refusal_25 : decode cX7_refusal 25 = .ok (.ifCond .eq 23, 3) := by decide +kernel
theorem dX7_refusal_28 : decode cX7_refusal 28 = .ok (.iload_n 2, 1) := by decide +kernel
theorem dX7_refusal_29 : decode cX7_refusal 29 = .ok (.iconst 3, 1) := by decide +kernel
theorem dX7_refusal_30 : decode cX7_refusal 30 = .ok (.if_icmp .gt 14, 3) := by decide +kernel
theorem dX7_refusal_33 : decode cX7_refusal 33 = .ok (.iload 4, 2) := by decide +kernel
theorem dX7_refusal_35 : decode cX7_refusal 35 = .ok (.iconst 0, 1) := by decide +kernel
theorem dX7_refusal_36 : decode cX7_refusal 36 = .ok (.bipush 9, 2) := by decide +kernel
theorem dX7_refusal_38 : decode cX7_refusal 38 = .ok (.invokestatic 132, 3) := by decide +kernel
theorem dX7_refusal_41 : decode cX7_refusal 41 = .ok (.ifCond .eq 7, 3) := by decide +kernel
theorem dX7_refusal_44 : decode cX7_refusal 44 = .ok (.iconst 0, 1) := by decide +kernel
theorem dX7_refusal_45 : decode cX7_refusal 45 = .ok (.goto 5, 3) := by decide +kernel
theorem dX7_refusal_48 : decode cX7_refusal 48 = .ok (.bipush (-2), 2) := by decide +kernel
theorem dX7_refusal_50 : decode cX7_refusal 50 = .ok (.ireturn, 1) := by decide +kernel
theorem dX7_touch_0 : decode cX7_touch 0 = .ok (.aload_n 0, 1) := by decide +kernel
theorem dX7_touch_1 : decode cX7_touch 1 = .ok (.iload_n 1, 1) := by decide +kernel
theorem dX7_touch_2 : decode cX7_touch 2 = .ok (.iload_n 2, 1) := by decide +kernel
theorem dX7_touch_3 : decode cX7_touch 3 = .ok (.iload_n 3, 1) := by decide +kernel
theorem dX7_touch_4 : decode cX7_touch 4 = .ok (.iload 4, 2) := by decide +kernel
theorem dX7_touch_6 : decode cX7_touch 6 = .ok (.invokevirtual 283, 3) := by decide +kernel
theorem dX7_touch_9 : decode cX7_touch 9 = .ok (.istore 6, 2) := by decide +kernel
theorem dX7_touch_11 : decode cX7_touch 11 = .ok (.iload 6, 2) := by decide +kernel
theorem dX7_touch_13 : decode cX7_touch 13 = .ok (.ifCond .ge 6, 3) := by decide +kernel
theorem dX7_touch_16 : decode cX7_touch 16 = .ok (.iload 6, 2) := by decide +kernel
theorem dX7_touch_18 : decode cX7_touch 18 = .ok (.ireturn, 1) := by decide +kernel
theorem dX7_touch_19 : decode cX7_touch 19 = .ok (.aload_n 0, 1) := by decide +kernel
theorem dX7_touch_20 : decode cX7_touch 20 = .ok (.iload_n 1, 1) := by decide +kernel
theorem dX7_touch_21 : decode cX7_touch 21 = .ok (.bipush 12, 2) := by decide +kernel
theorem dX7_touch_23 : decode cX7_touch 23 = .ok (.invokevirtual 287, 3) := by decide +kernel
theorem dX7_touch_26 : decode cX7_touch 26 = .ok (.aload_n 0, 1) := by decide +kernel
theorem dX7_touch_27 : decode cX7_touch 27 = .ok (.iload_n 1, 1) := by decide +kernel
theorem dX7_touch_28 : decode cX7_touch 28 = .ok (.iload_n 2, 1) := by decide +kernel
theorem dX7_touch_29 : decode cX7_touch 29 = .ok (.iload_n 3, 1) := by decide +kernel
theorem dX7_touch_30 : decode cX7_touch 30 = .ok (.iload 4, 2) := by decide +kernel
theorem dX7_touch_32 : decode cX7_touch 32 = .ok (.iload 5, 2) := by decide +kernel
theorem dX7_touch_34 : decode cX7_touch 34 = .ok (.invokevirtual 290, 3) := by decide +kernel
theorem dX7_touch_37 : decode cX7_touch 37 = .ok (.aload_n 0, 1) := by decide +kernel
theorem dX7_touch_38 : decode cX7_touch 38 = .ok (.invokevirtual 294, 3) := by decide +kernel
theorem dX7_touch_41 : decode cX7_touch 41 = .ok (.istore 7, 2) := by decide +kernel
theorem dX7_touch_43 : decode cX7_touch 43 = .ok (.iload 7, 2) := by decide +kernel
theorem dX7_touch_45 : decode cX7_touch 45 = .ok (.iconst 5, 1) := by decide +kernel
theorem dX7_touch_46 : decode cX7_touch 46 = .ok (.if_icmp .ne 10, 3) := by decide +kernel
theorem dX7_touch_49 : decode cX7_touch 49 = .ok (.aload_n 0, 1) := by decide +kernel
theorem dX7_touch_50 : decode cX7_touch 50 = .ok (.bipush 12, 2) := by decide +kernel
theorem dX7_touch_52 : decode cX7_touch 52 = .ok (.iload_n 1, 1) := by decide +kernel
theorem dX7_touch_53 : decode cX7_touch 53 = .ok (.invokevirtual 287, 3) := by decide +kernel
theorem dX7_touch_56 : decode cX7_touch 56 = .ok (.aload_n 0, 1) := by decide +kernel
theorem dX7_touch_57 : decode cX7_touch 57 = .ok (.getfield 101, 3) := by decide +kernel
theorem dX7_touch_60 : decode cX7_touch 60 = .ok (.iload_n 1, 1) := by decide +kernel
theorem dX7_touch_61 : decode cX7_touch 61 = .ok (.iload 7, 2) := by decide +kernel
theorem dX7_touch_63 : decode cX7_touch 63 = .ok (.ifCond .eq 9, 3) := by decide +kernel
theorem dX7_touch_66 : decode cX7_touch 66 = .ok (.iload 7, 2) := by decide +kernel
theorem dX7_touch_68 : decode cX7_touch 68 = .ok (.iconst 5, 1) := by decide +kernel
theorem dX7_touch_69 : decode cX7_touch 69 = .ok (.if_icmp .ne 8, 3) := by decide +kernel
theorem dX7_touch_72 : decode cX7_touch 72 = .ok (.bipush (-6), 2) := by decide +kernel
theorem dX7_touch_74 : decode cX7_touch 74 = .ok (.goto 7, 3) := by decide +kernel
theorem dX7_touch_77 : decode cX7_touch 77 = .ok (.aload_n 0, 1) := by decide +kernel
theorem dX7_touch_78 : decode cX7_touch 78 = .ok (.getfield 204, 3) := by decide +kernel
theorem dX7_touch_81 : decode cX7_touch 81 = .ok (.iastore, 1) := by decide +kernel
theorem dX7_touch_82 : decode cX7_touch 82 = .ok (.aload_n 0, 1) := by decide +kernel
theorem dX7_touch_83 : decode cX7_touch 83 = .ok (.getfield 104, 3) := by decide +kernel
theorem dX7_touch_86 : decode cX7_touch 86 = .ok (.iload_n 1, 1) := by decide +kernel
theorem dX7_touch_87 : decode cX7_touch 87 = .ok (.iload 7, 2) := by decide +kernel
theorem dX7_touch_89 : decode cX7_touch 89 = .ok (.iconst 1, 1) := by decide +kernel
theorem dX7_touch_90 : decode cX7_touch 90 = .ok (.if_icmp .eq 9, 3) := by decide +kernel
theorem dX7_touch_93 : decode cX7_touch 93 = .ok (.iload 7, 2) := by decide +kernel
theorem dX7_touch_95 : decode cX7_touch 95 = .ok (.iconst 2, 1) := by decide +kernel
theorem dX7_touch_96 : decode cX7_touch 96 = .ok (.if_icmp .ne 10, 3) := by decide +kernel
theorem dX7_touch_99 : decode cX7_touch 99 = .ok (.aload_n 0, 1) := by decide +kernel
theorem dX7_touch_100 : decode cX7_touch 100 = .ok (.getfield 207, 3) := by decide +kernel
theorem dX7_touch_103 : decode cX7_touch 103 = .ok (.goto 5, 3) := by decide +kernel
theorem dX7_touch_106 : decode cX7_touch 106 = .ok (.bipush (-6), 2) := by decide +kernel
theorem dX7_touch_108 : decode cX7_touch 108 = .ok (.iastore, 1) := by decide +kernel
theorem dX7_touch_109 : decode cX7_touch 109 = .ok (.aload_n 0, 1) := by decide +kernel
theorem dX7_touch_110 : decode cX7_touch 110 = .ok (.getfield 107, 3) := by decide +kernel
theorem dX7_touch_113 : decode cX7_touch 113 = .ok (.iconst 4, 1) := by decide +kernel
theorem dX7_touch_114 : decode cX7_touch 114 = .ok (.iload_n 1, 1) := by decide +kernel
theorem dX7_touch_115 : decode cX7_touch 115 = .ok (.imul, 1) := by decide +kernel
theorem dX7_touch_116 : decode cX7_touch 116 = .ok (.aload_n 0, 1) := by decide +kernel
theorem dX7_touch_117 : decode cX7_touch 117 = .ok (.getfield 250, 3) := by decide +kernel
theorem dX7_touch_120 : decode cX7_touch 120 = .ok (.iastore, 1) := by decide +kernel
theorem dX7_touch_121 : decode cX7_touch 121 = .ok (.aload_n 0, 1) := by decide +kernel
theorem dX7_touch_122 : decode cX7_touch 122 = .ok (.getfield 107, 3) := by decide +kernel
theorem dX7_touch_125 : decode cX7_touch 125 = .ok (.iconst 4, 1) := by decide +kernel
theorem dX7_touch_126 : decode cX7_touch 126 = .ok (.iload_n 1, 1) := by decide +kernel
theorem dX7_touch_127 : decode cX7_touch 127 = .ok (.imul, 1) := by decide +kernel
theorem dX7_touch_128 : decode cX7_touch 128 = .ok (.iconst 1, 1) := by decide +kernel
theorem dX7_touch_129 : decode cX7_touch 129 = .ok (.iadd, 1) := by decide +kernel
theorem dX7_touch_130 : decode cX7_touch 130 = .ok (.aload_n 0, 1) := by decide +kernel
theorem dX7_touch_131 : decode cX7_touch 131 = .ok (.getfield 216, 3) := by decide +kernel
theorem dX7_touch_134 : decode cX7_touch 134 = .ok (.iastore, 1) := by decide +kernel
theorem dX7_touch_135 : decode cX7_touch 135 = .ok (.aload_n 0, 1) := by decide +kernel
theorem dX7_touch_136 : decode cX7_touch 136 = .ok (.getfield 107, 3) := by decide +kernel
theorem dX7_touch_139 : decode cX7_touch 139 = .ok (.iconst 4, 1) := by decide +kernel
theorem dX7_touch_140 : decode cX7_touch 140 = .ok (.iload_n 1, 1) := by decide +kernel
theorem dX7_touch_141 : decode cX7_touch 141 = .ok (.imul, 1) := by decide +kernel
theorem dX7_touch_142 : decode cX7_touch 142 = .ok (.iconst 2, 1) := by decide +kernel
theorem dX7_touch_143 : decode cX7_touch 143 = .ok (.iadd, 1) := by decide +kernel
theorem dX7_touch_144 : decode cX7_touch 144 = .ok (.aload_n 0, 1) := by decide +kernel
theorem dX7_touch_145 : decode cX7_touch 145 = .ok (.getfield 194, 3) := by decide +kernel
theorem dX7_touch_148 : decode cX7_touch 148 = .ok (.iastore, 1) := by decide +kernel
theorem dX7_touch_149 : decode cX7_touch 149 = .ok (.aload_n 0, 1) := by decide +kernel
theorem dX7_touch_150 : decode cX7_touch 150 = .ok (.getfield 107, 3) := by decide +kernel
theorem dX7_touch_153 : decode cX7_touch 153 = .ok (.iconst 4, 1) := by decide +kernel
theorem dX7_touch_154 : decode cX7_touch 154 = .ok (.iload_n 1, 1) := by decide +kernel
theorem dX7_touch_155 : decode cX7_touch 155 = .ok (.imul, 1) := by decide +kernel
theorem dX7_touch_156 : decode cX7_touch 156 = .ok (.iconst 3, 1) := by decide +kernel
theorem dX7_touch_157 : decode cX7_touch 157 = .ok (.iadd, 1) := by decide +kernel
theorem dX7_touch_158 : decode cX7_touch 158 = .ok (.aload_n 0, 1) := by decide +kernel
theorem dX7_touch_159 : decode cX7_touch 159 = .ok (.getfield 225, 3) := by decide +kernel
theorem dX7_touch_162 : decode cX7_touch 162 = .ok (.iastore, 1) := by decide +kernel
theorem dX7_touch_163 : decode cX7_touch 163 = .ok (.iload 7, 2) := by decide +kernel
theorem dX7_touch_165 : decode cX7_touch 165 = .ok (.ireturn, 1) := by decide +kernel
theorem dX7_foretell_0 : decode cX7_foretell 0 = .ok (.aload_n 0, 1) := by decide +kernel
theorem dX7_foretell_1 : decode cX7_foretell 1 = .ok (.iload_n 1, 1) := by decide +kernel
theorem dX7_foretell_2 : decode cX7_foretell 2 = .ok (.iload_n 2, 1) := by decide +kernel
theorem dX7_foretell_3 : decode cX7_foretell 3 = .ok (.iload_n 3, 1) := by decide +kernel
theorem dX7_foretell_4 : decode cX7_foretell 4 = .ok (.iload 4, 2) := by decide +kernel
theorem dX7_foretell_6 : decode cX7_foretell 6 = .ok (.invokevirtual 283, 3) := by decide +kernel
theorem dX7_foretell_9 : decode cX7_foretell 9 = .ok (.istore 6, 2) := by decide +kernel
theorem dX7_foretell_11 : decode cX7_foretell 11 = .ok (.iload 6, 2) := by decide +kernel
theorem dX7_foretell_13 : decode cX7_foretell 13 = .ok (.ifCond .ge 6, 3) := by decide +kernel
theorem dX7_foretell_16 : decode cX7_foretell 16 = .ok (.iload 6, 2) := by decide +kernel
theorem dX7_foretell_18 : decode cX7_foretell 18 = .ok (.ireturn, 1) := by decide +kernel
theorem dX7_foretell_19 : decode cX7_foretell 19 = .ok (.aload_n 0, 1) := by decide +kernel
theorem dX7_foretell_20 : decode cX7_foretell 20 = .ok (.iload_n 1, 1) := by decide +kernel
theorem dX7_foretell_21 : decode cX7_foretell 21 = .ok (.bipush 12, 2) := by decide +kernel
theorem dX7_foretell_23 : decode cX7_foretell 23 = .ok (.invokevirtual 287, 3) := by decide +kernel
theorem dX7_foretell_26 : decode cX7_foretell 26 = .ok (.aload_n 0, 1) := by decide +kernel
theorem dX7_foretell_27 : decode cX7_foretell 27 = .ok (.iload_n 1, 1) := by decide +kernel
theorem dX7_foretell_28 : decode cX7_foretell 28 = .ok (.iload_n 2, 1) := by decide +kernel
theorem dX7_foretell_29 : decode cX7_foretell 29 = .ok (.iload_n 3, 1) := by decide +kernel
theorem dX7_foretell_30 : decode cX7_foretell 30 = .ok (.iload 4, 2) := by decide +kernel
theorem dX7_foretell_32 : decode cX7_foretell 32 = .ok (.iload 5, 2) := by decide +kernel
theorem dX7_foretell_34 : decode cX7_foretell 34 = .ok (.invokevirtual 290, 3) := by decide +kernel
theorem dX7_foretell_37 : decode cX7_foretell 37 = .ok (.aload_n 0, 1) := by decide +kernel
theorem dX7_foretell_38 : decode cX7_foretell 38 = .ok (.bipush 12, 2) := by decide +kernel
theorem dX7_foretell_40 : decode cX7_foretell 40 = .ok (.iload_n 1, 1) := by decide +kernel
theorem dX7_foretell_41 : decode cX7_foretell 41 = .ok (.invokevirtual 287, 3) := by decide +kernel
theorem dX7_foretell_44 : decode cX7_foretell 44 = .ok (.aload_n 0, 1) := by decide +kernel
theorem dX7_foretell_45 : decode cX7_foretell 45 = .ok (.invokevirtual 294, 3) := by decide +kernel
theorem dX7_foretell_48 : decode cX7_foretell 48 = .ok (.ireturn, 1) := by decide +kernel
theorem dX7_state_0 : decode cX7_state 0 = .ok (.aload_n 0, 1) := by decide +kernel
theorem dX7_state_1 : decode cX7_state 1 = .ok (.iload_n 1, 1) := by decide +kernel
theorem dX7_state_2 : decode cX7_state 2 = .ok (.invokevirtual 280, 3) := by decide +kernel
theorem dX7_state_5 : decode cX7_state 5 = .ok (.ifCond .eq 25, 3) := by decide +kernel
theorem dX7_state_8 : decode cX7_state 8 = .ok (.aload_n 0, 1) := by decide +kernel
theorem dX7_state_9 : decode cX7_state 9 = .ok (.iload_n 2, 1) := by decide +kernel
theorem dX7_state_10 : decode cX7_state 10 = .ok (.invokevirtual 136, 3) := by decide +kernel
theorem dX7_state_13 : decode cX7_state 13 = .ok (.ifCond .eq 17, 3) := by decide +kernel
theorem dX7_state_16 : decode cX7_state 16 = .ok (.aload_n 0, 1) := by decide +kernel
theorem dX7_state_17 : decode cX7_state 17 = .ok (.getfield 83, 3) := by decide +kernel
theorem dX7_state_20 : decode cX7_state 20 = .ok (.bipush 40, 2) := by decide +kernel
theorem dX7_state_22 : decode cX7_state 22 = .ok (.iload_n 1, 1) := by decide +kernel
theorem dX7_state_23 : decode cX7_state 23 = .ok (.imul, 1) := by decide +kernel
theorem dX7_state_24 : decode cX7_state 24 = .ok (.iload_n 2, 1) := by decide +kernel
theorem dX7_state_25 : decode cX7_state 25 = .ok (.iadd, 1) := by decide +kernel
theorem dX7_state_26 : decode cX7_state 26 = .ok (.iaload, 1) := by decide +kernel
theorem dX7_state_27 : decode cX7_state 27 = .ok (.goto 4, 3) := by decide +kernel
theorem dX7_state_30 : decode cX7_state 30 = .ok (.iconst (-1), 1) := by decide +kernel
theorem dX7_state_31 : decode cX7_state 31 = .ok (.ireturn, 1) := by decide +kernel
theorem dX7_began_0 : decode cX7_began 0 = .ok (.aload_n 0, 1) := by decide +kernel
theorem dX7_began_1 : decode cX7_began 1 = .ok (.iload_n 1, 1) := by decide +kernel
theorem dX7_began_2 : decode cX7_began 2 = .ok (.invokevirtual 280, 3) := by decide +kernel
theorem dX7_began_5 : decode cX7_began 5 = .ok (.ifCond .ne 7, 3) := by decide +kernel
theorem dX7_began_8 : decode cX7_began 8 = .ok (.iconst (-1), 1) := by decide +kernel
theorem dX7_began_9 : decode cX7_began 9 = .ok (.goto 49, 3) := by decide +kernel
theorem dX7_began_12 : decode cX7_began 12 = .ok (.iload_n 2, 1) := by decide +kernel
theorem dX7_began_13 : decode cX7_began 13 = .ok (.iconst (-1), 1) := by decide +kernel
theorem dX7_began_14 : decode cX7_began 14 = .ok (.if_icmp .ne 12, 3) := by decide +kernel
theorem dX7_began_17 : decode cX7_began 17 = .ok (.aload_n 0, 1) := by decide +kernel
theorem dX7_began_18 : decode cX7_began 18 = .ok (.getfield 95, 3) := by decide +kernel
theorem dX7_began_21 : decode cX7_began 21 = .ok (.iload_n 1, 1) := by decide +kernel
theorem dX7_began_22 : decode cX7_began 22 = .ok (.iaload, 1) := by decide +kernel
theorem dX7_began_23 : decode cX7_began 23 = .ok (.goto 35, 3) := by decide +kernel
theorem dX7_began_26 : decode cX7_began 26 = .ok (.iload_n 2, 1) := by decide +kernel
theorem dX7_began_27 : decode cX7_began 27 = .ok (.iconst 0, 1) := by decide +kernel
theorem dX7_began_28 : decode cX7_began 28 = .ok (.aload_n 0, 1) := by decide +kernel
theorem dX7_began_29 : decode cX7_began 29 = .ok (.getfield 95, 3) := by decide +kernel
theorem dX7_began_32 : decode cX7_began 32 = .ok (.iload_n 1, 1) := by decide +kernel
theorem dX7_began_33 : decode cX7_began 33 = .ok (.iaload, 1) := by decide +kernel
theorem dX7_began_34 : decode cX7_began 34 = .ok (.iconst 1, 1) := by decide +kernel
theorem dX7_began_35 : decode cX7_began 35 = .ok (.isub, 1) := by decide +kernel
theorem dX7_began_36 : decode cX7_began 36 = .ok (.invokestatic 132, 3) := by decide +kernel
theorem dX7_began_39 : decode cX7_began 39 = .ok (.ifCond .eq 17, 3) := by decide +kernel
theorem dX7_began_42 : decode cX7_began 42 = .ok (.aload_n 0, 1) := by decide +kernel
theorem dX7_began_43 : decode cX7_began 43 = .ok (.getfield 98, 3) := by decide +kernel
theorem dX7_began_46 : decode cX7_began 46 = .ok (.bipush 40, 2) := by decide +kernel
theorem dX7_began_48 : decode cX7_began 48 = .ok (.iload_n 1, 1) := by decide +kernel
theorem dX7_began_49 : decode cX7_began 49 = .ok (.imul, 1) := by decide +kernel
theorem dX7_began_50 : decode cX7_began 50 = .ok (.iload_n 2, 1) := by decide +kernel
theorem dX7_began_51 : decode cX7_began 51 = .ok (.iadd, 1) := by decide +kernel
theorem dX7_began_52 : decode cX7_began 52 = .ok (.iaload, 1) := by decide +kernel
theorem dX7_began_53 : decode cX7_began 53 = .ok (.goto 5, 3) := by decide +kernel
theorem dX7_began_56 : decode cX7_began 56 = .ok (.bipush (-6), 2) := by decide +kernel
theorem dX7_began_58 : decode cX7_began 58 = .ok (.ireturn, 1) := by decide +kernel
theorem dX7_tape_0 : decode cX7_tape 0 = .ok (.aload_n 0, 1) := by decide +kernel
theorem dX7_tape_1 : decode cX7_tape 1 = .ok (.iload_n 1, 1) := by decide +kernel
theorem dX7_tape_2 : decode cX7_tape 2 = .ok (.invokevirtual 280, 3) := by decide +kernel
theorem dX7_tape_5 : decode cX7_tape 5 = .ok (.ifCond .ne 7, 3) := by decide +kernel
theorem dX7_tape_8 : decode cX7_tape 8 = .ok (.iconst 0, 1) := by decide +kernel
theorem dX7_tape_9 : decode cX7_tape 9 = .ok (.goto 56, 3) := by decide +kernel
theorem dX7_tape_12 : decode cX7_tape 12 = .ok (.iload_n 2, 1) := by decide +kernel
theorem dX7_tape_13 : decode cX7_tape 13 = .ok (.iconst (-1), 1) := by decide +kernel
theorem dX7_tape_14 : decode cX7_tape 14 = .ok (.if_icmp .ne 12, 3) := by decide +kernel
theorem dX7_tape_17 : decode cX7_tape 17 = .ok (.aload_n 0, 1) := by decide +kernel
theorem dX7_tape_18 : decode cX7_tape 18 = .ok (.getfield 89, 3) := by decide +kernel
theorem dX7_tape_21 : decode cX7_tape 21 = .ok (.iload_n 1, 1) := by decide +kernel
theorem dX7_tape_22 : decode cX7_tape 22 = .ok (.iaload, 1) := by decide +kernel
theorem dX7_tape_23 : decode cX7_tape 23 = .ok (.goto 42, 3) := by decide +kernel
theorem dX7_tape_26 : decode cX7_tape 26 = .ok (.iload_n 2, 1) := by decide +kernel
theorem dX7_tape_27 : decode cX7_tape 27 = .ok (.iconst 0, 1) := by decide +kernel
theorem dX7_tape_28 : decode cX7_tape 28 = .ok (.aload_n 0, 1) := by decide +kernel
theorem dX7_tape_29 : decode cX7_tape 29 = .ok (.getfield 89, 3) := by decide +kernel
theorem dX7_tape_32 : decode cX7_tape 32 = .ok (.iload_n 1, 1) := by decide +kernel
theorem dX7_tape_33 : decode cX7_tape 33 = .ok (.iaload, 1) := by decide +kernel
theorem dX7_tape_34 : decode cX7_tape 34 = .ok (.iconst 1, 1) := by decide +kernel
theorem dX7_tape_35 : decode cX7_tape 35 = .ok (.isub, 1) := by decide +kernel
theorem dX7_tape_36 : decode cX7_tape 36 = .ok (.invokestatic 132, 3) := by decide +kernel
theorem dX7_tape_39 : decode cX7_tape 39 = .ok (.ifCond .eq 25, 3) := by decide +kernel
theorem dX7_tape_42 : decode cX7_tape 42 = .ok (.iload_n 2, 1) := by decide +kernel
theorem dX7_tape_43 : decode cX7_tape 43 = .ok (.sipush 300, 3) := by decide +kernel
theorem dX7_tape_46 : decode cX7_tape 46 = .ok (.if_icmp .ge 18, 3) := by decide +kernel
theorem dX7_tape_49 : decode cX7_tape 49 = .ok (.aload_n 0, 1) := by decide +kernel
theorem dX7_tape_50 : decode cX7_tape 50 = .ok (.getfield 92, 3) := by decide +kernel
theorem dX7_tape_53 : decode cX7_tape 53 = .ok (.sipush 300, 3) := by decide +kernel
theorem dX7_tape_56 : decode cX7_tape 56 = .ok (.iload_n 1, 1) := by decide +kernel
theorem dX7_tape_57 : decode cX7_tape 57 = .ok (.imul, 1) := by decide +kernel
theorem dX7_tape_58 : decode cX7_tape 58 = .ok (.iload_n 2, 1) := by decide +kernel
theorem dX7_tape_59 : decode cX7_tape 59 = .ok (.iadd, 1) := by decide +kernel
theorem dX7_tape_60 : decode cX7_tape 60 = .ok (.iaload, 1) := by decide +kernel
theorem dX7_tape_61 : decode cX7_tape 61 = .ok (.goto 4, 3) := by decide +kernel
theorem dX7_tape_64 : decode cX7_tape 64 = .ok (.iconst 0, 1) := by decide +kernel
theorem dX7_tape_65 : decode cX7_tape 65 = .ok (.ireturn, 1) := by decide +kernel
theorem dX7_value_0 : decode cX7_value 0 = .ok (.aload_n 0, 1) := by decide +kernel
theorem dX7_value_1 : decode cX7_value 1 = .ok (.iload_n 1, 1) := by decide +kernel
theorem dX7_value_2 : decode cX7_value 2 = .ok (.invokevirtual 280, 3) := by decide +kernel
theorem dX7_value_5 : decode cX7_value 5 = .ok (.ifCond .eq 21, 3) := by decide +kernel
theorem dX7_value_8 : decode cX7_value 8 = .ok (.aload_n 0, 1) := by decide +kernel
theorem dX7_value_9 : decode cX7_value 9 = .ok (.iload_n 2, 1) := by decide +kernel
theorem dX7_value_10 : decode cX7_value 10 = .ok (.invokevirtual 136, 3) := by decide +kernel
theorem dX7_value_13 : decode cX7_value 13 = .ok (.ifCond .eq 13, 3) := by decide +kernel
theorem dX7_value_16 : decode cX7_value 16 = .ok (.iload_n 3, 1) := by decide +kernel
theorem dX7_value_17 : decode cX7_value 17 = .ok (.iconst 0, 1) := by decide +kernel
theorem dX7_value_18 : decode cX7_value 18 = .ok (.bipush 9, 2) := by decide +kernel
theorem dX7_value_20 : decode cX7_value 20 = .ok (.invokestatic 132, 3) := by decide +kernel
theorem dX7_value_23 : decode cX7_value 23 = .ok (.ifCond .ne 5, 3) := by decide +kernel
theorem dX7_value_26 : decode cX7_value 26 = .ok (.iconst 0, 1) := by decide +kernel
theorem dX7_value_27 : decode cX7_value 27 = .ok (.ireturn, 1) := by decide +kernel
theorem dX7_value_28 : decode cX7_value 28 = .ok (.aload_n 0, 1) := by decide +kernel
theorem dX7_value_29 : decode cX7_value 29 = .ok (.iload_n 2, 1) := by decide +kernel
theorem dX7_value_30 : decode cX7_value 30 = .ok (.iload_n 3, 1) := by decide +kernel
theorem dX7_value_31 : decode cX7_value 31 = .ok (.invokevirtual 161, 3) := by decide +kernel
theorem dX7_value_34 : decode cX7_value 34 = .ok (.istore 4, 2) := by decide +kernel
theorem dX7_value_36 : decode cX7_value 36 = .ok (.iload 4, 2) := by decide +kernel
theorem dX7_value_38 : decode cX7_value 38 = .ok (.ifCond .ge 7, 3) := by decide +kernel
theorem dX7_value_41 : decode cX7_value 41 = .ok (.iconst 0, 1) := by decide +kernel
theorem dX7_value_42 : decode cX7_value 42 = .ok (.goto 36, 3) := by decide +kernel
theorem dX7_value_45 : decode cX7_value 45 = .ok (.aload_n 0, 1) := by decide +kernel
theorem dX7_value_46 : decode cX7_value 46 = .ok (.getfield 32, 3) := by decide +kernel
theorem dX7_value_49 : decode cX7_value 49 = .ok (.iload 4, 2) := by decide +kernel
theorem dX7_value_51 : decode cX7_value 51 = .ok (.baload, 1) := by decide +kernel
theorem dX7_value_52 : decode cX7_value 52 = .ok (.ifCond .eq 13, 3) := by decide +kernel
theorem dX7_value_55 : decode cX7_value 55 = .ok (.aload_n 0, 1) := by decide +kernel
theorem dX7_value_56 : decode cX7_value 56 = .ok (.getfield 35, 3) := by decide +kernel
theorem dX7_value_59 : decode cX7_value 59 = .ok (.iload 4, 2) := by decide +kernel
theorem dX7_value_61 : decode cX7_value 61 = .ok (.iaload, 1) := by decide +kernel
theorem dX7_value_62 : decode cX7_value 62 = .ok (.goto 16, 3) := by decide +kernel
theorem dX7_value_65 : decode cX7_value 65 = .ok (.aload_n 0, 1) := by decide +kernel
theorem dX7_value_66 : decode cX7_value 66 = .ok (.getfield 86, 3) := by decide +kernel
theorem dX7_value_69 : decode cX7_value 69 = .ok (.sipush 240, 3) := by decide +kernel
theorem dX7_value_72 : decode cX7_value 72 = .ok (.iload_n 1, 1) := by decide +kernel
theorem dX7_value_73 : decode cX7_value 73 = .ok (.imul, 1) := by decide +kernel
theorem dX7_value_74 : decode cX7_value 74 = .ok (.iload 4, 2) := by decide +kernel
theorem dX7_value_76 : decode cX7_value 76 = .ok (.iadd, 1) := by decide +kernel
theorem dX7_value_77 : decode cX7_value 77 = .ok (.iaload, 1) := by decide +kernel
theorem dX7_value_78 : decode cX7_value 78 = .ok (.ireturn, 1) := by decide +kernel
theorem dX7_failed_0 : decode cX7_failed 0 = .ok (.aload_n 0, 1) := by decide +kernel
theorem dX7_failed_1 : decode cX7_failed 1 = .ok (.iload_n 1, 1) := by decide +kernel
theorem dX7_failed_2 : decode cX7_failed 2 = .ok (.invokevirtual 280, 3) := by decide +kernel
theorem dX7_failed_5 : decode cX7_failed 5 = .ok (.ifCond .ne 7, 3) := by decide +kernel
theorem dX7_failed_8 : decode cX7_failed 8 = .ok (.iconst (-1), 1) := by decide +kernel
theorem dX7_failed_9 : decode cX7_failed 9 = .ok (.goto 32, 3) := by decide +kernel
theorem dX7_failed_12 : decode cX7_failed 12 = .ok (.iload_n 2, 1) := by decide +kernel
theorem dX7_failed_13 : decode cX7_failed 13 = .ok (.ifCond .ne 12, 3) := by decide +kernel
theorem dX7_failed_16 : decode cX7_failed 16 = .ok (.aload_n 0, 1) := by decide +kernel
theorem dX7_failed_17 : decode cX7_failed 17 = .ok (.getfield 101, 3) := by decide +kernel
theorem dX7_failed_20 : decode cX7_failed 20 = .ok (.iload_n 1, 1) := by decide +kernel
theorem dX7_failed_21 : decode cX7_failed 21 = .ok (.iaload, 1) := by decide +kernel
theorem dX7_failed_22 : decode cX7_failed 22 = .ok (.goto 19, 3) := by decide +kernel
theorem dX7_failed_25 : decode cX7_failed 25 = .ok (.iload_n 2, 1) := by decide +kernel
theorem dX7_failed_26 : decode cX7_failed 26 = .ok (.iconst 1, 1) := by decide +kernel
theorem dX7_failed_27 : decode cX7_failed 27 = .ok (.if_icmp .ne 12, 3) := by decide +kernel
theorem dX7_failed_30 : decode cX7_failed 30 = .ok (.aload_n 0, 1) := by decide +kernel
theorem dX7_failed_31 : decode cX7_failed 31 = .ok (.getfield 104, 3) := by decide +kernel
theorem dX7_failed_34 : decode cX7_failed 34 = .ok (.iload_n 1, 1) := by decide +kernel
theorem dX7_failed_35 : decode cX7_failed 35 = .ok (.iaload, 1) := by decide +kernel
theorem dX7_failed_36 : decode cX7_failed 36 = .ok (.goto 5, 3) := by decide +kernel
theorem dX7_failed_39 : decode cX7_failed 39 = .ok (.bipush (-2), 2) := by decide +kernel
theorem dX7_failed_41 : decode cX7_failed 41 = .ok (.ireturn, 1) := by decide +kernel
theorem dX7_spent_0 : decode cX7_spent 0 = .ok (.aload_n 0, 1) := by decide +kernel
theorem dX7_spent_1 : decode cX7_spent 1 = .ok (.iload_n 1, 1) := by decide +kernel
theorem dX7_spent_2 : decode cX7_spent 2 = .ok (.invokevirtual 280, 3) := by decide +kernel
theorem dX7_spent_5 : decode cX7_spent 5 = .ok (.ifCond .ne 7, 3) := by decide +kernel
theorem dX7_spent_8 : decode cX7_spent 8 = .ok (.iconst (-1), 1) := by decide +kernel
theorem dX7_spent_9 : decode cX7_spent 9 = .ok (.goto 27, 3) := by decide +kernel
theorem dX7_spent_12 : decode cX7_spent 12 = .ok (.iload_n 2, 1) := by decide +kernel
theorem dX7_spent_13 : decode cX7_spent 13 = .ok (.iconst 0, 1) := by decide +kernel
theorem dX7_spent_14 : decode cX7_spent 14 = .ok (.iconst 3, 1) := by decide +kernel
theorem dX7_spent_15 : decode cX7_spent 15 = .ok (.invokestatic 132, 3) := by decide +kernel
theorem dX7_spent_18 : decode cX7_spent 18 = .ok (.ifCond .eq 16, 3) := by decide +kernel
theorem dX7_spent_21 : decode cX7_spent 21 = .ok (.aload_n 0, 1) := by decide +kernel
theorem dX7_spent_22 : decode cX7_spent 22 = .ok (.getfield 107, 3) := by decide +kernel
theorem dX7_spent_25 : decode cX7_spent 25 = .ok (.iconst 4, 1) := by decide +kernel
theorem dX7_spent_26 : decode cX7_spent 26 = .ok (.iload_n 1, 1) := by decide +kernel
theorem dX7_spent_27 : decode cX7_spent 27 = .ok (.imul, 1) := by decide +kernel
theorem dX7_spent_28 : decode cX7_spent 28 = .ok (.iload_n 2, 1) := by decide +kernel
theorem dX7_spent_29 : decode cX7_spent 29 = .ok (.iadd, 1) := by decide +kernel
theorem dX7_spent_30 : decode cX7_spent 30 = .ok (.iaload, 1) := by decide +kernel
theorem dX7_spent_31 : decode cX7_spent 31 = .ok (.goto 5, 3) := by decide +kernel
theorem dX7_spent_34 : decode cX7_spent 34 = .ok (.bipush (-2), 2) := by decide +kernel
theorem dX7_spent_36 : decode cX7_spent 36 = .ok (.ireturn, 1) := by decide +kernel
theorem dX7_many_0 : decode cX7_many 0 = .ok (.aload_n 0, 1) := by decide +kernel
theorem dX7_many_1 : decode cX7_many 1 = .ok (.iload_n 1, 1) := by decide +kernel
theorem dX7_many_2 : decode cX7_many 2 = .ok (.invokevirtual 280, 3) := by decide +kernel
theorem dX7_many_5 : decode cX7_many 5 = .ok (.ifCond .ne 5, 3) := by decide +kernel
theorem dX7_many_8 : decode cX7_many 8 = .ok (.iconst (-1), 1) := by decide +kernel
theorem dX7_many_9 : decode cX7_many 9 = .ok (.ireturn, 1) := by decide +kernel
theorem dX7_many_10 : decode cX7_many 10 = .ok (.iload_n 2, 1) := by decide +kernel
theorem dX7_many_11 : decode cX7_many 11 = .ok (.iconst 0, 1) := by decide +kernel
theorem dX7_many_12 : decode cX7_many 12 = .ok (.iconst 3, 1) := by decide +kernel
theorem dX7_many_13 : decode cX7_many 13 = .ok (.invokestatic 132, 3) := by decide +kernel
theorem dX7_many_16 : decode cX7_many 16 = .ok (.ifCond .ne 6, 3) := by decide +kernel
theorem dX7_many_19 : decode cX7_many 19 = .ok (.bipush (-2), 2) := by decide +kernel
theorem dX7_many_21 : decode cX7_many 21 = .ok (.ireturn, 1) := by decide +kernel
theorem dX7_many_22 : decode cX7_many 22 = .ok (.iconst 0, 1) := by decide +kernel
theorem dX7_many_23 : decode cX7_many 23 = .ok (.istore_n 3, 1) := by decide +kernel
theorem dX7_many_24 : decode cX7_many 24 = .ok (.iconst 0, 1) := by decide +kernel
theorem dX7_many_25 : decode cX7_many 25 = .ok (.istore 4, 2) := by decide +kernel
theorem dX7_many_27 : decode cX7_many 27 = .ok (.iload 4, 2) := by decide +kernel
theorem dX7_many_29 : decode cX7_many 29 = .ok (.aload_n 0, 1) := by decide +kernel
theorem dX7_many_30 : decode cX7_many 30 = .ok (.getfield 128, 3) := by decide +kernel
theorem dX7_many_33 : decode cX7_many 33 = .ok (.if_icmp .ge 33, 3) := by decide +kernel
theorem dX7_many_36 : decode cX7_many 36 = .ok (.iload_n 3, 1) := by decide +kernel
theorem dX7_many_37 : decode cX7_many 37 = .ok (.aload_n 0, 1) := by decide +kernel
theorem dX7_many_38 : decode cX7_many 38 = .ok (.getfield 83, 3) := by decide +kernel
theorem dX7_many_41 : decode cX7_many 41 = .ok (.bipush 40, 2) := by decide +kernel
theorem dX7_many_43 : decode cX7_many 43 = .ok (.iload_n 1, 1) := by decide +kernel
theorem dX7_many_44 : decode cX7_many 44 = .ok (.imul, 1) := by decide +kernel
theorem dX7_many_45 : decode cX7_many 45 = .ok (.iload 4, 2) := by decide +kernel
theorem dX7_many_47 : decode cX7_many 47 = .ok (.iadd, 1) := by decide +kernel
theorem dX7_many_48 : decode cX7_many 48 = .ok (.iaload, 1) := by decide +kernel
theorem dX7_many_49 : decode cX7_many 49 = .ok (.iload_n 2, 1) := by decide +kernel
theorem dX7_many_50 : decode cX7_many 50 = .ok (.if_icmp .ne 7, 3) := by decide +kernel
theorem dX7_many_53 : decode cX7_many 53 = .ok (.iconst 1, 1) := by decide +kernel
theorem dX7_many_54 : decode cX7_many 54 = .ok (.goto 4, 3) := by decide +kernel
theorem dX7_many_57 : decode cX7_many 57 = .ok (.iconst 0, 1) := by decide +kernel
theorem dX7_many_58 : decode cX7_many 58 = .ok (.iadd, 1) := by decide +kernel
theorem dX7_many_59 : decode cX7_many 59 = .ok (.istore_n 3, 1) := by decide +kernel
theorem dX7_many_60 : decode cX7_many 60 = .ok (.iinc 4 1, 3) := by decide +kernel
theorem dX7_many_63 : decode cX7_many 63 = .ok (.goto (-36), 3) := by decide +kernel
theorem dX7_many_66 : decode cX7_many 66 = .ok (.iload_n 3, 1) := by decide +kernel
theorem dX7_many_67 : decode cX7_many 67 = .ok (.ireturn, 1) := by decide +kernel
theorem dX7_differs_0 : decode cX7_differs 0 = .ok (.aload_n 0, 1) := by decide +kernel
theorem dX7_differs_1 : decode cX7_differs 1 = .ok (.iload_n 1, 1) := by decide +kernel
theorem dX7_differs_2 : decode cX7_differs 2 = .ok (.invokevirtual 280, 3) := by decide +kernel
theorem dX7_differs_5 : decode cX7_differs 5 = .ok (.ifCond .eq 11, 3) := by decide +kernel
theorem dX7_differs_8 : decode cX7_differs 8 = .ok (.aload_n 0, 1) := by decide +kernel
theorem dX7_differs_9 : decode cX7_differs 9 = .ok (.iload_n 2, 1) := by decide +kernel
theorem dX7_differs_10 : decode cX7_differs 10 = .ok (.invokevirtual 280, 3) := by decide +kernel
theorem dX7_differs_13 : decode cX7_differs 13 = .ok (.ifCond .ne 5, 3) := by decide +kernel
theorem dX7_differs_16 : decode cX7_differs 16 = .ok (.iconst (-1), 1) := by decide +kernel
theorem dX7_differs_17 : decode cX7_differs 17 = .ok (.ireturn, 1) := by decide +kernel
theorem dX7_differs_18 : decode cX7_differs 18 = .ok (.iconst 0, 1) := by decide +kernel
theorem dX7_differs_19 : decode cX7_differs 19 = .ok (.istore_n 3, 1) := by decide +kernel
theorem dX7_differs_20 : decode cX7_differs 20 = .ok (.iload_n 3, 1) := by decide +kernel
theorem dX7_differs_21 : decode cX7_differs 21 = .ok (.aload_n 0, 1) := by decide +kernel
theorem dX7_differs_22 : decode cX7_differs 22 = .ok (.getfield 128, 3) := by decide +kernel
theorem dX7_differs_25 : decode cX7_differs 25 = .ok (.if_icmp .ge 117, 3) := by decide +kernel
theorem dX7_differs_28 : decode cX7_differs 28 = .ok (.aload_n 0, 1) := by decide +kernel
theorem dX7_differs_29 : decode cX7_differs 29 = .ok (.getfield 83, 3) := by decide +kernel
theorem dX7_differs_32 : decode cX7_differs 32 = .ok (.bipush 40, 2) := by decide +kernel
theorem dX7_differs_34 : decode cX7_differs 34 = .ok (.iload_n 1, 1) := by decide +kernel
theorem dX7_differs_35 : decode cX7_differs 35 = .ok (.imul, 1) := by decide +kernel
theorem dX7_differs_36 : decode cX7_differs 36 = .ok (.iload_n 3, 1) := by decide +kernel
theorem dX7_differs_37 : decode cX7_differs 37 = .ok (.iadd, 1) := by decide +kernel
theorem dX7_differs_38 : decode cX7_differs 38 = .ok (.iaload, 1) := by decide +kernel
theorem dX7_differs_39 : decode cX7_differs 39 = .ok (.aload_n 0, 1) := by decide +kernel
theorem dX7_differs_40 : decode cX7_differs 40 = .ok (.getfield 83, 3) := by decide +kernel
theorem dX7_differs_43 : decode cX7_differs 43 = .ok (.bipush 40, 2) := by decide +kernel
theorem dX7_differs_45 : decode cX7_differs 45 = .ok (.iload_n 2, 1) := by decide +kernel
theorem dX7_differs_46 : decode cX7_differs 46 = .ok (.imul, 1) := by decide +kernel
theorem dX7_differs_47 : decode cX7_differs 47 = .ok (.iload_n 3, 1) := by decide +kernel
theorem dX7_differs_48 : decode cX7_differs 48 = .ok (.iadd, 1) := by decide +kernel
theorem dX7_differs_49 : decode cX7_differs 49 = .ok (.iaload, 1) := by decide +kernel
theorem dX7_differs_50 : decode cX7_differs 50 = .ok (.if_icmp .ne 7, 3) := by decide +kernel
theorem dX7_differs_53 : decode cX7_differs 53 = .ok (.iconst 1, 1) := by decide +kernel
theorem dX7_differs_54 : decode cX7_differs 54 = .ok (.goto 4, 3) := by decide +kernel
theorem dX7_differs_57 : decode cX7_differs 57 = .ok (.iconst 0, 1) := by decide +kernel
theorem dX7_differs_58 : decode cX7_differs 58 = .ok (.istore 4, 2) := by decide +kernel
theorem dX7_differs_60 : decode cX7_differs 60 = .ok (.bipush 6, 2) := by decide +kernel
theorem dX7_differs_62 : decode cX7_differs 62 = .ok (.iload_n 3, 1) := by decide +kernel
theorem dX7_differs_63 : decode cX7_differs 63 = .ok (.imul, 1) := by decide +kernel
theorem dX7_differs_64 : decode cX7_differs 64 = .ok (.istore 5, 2) := by decide +kernel
theorem dX7_differs_66 : decode cX7_differs 66 = .ok (.iload 5, 2) := by decide +kernel
theorem dX7_differs_68 : decode cX7_differs 68 = .ok (.bipush 6, 2) := by decide +kernel
theorem dX7_differs_70 : decode cX7_differs 70 = .ok (.iload_n 3, 1) := by decide +kernel
theorem dX7_differs_71 : decode cX7_differs 71 = .ok (.imul, 1) := by decide +kernel
theorem dX7_differs_72 : decode cX7_differs 72 = .ok (.aload_n 0, 1) := by decide +kernel
theorem dX7_differs_73 : decode cX7_differs 73 = .ok (.getfield 26, 3) := by decide +kernel
theorem dX7_differs_76 : decode cX7_differs 76 = .ok (.iload_n 3, 1) := by decide +kernel
theorem dX7_differs_77 : decode cX7_differs 77 = .ok (.iaload, 1) := by decide +kernel
theorem dX7_differs_78 : decode cX7_differs 78 = .ok (.iadd, 1) := by decide +kernel
theorem dX7_differs_79 : decode cX7_differs 79 = .ok (.if_icmp .ge 50, 3) := by decide +kernel
theorem dX7_differs_82 : decode cX7_differs 82 = .ok (.iload 4, 2) := by decide +kernel
theorem dX7_differs_84 : decode cX7_differs 84 = .ok (.ifCond .eq 36, 3) := by decide +kernel
theorem dX7_differs_87 : decode cX7_differs 87 = .ok (.aload_n 0, 1) := by decide +kernel
theorem dX7_differs_88 : decode cX7_differs 88 = .ok (.getfield 86, 3) := by decide +kernel
theorem dX7_differs_91 : decode cX7_differs 91 = .ok (.sipush 240, 3) := by decide +kernel
theorem dX7_differs_94 : decode cX7_differs 94 = .ok (.iload_n 1, 1) := by decide +kernel
theorem dX7_differs_95 : decode cX7_differs 95 = .ok (.imul, 1) := by decide +kernel
theorem dX7_differs_96 : decode cX7_differs 96 = .ok (.iload 5, 2) := by decide +kernel
theorem dX7_differs_98 : decode cX7_differs 98 = .ok (.iadd, 1) := by decide +kernel
theorem dX7_differs_99 : decode cX7_differs 99 = .ok (.iaload, 1) := by decide +kernel
theorem dX7_differs_100 : decode cX7_differs 100 = .ok (.aload_n 0, 1) := by decide +kernel
theorem dX7_differs_101 : decode cX7_differs 101 = .ok (.getfield 86, 3) := by decide +kernel
theorem dX7_differs_104 : decode cX7_differs 104 = .ok (.sipush 240, 3) := by decide +kernel
theorem dX7_differs_107 : decode cX7_differs 107 = .ok (.iload_n 2, 1) := by decide +kernel
theorem dX7_differs_108 : decode cX7_differs 108 = .ok (.imul, 1) := by decide +kernel
theorem dX7_differs_109 : decode cX7_differs 109 = .ok (.iload 5, 2) := by decide +kernel
theorem dX7_differs_111 : decode cX7_differs 111 = .ok (.iadd, 1) := by decide +kernel
theorem dX7_differs_112 : decode cX7_differs 112 = .ok (.iaload, 1) := by decide +kernel
theorem dX7_differs_113 : decode cX7_differs 113 = .ok (.if_icmp .ne 7, 3) := by decide +kernel
theorem dX7_differs_116 : decode cX7_differs 116 = .ok (.iconst 1, 1) := by decide +kernel
theorem dX7_differs_117 : decode cX7_differs 117 = .ok (.goto 4, 3) := by decide +kernel
theorem dX7_differs_120 : decode cX7_differs 120 = .ok (.iconst 0, 1) := by decide +kernel
theorem dX7_differs_121 : decode cX7_differs 121 = .ok (.istore 4, 2) := by decide +kernel
theorem dX7_differs_123 : decode cX7_differs 123 = .ok (.iinc 5 1, 3) := by decide +kernel
theorem dX7_differs_126 : decode cX7_differs 126 = .ok (.goto (-60), 3) := by decide +kernel
theorem dX7_differs_129 : decode cX7_differs 129 = .ok (.iload 4, 2) := by decide +kernel
theorem dX7_differs_131 : decode cX7_differs 131 = .ok (.ifCond .ne 5, 3) := by decide +kernel
theorem dX7_differs_134 : decode cX7_differs 134 = .ok (.iload_n 3, 1) := by decide +kernel
theorem dX7_differs_135 : decode cX7_differs 135 = .ok (.ireturn, 1) := by decide +kernel
theorem dX7_differs_136 : decode cX7_differs 136 = .ok (.iinc 3 1, 3) := by decide +kernel
theorem dX7_differs_139 : decode cX7_differs 139 = .ok (.goto (-119), 3) := by decide +kernel
theorem dX7_differs_142 : decode cX7_differs 142 = .ok (.bipush (-6), 2) := by decide +kernel
theorem dX7_differs_144 : decode cX7_differs 144 = .ok (.ireturn, 1) := by decide +kernel
