theorem dX5_in_0 : decode cX5_in 0 = .ok (.iload_n 0, 1) := by decide +kernel
theorem dX5_in_1 : decode cX5_in 1 = .ok (.iload_n 1, 1) := by decide +kernel
theorem dX5_in_2 : decode cX5_in 2 = .ok (.if_icmp .lt 12, 3) := by decide +kernel
theorem dX5_in_5 : decode cX5_in 5 = .ok (.iload_n 0, 1) := by decide +kernel
theorem dX5_in_6 : decode cX5_in 6 = .ok (.iload_n 2, 1) := by decide +kernel
theorem dX5_in_7 : decode cX5_in 7 = .ok (.if_icmp .gt 7, 3) := by decide +kernel
theorem dX5_in_10 : decode cX5_in 10 = .ok (.iconst 1, 1) := by decide +kernel
theorem dX5_in_11 : decode cX5_in 11 = .ok (.goto 4, 3) := by decide +kernel
theorem dX5_in_14 : decode cX5_in 14 = .ok (.iconst 0, 1) := by decide +kernel
theorem dX5_in_15 : decode cX5_in 15 = .ok (.ireturn, 1) := by decide +kernel
theorem dX5_init_0 : decode cX5_init 0 = .ok (.aload_n 0, 1) := by decide +kernel
theorem dX5_init_1 : decode cX5_init 1 = .ok (.invokespecial 1, 3) := by decide +kernel
theorem dX5_init_4 : decode cX5_init 4 = .ok (.aload_n 0, 1) := by decide +kernel
theorem dX5_init_5 : decode cX5_init 5 = .ok (.bipush 41, 2) := by decide +kernel
theorem dX5_init_7 : decode cX5_init 7 = .ok (.newarray .int, 2) := by decide +kernel
theorem dX5_init_9 : decode cX5_init 9 = .ok (.putfield 7, 3) := by decide +kernel
theorem dX5_init_12 : decode cX5_init 12 = .ok (.aload_n 0, 1) := by decide +kernel
theorem dX5_init_13 : decode cX5_init 13 = .ok (.iconst 5, 1) := by decide +kernel
theorem dX5_init_14 : decode cX5_init 14 = .ok (.newarray .int, 2) := by decide +kernel
theorem dX5_init_16 : decode cX5_init 16 = .ok (.putfield 13, 3) := by decide +kernel
theorem dX5_init_19 : decode cX5_init 19 = .ok (.aload_n 0, 1) := by decide +kernel
theorem dX5_init_20 : decode cX5_init 20 = .ok (.iconst 5, 1) := by decide +kernel
theorem dX5_init_21 : decode cX5_init 21 = .ok (.newarray .int, 2) := by decide +kernel
theorem dX5_init_23 : decode cX5_init 23 = .ok (.putfield 16, 3) := by decide +kernel
theorem dX5_init_26 : decode cX5_init 26 = .ok (.aload_n 0, 1) := by decide +kernel
theorem dX5_init_27 : decode cX5_init 27 = .ok (.iconst 5, 1) := by decide +kernel
theorem dX5_init_28 : decode cX5_init 28 = .ok (.newarray .int, 2) := by decide +kernel
theorem dX5_init_30 : decode cX5_init 30 = .ok (.putfield 19, 3) := by decide +kernel
theorem dX5_init_33 : decode cX5_init 33 = .ok (.aload_n 0, 1) := by decide +kernel
theorem dX5_init_34 : decode cX5_init 34 = .ok (.iconst 5, 1) := by decide +kernel
theorem dX5_init_35 : decode cX5_init 35 = .ok (.newarray .int, 2) := by decide +kernel
theorem dX5_init_37 : decode cX5_init 37 = .ok (.putfield 22, 3) := by decide +kernel
theorem dX5_init_40 : decode cX5_init 40 = .ok (.aload_n 0, 1) := by decide +kernel
theorem dX5_init_41 : decode cX5_init 41 = .ok (.iconst 5, 1) := by decide +kernel
theorem dX5_init_42 : decode cX5_init 42 = .ok (.newarray .int, 2) := by decide +kernel
theorem dX5_init_44 : decode cX5_init 44 = .ok (.putfield 25, 3) := by decide +kernel
theorem dX5_init_47 : decode cX5_init 47 = .ok (.aload_n 0, 1) := by decide +kernel
theorem dX5_init_48 : decode cX5_init 48 = .ok (.iconst 1, 1) := by decide +kernel
theorem dX5_init_49 : decode cX5_init 49 = .ok (.putfield 28, 3) := by decide +kernel
theorem dX5_init_52 : decode cX5_init 52 = .ok (.aload_n 0, 1) := by decide +kernel
theorem dX5_init_53 : decode cX5_init 53 = .ok (.bipush 8, 2) := by decide +kernel
theorem dX5_init_55 : decode cX5_init 55 = .ok (.putfield 32, 3) := by decide +kernel
theorem dX5_init_58 : decode cX5_init 58 = .ok (.aload_n 0, 1) := by decide +kernel
theorem dX5_init_59 : decode cX5_init 59 = .ok (.iconst 4, 1) := by decide +kernel
theorem dX5_init_60 : decode cX5_init 60 = .ok (.putfield 35, 3) := by decide +kernel
theorem dX5_init_63 : decode cX5_init 63 = .ok (.aload_n 0, 1) := by decide +kernel
theorem dX5_init_64 : decode cX5_init 64 = .ok (.bipush 48, 2) := by decide +kernel
theorem dX5_init_66 : decode cX5_init 66 = .ok (.newarray .int, 2) := by decide +kernel
theorem dX5_init_68 : decode cX5_init 68 = .ok (.putfield 38, 3) := by decide +kernel
theorem dX5_init_71 : decode cX5_init 71 = .ok (.aload_n 0, 1) := by decide +kernel
theorem dX5_init_72 : decode cX5_init 72 = .ok (.bipush 48, 2) := by decide +kernel
theorem dX5_init_74 : decode cX5_init 74 = .ok (.newarray .int, 2) := by decide +kernel
theorem dX5_init_76 : decode cX5_init 76 = .ok (.putfield 41, 3) := by decide +kernel
theorem dX5_init_79 : decode cX5_init 79 = .ok (.aload_n 0, 1) := by decide +kernel
theorem dX5_init_80 : decode cX5_init 80 = .ok (.bipush 48, 2) := by decide +kernel
theorem dX5_init_82 : decode cX5_init 82 = .ok (.newarray .int, 2) := by decide +kernel
theorem dX5_init_84 : decode cX5_init 84 = .ok (.putfield 44, 3) := by decide +kernel
theorem dX5_init_87 : decode cX5_init 87 = .ok (.aload_n 0, 1) := by decide +kernel
theorem dX5_init_88 : decode cX5_init 88 = .ok (.bipush 48, 2) := by decide +kernel
theorem dX5_init_90 : decode cX5_init 90 = .ok (.newarray .int, 2) := by decide +kernel
theorem dX5_init_92 : decode cX5_init 92 = .ok (.putfield 47, 3) := by decide +kernel
theorem dX5_init_95 : decode cX5_init 95 = .ok (.aload_n 0, 1) := by decide +kernel
theorem dX5_init_96 : decode cX5_init 96 = .ok (.bipush 48, 2) := by decide +kernel
theorem dX5_init_98 : decode cX5_init 98 = .ok (.newarray .int, 2) := by decide +kernel
theorem dX5_init_100 : decode cX5_init 100 = .ok (.putfield 50, 3) := by decide +kernel
theorem dX5_init_103 : decode cX5_init 103 = .ok (.aload_n 0, 1) := by decide +kernel
theorem dX5_init_104 : decode cX5_init 104 = .ok (.bipush 90, 2) := by decide +kernel
theorem dX5_init_106 : decode cX5_init 106 = .ok (.newarray .int, 2) := by decide +kernel
theorem dX5_init_108 : decode cX5_init 108 = .ok (.putfield 53, 3) := by decide +kernel
theorem dX5_init_111 : decode cX5_init 111 = .ok (.aload_n 0, 1) := by decide +kernel
theorem dX5_init_112 : decode cX5_init 112 = .ok (.bipush 90, 2) := by decide +kernel
theorem dX5_init_114 : decode cX5_init 114 = .ok (.newarray .int, 2) := by decide +kernel
theorem dX5_init_116 : decode cX5_init 116 = .ok (.putfield 56, 3) := by decide +kernel
theorem dX5_init_119 : decode cX5_init 119 = .ok (.aload_n 0, 1) := by decide +kernel
theorem dX5_init_120 : decode cX5_init 120 = .ok (.sipush 544, 3) := by decide +kernel
theorem dX5_init_123 : decode cX5_init 123 = .ok (.newarray .int, 2) := by decide +kernel
theorem dX5_init_125 : decode cX5_init 125 = .ok (.putfield 59, 3) := by decide +kernel
theorem dX5_init_128 : decode cX5_init 128 = .ok (.aload_n 0, 1) := by decide +kernel
theorem dX5_init_129 : decode cX5_init 129 = .ok (.sipush 136, 3) := by decide +kernel
theorem dX5_init_132 : decode cX5_init 132 = .ok (.newarray .int, 2) := by decide +kernel
theorem dX5_init_134 : decode cX5_init 134 = .ok (.putfield 62, 3) := by decide +kernel
theorem dX5_init_137 : decode cX5_init 137 = .ok (.aload_n 0, 1) := by decide +kernel
theorem dX5_init_138 : decode cX5_init 138 = .ok (.bipush 68, 2) := by decide +kernel
theorem dX5_init_140 : decode cX5_init 140 = .ok (.newarray .int, 2) := by decide +kernel
theorem dX5_init_142 : decode cX5_init 142 = .ok (.putfield 65, 3) := by decide +kernel
theorem dX5_init_145 : decode cX5_init 145 = .ok (.aload_n 0, 1) := by decide +kernel
theorem dX5_init_146 : decode cX5_init 146 = .ok (.bipush 48, 2) := by decide +kernel
theorem dX5_init_148 : decode cX5_init 148 = .ok (.newarray .int, 2) := by decide +kernel
theorem dX5_init_150 : decode cX5_init 150 = .ok (.putfield 68, 3) := by decide +kernel
theorem dX5_init_153 : decode cX5_init 153 = .ok (.aload_n 0, 1) := by decide +kernel
theorem dX5_init_154 : decode cX5_init 154 = .ok (.bipush 48, 2) := by decide +kernel
theorem dX5_init_156 : decode cX5_init 156 = .ok (.newarray .int, 2) := by decide +kernel
theorem dX5_init_158 : decode cX5_init 158 = .ok (.putfield 71, 3) := by decide +kernel
theorem dX5_init_161 : decode cX5_init 161 = .ok (.aload_n 0, 1) := by decide +kernel
theorem dX5_init_162 : decode cX5_init 162 = .ok (.bipush 48, 2) := by decide +kernel
theorem dX5_init_164 : decode cX5_init 164 = .ok (.newarray .int, 2) := by decide +kernel
theorem dX5_init_166 : decode cX5_init 166 = .ok (.putfield 74, 3) := by decide +kernel
theorem dX5_init_169 : decode cX5_init 169 = .ok (.aload_n 0, 1) := by decide +kernel
theorem dX5_init_170 : decode cX5_init 170 = .ok (.bipush 48, 2) := by decide +kernel
theorem dX5_init_172 : decode cX5_init 172 = .ok (.newarray .int, 2) := by decide +kernel
theorem dX5_init_174 : decode cX5_init 174 = .ok (.putfield 77, 3) := by decide +kernel
theorem dX5_init_177 : decode cX5_init 177 = .ok (.aload_n 0, 1) := by decide +kernel
theorem dX5_init_178 : decode cX5_init 178 = .ok (.bipush 68, 2) := by decide +kernel
theorem dX5_init_180 : decode cX5_init 180 = .ok (.newarray .int, 2) := by decide +kernel
theorem dX5_init_182 : decode cX5_init 182 = .ok (.putfield 80, 3) := by decide +kernel
theorem dX5_init_185 : decode cX5_init 185 = .ok (.aload_n 0, 1) := by decide +kernel
theorem dX5_init_186 : decode cX5_init 186 = .ok (.sipush 200, 3) := by decide +kernel
theorem dX5_init_189 : decode cX5_init 189 = .ok (.newarray .int, 2) := by decide +kernel
theorem dX5_init_191 : decode cX5_init 191 = .ok (.putfield 83, 3) := by decide +kernel
theorem dX5_init_194 : decode cX5_init 194 = .ok (.aload_n 0, 1) := by decide +kernel
theorem dX5_init_195 : decode cX5_init 195 = .ok (.bipush 68, 2) := by decide +kernel
theorem dX5_init_197 : decode cX5_init 197 = .ok (.newarray .int, 2) := by decide +kernel
theorem dX5_init_199 : decode cX5_init 199 = .ok (.putfield 86, 3) := by decide +kernel
theorem dX5_init_202 : decode cX5_init 202 = .ok (.iconst 0, 1) := by decide +kernel
theorem dX5_init_203 : decode cX5_init 203 = .ok (.istore_n 1, 1) := by decide +kernel
theorem dX5_init_204 : decode cX5_init 204 = .ok (.iload_n 1, 1) := by decide +kernel
theorem dX5_init_205 : decode cX5_init 205 = .ok (.bipush 30, 2) := by decide +kernel
theorem dX5_init_207 : decode cX5_init 207 = .ok (.if_icmp .ge 96, 3) := by decide +kernel
theorem dX5_init_210 : decode cX5_init 210 = .ok (.aload_n 0, 1) := by decide +kernel
theorem dX5_init_211 : decode cX5_init 211 = .ok (.getfield 7, 3) := by decide +kernel
theorem dX5_init_214 : decode cX5_init 214 = .ok (.iload_n 1, 1) := by decide +kernel
theorem dX5_init_215 : decode cX5_init 215 = .ok (.iload_n 1, 1) := by decide +kernel
theorem dX5_init_216 : decode cX5_init 216 = .ok (.iconst 2, 1) := by decide +kernel
theorem dX5_init_217 : decode cX5_init 217 = .ok (.if_icmp .eq 9, 3) := by decide +kernel
theorem dX5_init_220 : decode cX5_init 220 = .ok (.iload_n 1, 1) := by decide +kernel
theorem dX5_init_221 : decode cX5_init 221 = .ok (.bipush 15, 2) := by decide +kernel
theorem dX5_init_223 : decode cX5_init 223 = .ok (.if_icmp .ne 8, 3) := by decide +kernel
theorem dX5_init_226 : decode cX5_init 226 = .ok (.bipush 26, 2) := by decide +kernel
theorem dX5_init_228 : decode cX5_init 228 = .ok (.goto 68, 3) := by decide +kernel
theorem dX5_init_231 : decode cX5_init 231 = .ok (.iload_n 1, 1) := by decide +kernel
theorem dX5_init_232 : decode cX5_init 232 = .ok (.bipush 11, 2) := by decide +kernel
theorem dX5_init_234 : decode cX5_init 234 = .ok (.if_icmp .eq 9, 3) := by decide +kernel
theorem dX5_init_237 : decode cX5_init 237 = .ok (.iload_n 1, 1) := by decide +kernel
theorem dX5_init_238 : decode cX5_init 238 = .ok (.bipush 18, 2) := by decide +kernel
theorem dX5_init_240 : decode cX5_init 240 = .ok (.if_icmp .ne 8, 3) := by decide +kernel
theorem dX5_init_243 : decode cX5_init 243 = .ok (.bipush 27, 2) := by decide +kernel
theorem dX5_init_245 : decode cX5_init 245 = .ok (.goto 51, 3) := by decide +kernel
theorem dX5_init_248 : decode cX5_init 248 = .ok (.iload_n 1, 1) := by decide +kernel
theorem dX5_init_249 : decode cX5_init 249 = .ok (.iconst 2, 1) := by decide +kernel
theorem dX5_init_250 : decode cX5_init 250 = .ok (.if_icmp .ge 7, 3) := by decide +kernel
theorem dX5_init_253 : decode cX5_init 253 = .ok (.iload_n 1, 1) := by decide +kernel
theorem dX5_init_254 : decode cX5_init 254 = .ok (.goto 42, 3) := by decide +kernel
theorem dX5_init_257 : decode cX5_init 257 = .ok (.iload_n 1, 1) := by decide +kernel
theorem dX5_init_258 : decode cX5_init 258 = .ok (.bipush 11, 2) := by decide +kernel
theorem dX5_init_260 : decode cX5_init 260 = .ok (.if_icmp .ge 9, 3) := by decide +kernel
theorem dX5_init_263 : decode cX5_init 263 = .ok (.iload_n 1, 1) := by decide +kernel
theorem dX5_init_264 : decode cX5_init 264 = .ok (.iconst 1, 1) := by decide +kernel
theorem dX5_init_265 : decode cX5_init 265 = .ok (.isub, 1) := by decide +kernel
theorem dX5_init_266 : decode cX5_init 266 = .ok (.goto 30, 3) := by decide +kernel
theorem dX5_init_269 : decode cX5_init 269 = .ok (.iload_n 1, 1) := by decide +kernel
theorem dX5_init_270 : decode cX5_init 270 = .ok (.bipush 15, 2) := by decide +kernel
theorem dX5_init_272 : decode cX5_init 272 = .ok (.if_icmp .ge 9, 3) := by decide +kernel
theorem dX5_init_275 : decode cX5_init 275 = .ok (.iload_n 1, 1) := by decide +kernel
theorem dX5_init_276 : decode cX5_init 276 = .ok (.iconst 2, 1) := by decide +kernel
theorem dX5_init_277 : decode cX5_init 277 = .ok (.isub, 1) := by decide +kernel
theorem dX5_init_278 : decode cX5_init 278 = .ok (.goto 18, 3) := by decide +kernel
theorem dX5_init_281 : decode cX5_init 281 = .ok (.iload_n 1, 1) := by decide +kernel
theorem dX5_init_282 : decode cX5_init 282 = .ok (.bipush 18, 2) := by decide +kernel
theorem dX5_init_284 : decode cX5_init 284 = .ok (.if_icmp .ge 9, 3) := by decide +kernel
theorem dX5_init_287 : decode cX5_init 287 = .ok (.iload_n 1, 1) := by decide +kernel
theorem dX5_init_288 : decode cX5_init 288 = .ok (.iconst 3, 1) := by decide +kernel
theorem dX5_init_289 : decode cX5_init 289 = .ok (.isub, 1) := by decide +kernel
theorem dX5_init_290 : decode cX5_init 290 = .ok (.goto 6, 3) := by decide +kernel
theorem dX5_init_293 : decode cX5_init 293 = .ok (.iload_n 1, 1) := by decide +kernel
theorem dX5_init_294 : decode cX5_init 294 = .ok (.iconst 4, 1) := by decide +kernel
theorem dX5_init_295 : decode cX5_init 295 = .ok (.isub, 1) := by decide +kernel
theorem dX5_init_296 : decode cX5_init 296 = .ok (.iastore, 1) := by decide +kernel
theorem dX5_init_297 : decode cX5_init 297 = .ok (.iinc 1 1, 3) := by decide +kernel
theorem dX5_init_300 : decode cX5_init 300 = .ok (.goto (-96), 3) := by decide +kernel
theorem dX5_init_303 : decode cX5_init 303 = .ok (.aload_n 0, 1) := by decide +kernel
theorem dX5_init_304 : decode cX5_init 304 = .ok (.bipush 30, 2) := by decide +kernel
theorem dX5_init_306 : decode cX5_init 306 = .ok (.putfield 89, 3) := by decide +kernel
theorem dX5_init_309 : decode cX5_init 309 = .ok (.aload_n 0, 1) := by decide +kernel
theorem dX5_init_310 : decode cX5_init 310 = .ok (.bipush 6, 2) := by decide +kernel
theorem dX5_init_312 : decode cX5_init 312 = .ok (.bipush 9, 2) := by decide +kernel
theorem dX5_init_314 : decode cX5_init 314 = .ok (.iconst 1, 1) := by decide +kernel
theorem dX5_init_315 : decode cX5_init 315 = .ok (.invokevirtual 92, 3) := by decide +kernel
theorem dX5_init_318 : decode cX5_init 318 = .ok (.pop, 1) := by decide +kernel
theorem dX5_init_319 : decode cX5_init 319 = .ok (.aload_n 0, 1) := by decide +kernel
theorem dX5_init_320 : decode cX5_init 320 = .ok (.bipush 18, 2) := by decide +kernel
theorem dX5_init_322 : decode cX5_init 322 = .ok (.bipush 21, 2) := by decide +kernel
theorem dX5_init_324 : decode cX5_init 324 = .ok (.iconst 1, 1) := by decide +kernel
theorem dX5_init_325 : decode cX5_init 325 = .ok (.invokevirtual 92, 3) := by decide +kernel
theorem dX5_init_328 : decode cX5_init 328 = .ok (.pop, 1) := by decide +kernel
theorem dX5_init_329 : decode cX5_init 329 = .ok (.aload_n 0, 1) := by decide +kernel
theorem dX5_init_330 : decode cX5_init 330 = .ok (.iconst 3, 1) := by decide +kernel
theorem dX5_init_331 : decode cX5_init 331 = .ok (.iconst 2, 1) := by decide +kernel
theorem dX5_init_332 : decode cX5_init 332 = .ok (.invokevirtual 96, 3) := by decide +kernel
theorem dX5_init_335 : decode cX5_init 335 = .ok (.pop, 1) := by decide +kernel
theorem dX5_init_336 : decode cX5_init 336 = .ok (.aload_n 0, 1) := by decide +kernel
theorem dX5_init_337 : decode cX5_init 337 = .ok (.bipush 11, 2) := by decide +kernel
theorem dX5_init_339 : decode cX5_init 339 = .ok (.iconst 4, 1) := by decide +kernel
theorem dX5_init_340 : decode cX5_init 340 = .ok (.invokevirtual 96, 3) := by decide +kernel
theorem dX5_init_343 : decode cX5_init 343 = .ok (.pop, 1) := by decide +kernel
theorem dX5_init_344 : decode cX5_init 344 = .ok (.aload_n 0, 1) := by decide +kernel
theorem dX5_init_345 : decode cX5_init 345 = .ok (.iconst 2, 1) := by decide +kernel
theorem dX5_init_346 : decode cX5_init 346 = .ok (.putfield 28, 3) := by decide +kernel
theorem dX5_init_349 : decode cX5_init 349 = .ok (.aload_n 0, 1) := by decide +kernel
theorem dX5_init_350 : decode cX5_init 350 = .ok (.bipush 7, 2) := by decide +kernel
theorem dX5_init_352 : decode cX5_init 352 = .ok (.putfield 32, 3) := by decide +kernel
theorem dX5_init_355 : decode cX5_init 355 = .ok (.aload_n 0, 1) := by decide +kernel
theorem dX5_init_356 : decode cX5_init 356 = .ok (.iconst 1, 1) := by decide +kernel
theorem dX5_init_357 : decode cX5_init 357 = .ok (.putfield 100, 3) := by decide +kernel
theorem dX5_init_360 : decode cX5_init 360 = .ok (.aload_n 0, 1) := by decide +kernel
theorem dX5_init_361 : decode cX5_init 361 = .ok (.iconst 3, 1) := by decide +kernel
theorem dX5_init_362 : decode cX5_init 362 = .ok (.putfield 35, 3) := by decide +kernel
theorem dX5_init_365 : decode cX5_init 365 = .ok (.return_, 1) := by decide +kernel
theorem dX5_isPlace_0 : decode cX5_isPlace 0 = .ok (.iload_n 1, 1) := by decide +kernel
theorem dX5_isPlace_1 : decode cX5_isPlace 1 = .ok (.iconst 0, 1) := by decide +kernel
theorem dX5_isPlace_2 : decode cX5_isPlace 2 = .ok (.aload_n 0, 1) := by decide +kernel
theorem dX5_isPlace_3 : decode cX5_isPlace 3 = .ok (.getfield 89, 3) := by decide +kernel
theorem dX5_isPlace_6 : decode cX5_isPlace 6 = .ok (.invokestatic 103, 3) := by decide +kernel
theorem dX5_isPlace_9 : decode cX5_isPlace 9 = .ok (.ireturn, 1) := by decide +kernel
theorem dX5_isSign_0 : decode cX5_isSign 0 = .ok (.iload_n 1, 1) := by decide +kernel
theorem dX5_isSign_1 : decode cX5_isSign 1 = .ok (.iconst 0, 1) := by decide +kernel
theorem dX5_isSign_2 : decode cX5_isSign 2 = .ok (.aload_n 0, 1) := by decide +kernel
theorem dX5_isSign_3 : decode cX5_isSign 3 = .ok (.getfield 89, 3) := by decide +kernel
theorem dX5_isSign_6 : decode cX5_isSign 6 = .ok (.iconst 1, 1) := by decide +kernel
theorem dX5_isSign_7 : decode cX5_isSign 7 = .ok (.isub, 1) := by decide +kernel
theorem dX5_isSign_8 : decode cX5_isSign 8 = .ok (.invokestatic 103, 3) := by decide +kernel
theorem dX5_isSign_11 : decode cX5_isSign 11 = .ok (.ireturn, 1) := by decide +kernel
theorem dX5_isFold_0 : decode cX5_isFold 0 = .ok (.iload_n 1, 1) := by decide +kernel
theorem dX5_isFold_1 : decode cX5_isFold 1 = .ok (.iconst 0, 1) := by decide +kernel
theorem dX5_isFold_2 : decode cX5_isFold 2 = .ok (.aload_n 0, 1) := by decide +kernel
theorem dX5_isFold_3 : decode cX5_isFold 3 = .ok (.getfield 107, 3) := by decide +kernel
theorem dX5_isFold_6 : decode cX5_isFold 6 = .ok (.iconst 1, 1) := by decide +kernel
theorem dX5_isFold_7 : decode cX5_isFold 7 = .ok (.isub, 1) := by decide +kernel
theorem dX5_isFold_8 : decode cX5_isFold 8 = .ok (.invokestatic 103, 3) := by decide +kernel
theorem dX5_isFold_11 : decode cX5_isFold 11 = .ok (.ireturn, 1) := by decide +kernel
theorem dX5_isHint_0 : decode cX5_isHint 0 = .ok (.iload_n 1, 1) := by decide +kernel
theorem dX5_isHint_1 : decode cX5_isHint 1 = .ok (.iconst 0, 1) := by decide +kernel
theorem dX5_isHint_2 : decode cX5_isHint 2 = .ok (.aload_n 0, 1) := by decide +kernel
theorem dX5_isHint_3 : decode cX5_isHint 3 = .ok (.getfield 110, 3) := by decide +kernel
theorem dX5_isHint_6 : decode cX5_isHint 6 = .ok (.iconst 1, 1) := by decide +kernel
theorem dX5_isHint_7 : decode cX5_isHint 7 = .ok (.isub, 1) := by decide +kernel
theorem dX5_isHint_8 : decode cX5_isHint 8 = .ok (.invokestatic 103, 3) := by decide +kernel
theorem dX5_isHint_11 : decode cX5_isHint 11 = .ok (.ireturn, 1) := by decide +kernel
theorem dX5_comesFold_0 : decode cX5_comesFold 0 = .ok (.aload_n 0, 1) := by decide +kernel
theorem dX5_comesFold_1 : decode cX5_comesFold 1 = .ok (.getfield 107, 3) := by decide +kernel
theorem dX5_comesFold_4 : decode cX5_comesFold 4 = .ok (.istore 4, 2) := by decide +kernel
theorem dX5_comesFold_6 : decode cX5_comesFold 6 = .ok (.iload 4, 2) := by decide +kernel
theorem dX5_comesFold_8 : decode cX5_comesFold 8 = .ok (.ifCond .le 70, 3) := by decide +kernel
theorem dX5_comesFold_11 : decode cX5_comesFold 11 = .ok (.aload_n 0, 1) := by decide +kernel
theorem dX5_comesFold_12 : decode cX5_comesFold 12 = .ok (.getfield 13, 3) := by decide +kernel
theorem dX5_comesFold_15 : decode cX5_comesFold 15 = .ok (.iload 4, 2) := by decide +kernel
theorem dX5_comesFold_17 : decode cX5_comesFold 17 = .ok (.iconst 1, 1) := by decide +kernel
theorem dX5_comesFold_18 : decode cX5_comesFold 18 = .ok (.isub, 1) := by decide +kernel
theorem dX5_comesFold_19 : decode cX5_comesFold 19 = .ok (.iaload, 1) := by decide +kernel
theorem dX5_comesFold_20 : decode cX5_comesFold 20 = .ok (.iload_n 1, 1) := by decide +kernel
theorem dX5_comesFold_21 : decode cX5_comesFold 21 = .ok (.if_icmp .le 57, 3) := by decide +kernel
theorem dX5_comesFold_24 : decode cX5_comesFold 24 = .ok (.aload_n 0, 1) := by decide +kernel
theorem dX5_comesFold_25 : decode cX5_comesFold 25 = .ok (.getfield 13, 3) := by decide +kernel
theorem dX5_comesFold_28 : decode cX5_comesFold 28 = .ok (.iload 4, 2) := by decide +kernel
theorem dX5_comesFold_30 : decode cX5_comesFold 30 = .ok (.aload_n 0, 1) := by decide +kernel
theorem dX5_comesFold_31 : decode cX5_comesFold 31 = .ok (.getfield 13, 3) := by decide +kernel
theorem dX5_comesFold_34 : decode cX5_comesFold 34 = .ok (.iload 4, 2) := by decide +kernel
theorem dX5_comesFold_36 : decode cX5_comesFold 36 = .ok (.iconst 1, 1) := by decide +kernel
theorem dX5_comesFold_37 : decode cX5_comesFold 37 = .ok (.isub, 1) := by decide +kernel
theorem dX5_comesFold_38 : decode cX5_comesFold 38 = .ok (.iaload, 1) := by decide +kernel
theorem dX5_comesFold_39 : decode cX5_comesFold 39 = .ok (.iastore, 1) := by decide +kernel
theorem dX5_comesFold_40 : decode cX5_comesFold 40 = .ok (.aload_n 0, 1) := by decide +kernel
theorem dX5_comesFold_41 : decode cX5_comesFold 41 = .ok (.getfield 16, 3) := by decide +kernel
theorem dX5_comesFold_44 : decode cX5_comesFold 44 = .ok (.iload 4, 2) := by decide +kernel
theorem dX5_comesFold_46 : decode cX5_comesFold 46 = .ok (.aload_n 0, 1) := by decide +kernel
theorem dX5_comesFold_47 : decode cX5_comesFold 47 = .ok (.getfield 16, 3) := by decide +kernel
theorem dX5_comesFold_50 : decode cX5_comesFold 50 = .ok (.iload 4, 2) := by decide +kernel
theorem dX5_comesFold_52 : decode cX5_comesFold 52 = .ok (.iconst 1, 1) := by decide +kernel
theorem dX5_comesFold_53 : decode cX5_comesFold 53 = .ok (.isub, 1) := by decide +kernel
theorem dX5_comesFold_54 : decode cX5_comesFold 54 = .ok (.iaload, 1) := by decide +kernel
theorem dX5_comesFold_55 : decode cX5_comesFold 55 = .ok (.iastore, 1) := by decide +kernel
theorem dX5_comesFold_56 : decode cX5_comesFold 56 = .ok (.aload_n 0, 1) := by decide +kernel
theorem dX5_comesFold_57 : decode cX5_comesFold 57 = .ok (.getfield 19, 3) := by decide +kernel
theorem dX5_comesFold_60 : decode cX5_comesFold 60 = .ok (.iload 4, 2) := by decide +kernel
theorem dX5_comesFold_62 : decode cX5_comesFold 62 = .ok (.aload_n 0, 1) := by decide +kernel
theorem dX5_comesFold_63 : decode cX5_comesFold 63 = .ok (.getfield 19, 3) := by decide +kernel
theorem dX5_comesFold_66 : decode cX5_comesFold 66 = .ok (.iload 4, 2) := by decide +kernel
theorem dX5_comesFold_68 : decode cX5_comesFold 68 = .ok (.iconst 1, 1) := by decide +kernel
theorem dX5_comesFold_69 : decode cX5_comesFold 69 = .ok (.isub, 1) := by decide +kernel
theorem dX5_comesFold_70 : decode cX5_comesFold 70 = .ok (.iaload, 1) := by decide +kernel
theorem dX5_comesFold_71 : decode cX5_comesFold 71 = .ok (.iastore, 1) := by decide +kernel
theorem dX5_comesFold_72 : decode cX5_comesFold 72 = .ok (.iinc 4 (-1), 3) := by decide +kernel
theorem dX5_comesFold_75 : decode cX5_comesFold 75 = .ok (.goto (-69), 3) := by decide +kernel
theorem dX5_comesFold_78 : decode cX5_comesFold 78 = .ok (.aload_n 0, 1) := by decide +kernel
theorem dX5_comesFold_79 : decode cX5_comesFold 79 = .ok (.getfield 13, 3) := by decide +kernel
theorem dX5_comesFold_82 : decode cX5_comesFold 82 = .ok (.iload 4, 2) := by decide +kernel
theorem dX5_comesFold_84 : decode cX5_comesFold 84 = .ok (.iload_n 1, 1) := by decide +kernel
theorem dX5_comesFold_85 : decode cX5_comesFold 85 = .ok (.iastore, 1) := by decide +kernel
theorem dX5_comesFold_86 : decode cX5_comesFold 86 = .ok (.aload_n 0, 1) := by decide +kernel
theorem dX5_comesFold_87 : decode cX5_comesFold 87 = .ok (.getfield 16, 3) := by decide +kernel
theorem dX5_comesFold_90 : decode cX5_comesFold 90 = .ok (.iload 4, 2) := by decide +kernel
theorem dX5_comesFold_92 : decode cX5_comesFold 92 = .ok (.iload_n 2, 1) := by decide +kernel
theorem dX5_comesFold_93 : decode cX5_comesFold 93 = .ok (.iastore, 1) := by decide +kernel
theorem dX5_comesFold_94 : decode cX5_comesFold 94 = .ok (.aload_n 0, 1) := by decide +kernel
theorem dX5_comesFold_95 : decode cX5_comesFold 95 = .ok (.getfield 19, 3) := by decide +kernel
theorem dX5_comesFold_98 : decode cX5_comesFold 98 = .ok (.iload 4, 2) := by decide +kernel
theorem dX5_comesFold_100 : decode cX5_comesFold 100 = .ok (.iload_n 3, 1) := by decide +kernel
theorem dX5_comesFold_101 : decode cX5_comesFold 101 = .ok (.iastore, 1) := by decide +kernel
theorem dX5_comesFold_102 : decode cX5_comesFold 102 = .ok (.aload_n 0, 1) := by decide +kernel
theorem dX5_comesFold_103 : decode cX5_comesFold 103 = .ok (.dup, 1) := by decide +kernel
theorem dX5_comesFold_104 : decode cX5_comesFold 104 = .ok (.getfield 107, 3) := by decide +kernel
theorem dX5_comesFold_107 : decode cX5_comesFold 107 = .ok (.iconst 1, 1) := by decide +kernel
theorem dX5_comesFold_108 : decode cX5_comesFold 108 = .ok (.iadd, 1) := by decide +kernel
theorem dX5_comesFold_109 : decode cX5_comesFold 109 = .ok (.putfield 107, 3) := by decide +kernel
theorem dX5_comesFold_112 : decode cX5_comesFold 112 = .ok (.iload 4, 2) := by decide +kernel
theorem dX5_comesFold_114 : decode cX5_comesFold 114 = .ok (.ireturn, 1) := by decide +kernel
theorem dX5_goesFold_0 : decode cX5_goesFold 0 = .ok (.aload_n 0, 1) := by decide +kernel
theorem dX5_goesFold_1 : decode cX5_goesFold 1 = .ok (.dup, 1) := by decide +kernel
theorem dX5_goesFold_2 : decode cX5_goesFold 2 = .ok (.getfield 107, 3) := by decide +kernel
theorem dX5_goesFold_5 : decode cX5_goesFold 5 = .ok (.iconst 1, 1) := by decide +kernel
theorem dX5_goesFold_6 : decode cX5_goesFold 6 = .ok (.isub, 1) := by decide +kernel
theorem dX5_goesFold_7 : decode cX5_goesFold 7 = .ok (.putfield 107, 3) := by decide +kernel
theorem dX5_goesFold_10 : decode cX5_goesFold 10 = .ok (.iload_n 1, 1) := by decide +kernel
theorem dX5_goesFold_11 : decode cX5_goesFold 11 = .ok (.istore_n 2, 1) := by decide +kernel
theorem dX5_goesFold_12 : decode cX5_goesFold 12 = .ok (.iload_n 2, 1) := by decide +kernel
theorem dX5_goesFold_13 : decode cX5_goesFold 13 = .ok (.aload_n 0, 1) := by decide +kernel
theorem dX5_goesFold_14 : decode cX5_goesFold 14 = .ok (.getfield 107, 3) := by decide +kernel
theorem dX5_goesFold_17 : decode cX5_goesFold 17 = .ok (.if_icmp .ge 51, 3) := by decide +kernel
theorem dX5_goesFold_20 : decode cX5_goesFold 20 = .ok (.aload_n 0, 1) := by decide +kernel
theorem dX5_goesFold_21 : decode cX5_goesFold 21 = .ok (.getfield 13, 3) := by decide +kernel
theorem dX5_goesFold_24 : decode cX5_goesFold 24 = .ok (.iload_n 2, 1) := by decide +kernel
theorem dX5_goesFold_25 : decode cX5_goesFold 25 = .ok (.aload_n 0, 1) := by decide +kernel
theorem dX5_goesFold_26 : decode cX5_goesFold 26 = .ok (.getfield 13, 3) := by decide +kernel
theorem dX5_goesFold_29 : decode cX5_goesFold 29 = .ok (.iload_n 2, 1) := by decide +kernel
theorem dX5_goesFold_30 : decode cX5_goesFold 30 = .ok (.iconst 1, 1) := by decide +kernel
theorem dX5_goesFold_31 : decode cX5_goesFold 31 = .ok (.iadd, 1) := by decide +kernel
theorem dX5_goesFold_32 : decode cX5_goesFold 32 = .ok (.iaload, 1) := by decide +kernel
theorem dX5_goesFold_33 : decode cX5_goesFold 33 = .ok (.iastore, 1) := by decide +kernel
theorem dX5_goesFold_34 : decode cX5_goesFold 34 = .ok (.aload_n 0, 1) := by decide +kernel
theorem dX5_goesFold_35 : decode cX5_goesFold 35 = .ok (.getfield 16, 3) := by decide +kernel
theorem dX5_goesFold_38 : decode cX5_goesFold 38 = .ok (.iload_n 2, 1) := by decide +kernel
theorem dX5_goesFold_39 : decode cX5_goesFold 39 = .ok (.aload_n 0, 1) := by decide +kernel
theorem dX5_goesFold_40 : decode cX5_goesFold 40 = .ok (.getfield 16, 3) := by decide +kernel
theorem dX5_goesFold_43 : decode cX5_goesFold 43 = .ok (.iload_n 2, 1) := by decide +kernel
theorem dX5_goesFold_44 : decode cX5_goesFold 44 = .ok (.iconst 1, 1) := by decide +kernel
theorem dX5_goesFold_45 : decode cX5_goesFold 45 = .ok (.iadd, 1) := by decide +kernel
theorem dX5_goesFold_46 : decode cX5_goesFold 46 = .ok (.iaload, 1) := by decide +kernel
theorem dX5_goesFold_47 : decode cX5_goesFold 47 = .ok (.iastore, 1) := by decide +kernel
theorem dX5_goesFold_48 : decode cX5_goesFold 48 = .ok (.aload_n 0, 1) := by decide +kernel
theorem dX5_goesFold_49 : decode cX5_goesFold 49 = .ok (.getfield 19, 3) := by decide +kernel
theorem dX5_goesFold_52 : decode cX5_goesFold 52 = .ok (.iload_n 2, 1) := by decide +kernel
theorem dX5_goesFold_53 : decode cX5_goesFold 53 = .ok (.aload_n 0, 1) := by decide +kernel
theorem dX5_goesFold_54 : decode cX5_goesFold 54 = .ok (.getfield 19, 3) := by decide +kernel
theorem dX5_goesFold_57 : decode cX5_goesFold 57 = .ok (.iload_n 2, 1) := by decide +kernel
theorem dX5_goesFold_58 : decode cX5_goesFold 58 = .ok (.iconst 1, 1) := by decide +kernel
theorem dX5_goesFold_59 : decode cX5_goesFold 59 = .ok (.iadd, 1) := by decide +kernel
theorem dX5_goesFold_60 : decode cX5_goesFold 60 = .ok (.iaload, 1) := by decide +kernel
theorem dX5_goesFold_61 : decode cX5_goesFold 61 = .ok (.iastore, 1) := by decide +kernel
theorem dX5_goesFold_62 : decode cX5_goesFold 62 = .ok (.iinc 2 1, 3) := by decide +kernel
theorem dX5_goesFold_65 : decode cX5_goesFold 65 = .ok (.goto (-53), 3) := by decide +kernel
theorem dX5_goesFold_68 : decode cX5_goesFold 68 = .ok (.return_, 1) := by decide +kernel
theorem dX5_comesHint_0 : decode cX5_comesHint 0 = .ok (.aload_n 0, 1) := by decide +kernel
theorem dX5_comesHint_1 : decode cX5_comesHint 1 = .ok (.getfield 110, 3) := by decide +kernel
theorem dX5_comesHint_4 : decode cX5_comesHint 4 = .ok (.istore_n 3, 1) := by decide +kernel
theorem dX5_comesHint_5 : decode cX5_comesHint 5 = .ok (.iload_n 3, 1) := by decide +kernel
theorem dX5_comesHint_6 : decode cX5_comesHint 6 = .ok (.ifCond .le 49, 3) := by decide +kernel
theorem dX5_comesHint_9 : decode cX5_comesHint 9 = .ok (.aload_n 0, 1) := by decide +kernel
theorem dX5_comesHint_10 : decode cX5_comesHint 10 = .ok (.getfield 22, 3) := by decide +kernel
theorem dX5_comesHint_13 : decode cX5_comesHint 13 = .ok (.iload_n 3, 1) := by decide +kernel
theorem dX5_comesHint_14 : decode cX5_comesHint 14 = .ok (.iconst 1, 1) := by decide +kernel
theorem dX5_comesHint_15 : decode cX5_comesHint 15 = .ok (.isub, 1) := by decide +kernel
theorem dX5_comesHint_16 : decode cX5_comesHint 16 = .ok (.iaload, 1) := by decide +kernel
theorem dX5_comesHint_17 : decode cX5_comesHint 17 = .ok (.iload_n 1, 1) := by decide +kernel
theorem dX5_comesHint_18 : decode cX5_comesHint 18 = .ok (.if_icmp .le 37, 3) := by decide +kernel
theorem dX5_comesHint_21 : decode cX5_comesHint 21 = .ok (.aload_n 0, 1) := by decide +kernel
theorem dX5_comesHint_22 : decode cX5_comesHint 22 = .ok (.getfield 22, 3) := by decide +kernel
theorem dX5_comesHint_25 : decode cX5_comesHint 25 = .ok (.iload_n 3, 1) := by decide +kernel
theorem dX5_comesHint_26 : decode cX5_comesHint 26 = .ok (.aload_n 0, 1) := by decide +kernel
theorem dX5_comesHint_27 : decode cX5_comesHint 27 = .ok (.getfield 22, 3) := by decide +kernel
theorem dX5_comesHint_30 : decode cX5_comesHint 30 = .ok (.iload_n 3, 1) := by decide +kernel
theorem dX5_comesHint_31 : decode cX5_comesHint 31 = .ok (.iconst 1, 1) := by decide +kernel
theorem dX5_comesHint_32 : decode cX5_comesHint 32 = .ok (.isub, 1) := by decide +kernel
theorem dX5_comesHint_33 : decode cX5_comesHint 33 = .ok (.iaload, 1) := by decide +kernel
theorem dX5_comesHint_34 : decode cX5_comesHint 34 = .ok (.iastore, 1) := by decide +kernel
theorem dX5_comesHint_35 : decode cX5_comesHint 35 = .ok (.aload_n 0, 1) := by decide +kernel
theorem dX5_comesHint_36 : decode cX5_comesHint 36 = .ok (.getfield 25, 3) := by decide +kernel
theorem dX5_comesHint_39 : decode cX5_comesHint 39 = .ok (.iload_n 3, 1) := by decide +kernel
theorem dX5_comesHint_40 : decode cX5_comesHint 40 = .ok (.aload_n 0, 1) := by decide +kernel
theorem dX5_comesHint_41 : decode cX5_comesHint 41 = .ok (.getfield 25, 3) := by decide +kernel
theorem dX5_comesHint_44 : decode cX5_comesHint 44 = .ok (.iload_n 3, 1) := by decide +kernel
theorem dX5_comesHint_45 : decode cX5_comesHint 45 = .ok (.iconst 1, 1) := by decide +kernel
theorem dX5_comesHint_46 : decode cX5_comesHint 46 = .ok (.isub, 1) := by decide +kernel
theorem dX5_comesHint_47 : decode cX5_comesHint 47 = .ok (.iaload, 1) := by decide +kernel
theorem dX5_comesHint_48 : decode cX5_comesHint 48 = .ok (.iastore, 1) := by decide +kernel
theorem dX5_comesHint_49 : decode cX5_comesHint 49 = .ok (.iinc 3 (-1), 3) := by decide +kernel
theorem dX5_comesHint_52 : decode cX5_comesHint 52 = .ok (.goto (-47), 3) := by decide +kernel
theorem dX5_comesHint_55 : decode cX5_comesHint 55 = .ok (.aload_n 0, 1) := by decide +kernel
theorem dX5_comesHint_56 : decode cX5_comesHint 56 = .ok (.getfield 22, 3) := by decide +kernel
theorem dX5_comesHint_59 : decode cX5_comesHint 59 = .ok (.iload_n 3, 1) := by decide +kernel
theorem dX5_comesHint_60 : decode cX5_comesHint 60 = .ok (.iload_n 1, 1) := by decide +kernel
theorem dX5_comesHint_61 : decode cX5_comesHint 61 = .ok (.iastore, 1) := by decide +kernel
theorem dX5_comesHint_62 : decode cX5_comesHint 62 = .ok (.aload_n 0, 1) := by decide +kernel
theorem dX5_comesHint_63 : decode cX5_comesHint 63 = .ok (.getfield 25, 3) := by decide +kernel
theorem dX5_comesHint_66 : decode cX5_comesHint 66 = .ok (.iload_n 3, 1) := by decide +kernel
theorem dX5_comesHint_67 : decode cX5_comesHint 67 = .ok (.iload_n 2, 1) := by decide +kernel
theorem dX5_comesHint_68 : decode cX5_comesHint 68 = .ok (.iastore, 1) := by decide +kernel
theorem dX5_comesHint_69 : decode cX5_comesHint 69 = .ok (.aload_n 0, 1) := by decide +kernel
theorem dX5_comesHint_70 : decode cX5_comesHint 70 = .ok (.dup, 1) := by decide +kernel
theorem dX5_comesHint_71 : decode cX5_comesHint 71 = .ok (.getfield 110, 3) := by decide +kernel
theorem dX5_comesHint_74 : decode cX5_comesHint 74 = .ok (.iconst 1, 1) := by decide +kernel
theorem dX5_comesHint_75 : decode cX5_comesHint 75 = .ok (.iadd, 1) := by decide +kernel
theorem dX5_comesHint_76 : decode cX5_comesHint 76 = .ok (.putfield 110, 3) := by decide +kernel
theorem dX5_comesHint_79 : decode cX5_comesHint 79 = .ok (.iload_n 3, 1) := by decide +kernel
theorem dX5_comesHint_80 : decode cX5_comesHint 80 = .ok (.ireturn, 1) := by decide +kernel
theorem dX5_goesHint_0 : decode cX5_goesHint 0 = .ok (.aload_n 0, 1) := by decide +kernel
theorem dX5_goesHint_1 : decode cX5_goesHint 1 = .ok (.dup, 1) := by decide +kernel
theorem dX5_goesHint_2 : decode cX5_goesHint 2 = .ok (.getfield 110, 3) := by decide +kernel
theorem dX5_goesHint_5 : decode cX5_goesHint 5 = .ok (.iconst 1, 1) := by decide +kernel
theorem dX5_goesHint_6 : decode cX5_goesHint 6 = .ok (.isub, 1) := by decide +kernel
theorem dX5_goesHint_7 : decode cX5_goesHint 7 = .ok (.putfield 110, 3) := by decide +kernel
theorem dX5_goesHint_10 : decode cX5_goesHint 10 = .ok (.iload_n 1, 1) := by decide +kernel
theorem dX5_goesHint_11 : decode cX5_goesHint 11 = .ok (.istore_n 2, 1) := by decide +kernel
theorem dX5_goesHint_12 : decode cX5_goesHint 12 = .ok (.iload_n 2, 1) := by decide +kernel
theorem dX5_goesHint_13 : decode cX5_goesHint 13 = .ok (.aload_n 0, 1) := by decide +kernel
theorem dX5_goesHint_14 : decode cX5_goesHint 14 = .ok (.getfield 110, 3) := by decide +kernel
theorem dX5_goesHint_17 : decode cX5_goesHint 17 = .ok (.if_icmp .ge 37, 3) := by decide +kernel
theorem dX5_goesHint_20 : decode cX5_goesHint 20 = .ok (.aload_n 0, 1) := by decide +kernel
theorem dX5_goesHint_21 : decode cX5_goesHint 21 = .ok (.getfield 22, 3) := by decide +kernel
theorem dX5_goesHint_24 : decode cX5_goesHint 24 = .ok (.iload_n 2, 1) := by decide +kernel
theorem dX5_goesHint_25 : decode cX5_goesHint 25 = .ok (.aload_n 0, 1) := by decide +kernel
theorem dX5_goesHint_26 : decode cX5_goesHint 26 = .ok (.getfield 22, 3) := by decide +kernel
theorem dX5_goesHint_29 : decode cX5_goesHint 29 = .ok (.iload_n 2, 1) := by decide +kernel
theorem dX5_goesHint_30 : decode cX5_goesHint 30 = .ok (.iconst 1, 1) := by decide +kernel
theorem dX5_goesHint_31 : decode cX5_goesHint 31 = .ok (.iadd, 1) := by decide +kernel
theorem dX5_goesHint_32 : decode cX5_goesHint 32 = .ok (.iaload, 1) := by decide +kernel
theorem dX5_goesHint_33 : decode cX5_goesHint 33 = .ok (.iastore, 1) := by decide +kernel
theorem dX5_goesHint_34 : decode cX5_goesHint 34 = .ok (.aload_n 0, 1) := by decide +kernel
theorem dX5_goesHint_35 : decode cX5_goesHint 35 = .ok (.getfield 25, 3) := by decide +kernel
theorem dX5_goesHint_38 : decode cX5_goesHint 38 = .ok (.iload_n 2, 1) := by decide +kernel
theorem dX5_goesHint_39 : decode cX5_goesHint 39 = .ok (.aload_n 0, 1) := by decide +kernel
theorem dX5_goesHint_40 : decode cX5_goesHint 40 = .ok (.getfield 25, 3) := by decide +kernel
theorem dX5_goesHint_43 : decode cX5_goesHint 43 = .ok (.iload_n 2, 1) := by decide +kernel
theorem dX5_goesHint_44 : decode cX5_goesHint 44 = .ok (.iconst 1, 1) := by decide +kernel
theorem dX5_goesHint_45 : decode cX5_goesHint 45 = .ok (.iadd, 1) := by decide +kernel
theorem dX5_goesHint_46 : decode cX5_goesHint 46 = .ok (.iaload, 1) := by decide +kernel
theorem dX5_goesHint_47 : decode cX5_goesHint 47 = .ok (.iastore, 1) := by decide +kernel
theorem dX5_goesHint_48 : decode cX5_goesHint 48 = .ok (.iinc 2 1, 3) := by decide +kernel
theorem dX5_goesHint_51 : decode cX5_goesHint 51 = .ok (.goto (-39), 3) := by decide +kernel
theorem dX5_goesHint_54 : decode cX5_goesHint 54 = .ok (.return_, 1) := by decide +kernel
theorem dX5_isApart_0 : decode cX5_isApart 0 = .ok (.iconst 1, 1) := by decide +kernel
theorem dX5_isApart_1 : decode cX5_isApart 1 = .ok (.istore_n 3, 1) := by decide +kernel
theorem dX5_isApart_2 : decode cX5_isApart 2 = .ok (.iconst 0, 1) := by decide +kernel
theorem dX5_isApart_3 : decode cX5_isApart 3 = .ok (.istore 4, 2) := by decide +kernel
theorem dX5_isApart_5 : decode cX5_isApart 5 = .ok (.iload 4, 2) := by decide +kernel
theorem dX5_isApart_7 : decode cX5_isApart 7 = .ok (.aload_n 0, 1) := by decide +kernel
theorem dX5_isApart_8 : decode cX5_isApart 8 = .ok (.getfield 107, 3) := by decide +kernel
theorem dX5_isApart_11 : decode cX5_isApart 11 = .ok (.if_icmp .ge 41, 3) := by decide +kernel
theorem dX5_isApart_14 : decode cX5_isApart 14 = .ok (.iload_n 3, 1) := by decide +kernel
theorem dX5_isApart_15 : decode cX5_isApart 15 = .ok (.ifCond .eq 29, 3) := by decide +kernel
theorem dX5_isApart_18 : decode cX5_isApart 18 = .ok (.iload_n 2, 1) := by decide +kernel
theorem dX5_isApart_19 : decode cX5_isApart 19 = .ok (.aload_n 0, 1) := by decide +kernel
theorem dX5_isApart_20 : decode cX5_isApart 20 = .ok (.getfield 13, 3) := by decide +kernel
theorem dX5_isApart_23 : decode cX5_isApart 23 = .ok (.iload 4, 2) := by decide +kernel
theorem dX5_isApart_25 : decode cX5_isApart 25 = .ok (.iaload, 1) := by decide +kernel
theorem dX5_isApart_26 : decode cX5_isApart 26 = .ok (.if_icmp .le 14, 3) := by decide +kernel
theorem dX5_isApart_29 : decode cX5_isApart 29 = .ok (.iload_n 1, 1) := by decide +kernel
theorem dX5_isApart_30 : decode cX5_isApart 30 = .ok (.aload_n 0, 1) := by decide +kernel
theorem dX5_isApart_31 : decode cX5_isApart 31 = .ok (.getfield 16, 3) := by decide +kernel
theorem dX5_isApart_34 : decode cX5_isApart 34 = .ok (.iload 4, 2) := by decide +kernel
theorem dX5_isApart_36 : decode cX5_isApart 36 = .ok (.iaload, 1) := by decide +kernel
theorem dX5_isApart_37 : decode cX5_isApart 37 = .ok (.if_icmp .lt 7, 3) := by decide +kernel
theorem dX5_isApart_40 : decode cX5_isApart 40 = .ok (.iconst 1, 1) := by decide +kernel
theorem dX5_isApart_41 : decode cX5_isApart 41 = .ok (.goto 4, 3) := by decide +kernel
theorem dX5_isApart_44 : decode cX5_isApart 44 = .ok (.iconst 0, 1) := by decide +kernel
theorem dX5_isApart_45 : decode cX5_isApart 45 = .ok (.istore_n 3, 1) := by decide +kernel
theorem dX5_isApart_46 : decode cX5_isApart 46 = .ok (.iinc 4 1, 3) := by decide +kernel
theorem dX5_isApart_49 : decode cX5_isApart 49 = .ok (.goto (-44), 3) := by decide +kernel
theorem dX5_isApart_52 : decode cX5_isApart 52 = .ok (.iload_n 3, 1) := by decide +kernel
theorem dX5_isApart_53 : decode cX5_isApart 53 = .ok (.ireturn, 1) := by decide +kernel
theorem dX5_hintOf_0 : decode cX5_hintOf 0 = .ok (.bipush (-4), 2) := by decide +kernel
theorem dX5_hintOf_2 : decode cX5_hintOf 2 = .ok (.istore_n 2, 1) := by decide +kernel
theorem dX5_hintOf_3 : decode cX5_hintOf 3 = .ok (.iconst 0, 1) := by decide +kernel
theorem dX5_hintOf_4 : decode cX5_hintOf 4 = .ok (.istore_n 3, 1) := by decide +kernel
theorem dX5_hintOf_5 : decode cX5_hintOf 5 = .ok (.iload_n 3, 1) := by decide +kernel
theorem dX5_hintOf_6 : decode cX5_hintOf 6 = .ok (.aload_n 0, 1) := by decide +kernel
theorem dX5_hintOf_7 : decode cX5_hintOf 7 = .ok (.getfield 110, 3) := by decide +kernel
theorem dX5_hintOf_10 : decode cX5_hintOf 10 = .ok (.if_icmp .ge 25, 3) := by decide +kernel
theorem dX5_hintOf_13 : decode cX5_hintOf 13 = .ok (.aload_n 0, 1) := by decide +kernel
theorem dX5_hintOf_14 : decode cX5_hintOf 14 = .ok (.getfield 22, 3) := by decide +kernel
theorem dX5_hintOf_17 : decode cX5_hintOf 17 = .ok (.iload_n 3, 1) := by decide +kernel
theorem dX5_hintOf_18 : decode cX5_hintOf 18 = .ok (.iaload, 1) := by decide +kernel
theorem dX5_hintOf_19 : decode cX5_hintOf 19 = .ok (.iload_n 1, 1) := by decide +kernel
theorem dX5_hintOf_20 : decode cX5_hintOf 20 = .ok (.if_icmp .ne 7, 3) := by decide +kernel
theorem dX5_hintOf_23 : decode cX5_hintOf 23 = .ok (.iload_n 3, 1) := by decide +kernel
theorem dX5_hintOf_24 : decode cX5_hintOf 24 = .ok (.goto 4, 3) := by decide +kernel
theorem dX5_hintOf_27 : decode cX5_hintOf 27 = .ok (.iload_n 2, 1) := by decide +kernel
theorem dX5_hintOf_28 : decode cX5_hintOf 28 = .ok (.istore_n 2, 1) := by decide +kernel
theorem dX5_hintOf_29 : decode cX5_hintOf 29 = .ok (.iinc 3 1, 3) := by decide +kernel
theorem dX5_hintOf_32 : decode cX5_hintOf 32 = .ok (.goto (-27), 3) := by decide +kernel
theorem dX5_hintOf_35 : decode cX5_hintOf 35 = .ok (.iload_n 2, 1) := by decide +kernel
theorem dX5_hintOf_36 : decode cX5_hintOf 36 = .ok (.ireturn, 1) := by decide +kernel
theorem dX5_shutOf_0 : decode cX5_shutOf 0 = .ok (.bipush (-4), 2) := by decide +kernel
theorem dX5_shutOf_2 : decode cX5_shutOf 2 = .ok (.istore_n 2, 1) := by decide +kernel
theorem dX5_shutOf_3 : decode cX5_shutOf 3 = .ok (.iconst 0, 1) := by decide +kernel
theorem dX5_shutOf_4 : decode cX5_shutOf 4 = .ok (.istore_n 3, 1) := by decide +kernel
theorem dX5_shutOf_5 : decode cX5_shutOf 5 = .ok (.iload_n 3, 1) := by decide +kernel
theorem dX5_shutOf_6 : decode cX5_shutOf 6 = .ok (.aload_n 0, 1) := by decide +kernel
theorem dX5_shutOf_7 : decode cX5_shutOf 7 = .ok (.getfield 107, 3) := by decide +kernel
theorem dX5_shutOf_10 : decode cX5_shutOf 10 = .ok (.if_icmp .ge 46, 3) := by decide +kernel
theorem dX5_shutOf_13 : decode cX5_shutOf 13 = .ok (.aload_n 0, 1) := by decide +kernel
theorem dX5_shutOf_14 : decode cX5_shutOf 14 = .ok (.getfield 19, 3) := by decide +kernel
theorem dX5_shutOf_17 : decode cX5_shutOf 17 = .ok (.iload_n 3, 1) := by decide +kernel
theorem dX5_shutOf_18 : decode cX5_shutOf 18 = .ok (.iaload, 1) := by decide +kernel
theorem dX5_shutOf_19 : decode cX5_shutOf 19 = .ok (.iconst 1, 1) := by decide +kernel
theorem dX5_shutOf_20 : decode cX5_shutOf 20 = .ok (.if_icmp .ne 28, 3) := by decide +kernel
theorem dX5_shutOf_23 : decode cX5_shutOf 23 = .ok (.iload_n 1, 1) := by decide +kernel
theorem dX5_shutOf_24 : decode cX5_shutOf 24 = .ok (.aload_n 0, 1) := by decide +kernel
theorem dX5_shutOf_25 : decode cX5_shutOf 25 = .ok (.getfield 13, 3) := by decide +kernel
theorem dX5_shutOf_28 : decode cX5_shutOf 28 = .ok (.iload_n 3, 1) := by decide +kernel
theorem dX5_shutOf_29 : decode cX5_shutOf 29 = .ok (.iaload, 1) := by decide +kernel
theorem dX5_shutOf_30 : decode cX5_shutOf 30 = .ok (.aload_n 0, 1) := by decide +kernel
theorem dX5_shutOf_31 : decode cX5_shutOf 31 = .ok (.getfield 16, 3) := by decide +kernel
theorem dX5_shutOf_34 : decode cX5_shutOf 34 = .ok (.iload_n 3, 1) := by decide +kernel
theorem dX5_shutOf_35 : decode cX5_shutOf 35 = .ok (.iaload, 1) := by decide +kernel
theorem dX5_shutOf_36 : decode cX5_shutOf 36 = .ok (.iconst 1, 1) := by decide +kernel
theorem dX5_shutOf_37 : decode cX5_shutOf 37 = .ok (.isub, 1) := by decide +kernel
theorem dX5_shutOf_38 : decode cX5_shutOf 38 = .ok (.invokestatic 103, 3) := by decide +kernel
theorem dX5_shutOf_41 : decode cX5_shutOf 41 = .ok (.ifCond .eq 7, 3) := by decide +kernel
theorem dX5_shutOf_44 : decode cX5_shutOf 44 = .ok (.iload_n 3, 1) := by decide +kernel
theorem dX5_shutOf_45 : decode cX5_shutOf 45 = .ok (.goto 4, 3) := by decide +kernel
theorem dX5_shutOf_48 : decode cX5_shutOf 48 = .ok (.iload_n 2, 1) := by decide +kernel
theorem dX5_shutOf_49 : decode cX5_shutOf 49 = .ok (.istore_n 2, 1) := by decide +kernel
theorem dX5_shutOf_50 : decode cX5_shutOf 50 = .ok (.iinc 3 1, 3) := by decide +kernel
theorem dX5_shutOf_53 : decode cX5_shutOf 53 = .ok (.goto (-48), 3) := by decide +kernel
theorem dX5_shutOf_56 : decode cX5_shutOf 56 = .ok (.iload_n 2, 1) := by decide +kernel
theorem dX5_shutOf_57 : decode cX5_shutOf 57 = .ok (.ireturn, 1) := by decide +kernel
theorem dX5_isShown_0 : decode cX5_isShown 0 = .ok (.aload_n 0, 1) := by decide +kernel
theorem dX5_isShown_1 : decode cX5_isShown 1 = .ok (.iload_n 1, 1) := by decide +kernel
theorem dX5_isShown_2 : decode cX5_isShown 2 = .ok (.invokevirtual 113, 3) := by decide +kernel
theorem dX5_isShown_5 : decode cX5_isShown 5 = .ok (.istore_n 2, 1) := by decide +kernel
theorem dX5_isShown_6 : decode cX5_isShown 6 = .ok (.iload_n 2, 1) := by decide +kernel
theorem dX5_isShown_7 : decode cX5_isShown 7 = .ok (.bipush (-4), 2) := by decide +kernel
theorem dX5_isShown_9 : decode cX5_isShown 9 = .ok (.if_icmp .eq 13, 3) := by decide +kernel
theorem dX5_isShown_12 : decode cX5_isShown 12 = .ok (.aload_n 0, 1) := by decide +kernel
theorem dX5_isShown_13 : decode cX5_isShown 13 = .ok (.getfield 13, 3) := by decide +kernel
theorem dX5_isShown_16 : decode cX5_isShown 16 = .ok (.iload_n 2, 1) := by decide +kernel
theorem dX5_isShown_17 : decode cX5_isShown 17 = .ok (.iaload, 1) := by decide +kernel
theorem dX5_isShown_18 : decode cX5_isShown 18 = .ok (.iload_n 1, 1) := by decide +kernel
theorem dX5_isShown_19 : decode cX5_isShown 19 = .ok (.if_icmp .ne 7, 3) := by decide +kernel
theorem dX5_isShown_22 : decode cX5_isShown 22 = .ok (.iconst 1, 1) := by decide +kernel
theorem dX5_isShown_23 : decode cX5_isShown 23 = .ok (.goto 4, 3) := by decide +kernel
theorem dX5_isShown_26 : decode cX5_isShown 26 = .ok (.iconst 0, 1) := by decide +kernel
theorem dX5_isShown_27 : decode cX5_isShown 27 = .ok (.ireturn, 1) := by decide +kernel
theorem dX5_comesPiece_0 : decode cX5_comesPiece 0 = .ok (.aload_n 0, 1) := by decide +kernel
theorem dX5_comesPiece_1 : decode cX5_comesPiece 1 = .ok (.getfield 38, 3) := by decide +kernel
theorem dX5_comesPiece_4 : decode cX5_comesPiece 4 = .ok (.aload_n 0, 1) := by decide +kernel
theorem dX5_comesPiece_5 : decode cX5_comesPiece 5 = .ok (.getfield 117, 3) := by decide +kernel
theorem dX5_comesPiece_8 : decode cX5_comesPiece 8 = .ok (.iload_n 1, 1) := by decide +kernel
theorem dX5_comesPiece_9 : decode cX5_comesPiece 9 = .ok (.iastore, 1) := by decide +kernel
theorem dX5_comesPiece_10 : decode cX5_comesPiece 10 = .ok (.aload_n 0, 1) := by decide +kernel
theorem dX5_comesPiece_11 : decode cX5_comesPiece 11 = .ok (.getfield 41, 3) := by decide +kernel
theorem dX5_comesPiece_14 : decode cX5_comesPiece 14 = .ok (.aload_n 0, 1) := by decide +kernel
theorem dX5_comesPiece_15 : decode cX5_comesPiece 15 = .ok (.getfield 117, 3) := by decide +kernel
theorem dX5_comesPiece_18 : decode cX5_comesPiece 18 = .ok (.iload_n 2, 1) := by decide +kernel
theorem dX5_comesPiece_19 : decode cX5_comesPiece 19 = .ok (.iastore, 1) := by decide +kernel
theorem dX5_comesPiece_20 : decode cX5_comesPiece 20 = .ok (.aload_n 0, 1) := by decide +kernel
theorem dX5_comesPiece_21 : decode cX5_comesPiece 21 = .ok (.getfield 50, 3) := by decide +kernel
theorem dX5_comesPiece_24 : decode cX5_comesPiece 24 = .ok (.aload_n 0, 1) := by decide +kernel
theorem dX5_comesPiece_25 : decode cX5_comesPiece 25 = .ok (.getfield 117, 3) := by decide +kernel
theorem dX5_comesPiece_28 : decode cX5_comesPiece 28 = .ok (.iload_n 3, 1) := by decide +kernel
theorem dX5_comesPiece_29 : decode cX5_comesPiece 29 = .ok (.iastore, 1) := by decide +kernel
theorem dX5_comesPiece_30 : decode cX5_comesPiece 30 = .ok (.aload_n 0, 1) := by decide +kernel
theorem dX5_comesPiece_31 : decode cX5_comesPiece 31 = .ok (.dup, 1) := by decide +kernel
theorem dX5_comesPiece_32 : decode cX5_comesPiece 32 = .ok (.getfield 117, 3) := by decide +kernel
theorem dX5_comesPiece_35 : decode cX5_comesPiece 35 = .ok (.iconst 1, 1) := by decide +kernel
theorem dX5_comesPiece_36 : decode cX5_comesPiece 36 = .ok (.iadd, 1) := by decide +kernel
theorem dX5_comesPiece_37 : decode cX5_comesPiece 37 = .ok (.putfield 117, 3) := by decide +kernel
theorem dX5_comesPiece_40 : decode cX5_comesPiece 40 = .ok (.return_, 1) := by decide +kernel
theorem dX5_setPieces_0 : decode cX5_setPieces 0 = .ok (.aload_n 0, 1) := by decide +kernel
theorem dX5_setPieces_1 : decode cX5_setPieces 1 = .ok (.iconst 0, 1) := by decide +kernel
theorem dX5_setPieces_2 : decode cX5_setPieces 2 = .ok (.putfield 117, 3) := by decide +kernel
theorem dX5_setPieces_5 : decode cX5_setPieces 5 = .ok (.iconst 0, 1) := by decide +kernel
theorem dX5_setPieces_6 : decode cX5_setPieces 6 = .ok (.istore_n 1, 1) := by decide +kernel
theorem dX5_setPieces_7 : decode cX5_setPieces 7 = .ok (.iload_n 1, 1) := by decide +kernel
theorem dX5_setPieces_8 : decode cX5_setPieces 8 = .ok (.aload_n 0, 1) := by decide +kernel
theorem dX5_setPieces_9 : decode cX5_setPieces 9 = .ok (.getfield 89, 3) := by decide +kernel
theorem dX5_setPieces_12 : decode cX5_setPieces 12 = .ok (.if_icmp .gt 105, 3) := by decide +kernel
theorem dX5_setPieces_15 : decode cX5_setPieces 15 = .ok (.aload_n 0, 1) := by decide +kernel
theorem dX5_setPieces_16 : decode cX5_setPieces 16 = .ok (.iload_n 1, 1) := by decide +kernel
theorem dX5_setPieces_17 : decode cX5_setPieces 17 = .ok (.invokevirtual 120, 3) := by decide +kernel
theorem dX5_setPieces_20 : decode cX5_setPieces 20 = .ok (.istore_n 2, 1) := by decide +kernel
theorem dX5_setPieces_21 : decode cX5_setPieces 21 = .ok (.iload_n 2, 1) := by decide +kernel
theorem dX5_setPieces_22 : decode cX5_setPieces 22 = .ok (.bipush (-4), 2) := by decide +kernel
theorem dX5_setPieces_24 : decode cX5_setPieces 24 = .ok (.if_icmp .eq 16, 3) := by decide +kernel
theorem dX5_setPieces_27 : decode cX5_setPieces 27 = .ok (.aload_n 0, 1) := by decide +kernel
theorem dX5_setPieces_28 : decode cX5_setPieces 28 = .ok (.bipush 29, 2) := by decide +kernel
theorem dX5_setPieces_30 : decode cX5_setPieces 30 = .ok (.iload_n 1, 1) := by decide +kernel
theorem dX5_setPieces_31 : decode cX5_setPieces 31 = .ok (.aload_n 0, 1) := by decide +kernel
theorem dX5_setPieces_32 : decode cX5_setPieces 32 = .ok (.getfield 25, 3) := by decide +kernel
theorem dX5_setPieces_35 : decode cX5_setPieces 35 = .ok (.iload_n 2, 1) := by decide +kernel
theorem dX5_setPieces_36 : decode cX5_setPieces 36 = .ok (.iaload, 1) := by decide +kernel
theorem dX5_setPieces_37 : decode cX5_setPieces 37 = .ok (.invokevirtual 123, 3) := by decide +kernel
theorem dX5_setPieces_40 : decode cX5_setPieces 40 = .ok (.aload_n 0, 1) := by decide +kernel
theorem dX5_setPieces_41 : decode cX5_setPieces 41 = .ok (.iload_n 1, 1) := by decide +kernel
theorem dX5_setPieces_42 : decode cX5_setPieces 42 = .ok (.invokevirtual 113, 3) := by decide +kernel
theorem dX5_setPieces_45 : decode cX5_setPieces 45 = .ok (.istore_n 3, 1) := by decide +kernel
theorem dX5_setPieces_46 : decode cX5_setPieces 46 = .ok (.iload_n 1, 1) := by decide +kernel
theorem dX5_setPieces_47 : decode cX5_setPieces 47 = .ok (.aload_n 0, 1) := by decide +kernel
theorem dX5_setPieces_48 : decode cX5_setPieces 48 = .ok (.getfield 89, 3) := by decide +kernel
theorem dX5_setPieces_51 : decode cX5_setPieces 51 = .ok (.if_icmp .ne 9, 3) := by decide +kernel
theorem dX5_setPieces_54 : decode cX5_setPieces 54 = .ok (.iinc 1 1, 3) := by decide +kernel
theorem dX5_setPieces_57 : decode cX5_setPieces 57 = .ok (.goto 57, 3) := by decide +kernel
theorem dX5_setPieces_60 : decode cX5_setPieces 60 = .ok (.iload_n 3, 1) := by decide +kernel
theorem dX5_setPieces_61 : decode cX5_setPieces 61 = .ok (.bipush (-4), 2) := by decide +kernel
theorem dX5_setPieces_63 : decode cX5_setPieces 63 = .ok (.if_icmp .eq 21, 3) := by decide +kernel
theorem dX5_setPieces_66 : decode cX5_setPieces 66 = .ok (.aload_n 0, 1) := by decide +kernel
theorem dX5_setPieces_67 : decode cX5_setPieces 67 = .ok (.bipush 28, 2) := by decide +kernel
theorem dX5_setPieces_69 : decode cX5_setPieces 69 = .ok (.iload_n 1, 1) := by decide +kernel
theorem dX5_setPieces_70 : decode cX5_setPieces 70 = .ok (.iconst 1, 1) := by decide +kernel
theorem dX5_setPieces_71 : decode cX5_setPieces 71 = .ok (.invokevirtual 123, 3) := by decide +kernel
theorem dX5_setPieces_74 : decode cX5_setPieces 74 = .ok (.aload_n 0, 1) := by decide +kernel
theorem dX5_setPieces_75 : decode cX5_setPieces 75 = .ok (.getfield 16, 3) := by decide +kernel
theorem dX5_setPieces_78 : decode cX5_setPieces 78 = .ok (.iload_n 3, 1) := by decide +kernel
theorem dX5_setPieces_79 : decode cX5_setPieces 79 = .ok (.iaload, 1) := by decide +kernel
theorem dX5_setPieces_80 : decode cX5_setPieces 80 = .ok (.istore_n 1, 1) := by decide +kernel
theorem dX5_setPieces_81 : decode cX5_setPieces 81 = .ok (.goto 33, 3) := by decide +kernel
theorem dX5_setPieces_84 : decode cX5_setPieces 84 = .ok (.aload_n 0, 1) := by decide +kernel
theorem dX5_setPieces_85 : decode cX5_setPieces 85 = .ok (.aload_n 0, 1) := by decide +kernel
theorem dX5_setPieces_86 : decode cX5_setPieces 86 = .ok (.getfield 7, 3) := by decide +kernel
theorem dX5_setPieces_89 : decode cX5_setPieces 89 = .ok (.iload_n 1, 1) := by decide +kernel
theorem dX5_setPieces_90 : decode cX5_setPieces 90 = .ok (.iaload, 1) := by decide +kernel
theorem dX5_setPieces_91 : decode cX5_setPieces 91 = .ok (.iload_n 1, 1) := by decide +kernel
theorem dX5_setPieces_92 : decode cX5_setPieces 92 = .ok (.aload_n 0, 1) := by decide +kernel
theorem dX5_setPieces_93 : decode cX5_setPieces 93 = .ok (.getfield 7, 3) := by decide +kernel
theorem dX5_setPieces_96 : decode cX5_setPieces 96 = .ok (.iload_n 1, 1) := by decide +kernel
theorem dX5_setPieces_97 : decode cX5_setPieces 97 = .ok (.iaload, 1) := by decide +kernel
theorem dX5_setPieces_98 : decode cX5_setPieces 98 = .ok (.bipush 27, 2) := by decide +kernel
theorem dX5_setPieces_100 : decode cX5_setPieces 100 = .ok (.if_icmp .ne 7, 3) := by decide +kernel
theorem dX5_setPieces_103 : decode cX5_setPieces 103 = .ok (.iconst 0, 1) := by decide +kernel
theorem dX5_setPieces_104 : decode cX5_setPieces 104 = .ok (.goto 4, 3) := by decide +kernel
theorem dX5_setPieces_107 : decode cX5_setPieces 107 = .ok (.iconst 1, 1) := by decide +kernel
theorem dX5_setPieces_108 : decode cX5_setPieces 108 = .ok (.invokevirtual 123, 3) := by decide +kernel
theorem dX5_setPieces_111 : decode cX5_setPieces 111 = .ok (.iinc 1 1, 3) := by decide +kernel
theorem dX5_setPieces_114 : decode cX5_setPieces 114 = .ok (.goto (-107), 3) := by decide +kernel
theorem dX5_setPieces_117 : decode cX5_setPieces 117 = .ok (.return_, 1) := by decide +kernel
theorem dX5_isWord_0 : decode cX5_isWord 0 = .ok (.aload_n 0, 1) := by decide +kernel
theorem dX5_isWord_1 : decode cX5_isWord 1 = .ok (.getfield 38, 3) := by decide +kernel
theorem dX5_isWord_4 : decode cX5_isWord 4 = .ok (.iload_n 1, 1) := by decide +kernel
theorem dX5_isWord_5 : decode cX5_isWord 5 = .ok (.iaload, 1) := by decide +kernel
theorem dX5_isWord_6 : decode cX5_isWord 6 = .ok (.bipush 26, 2) := by decide +kernel
theorem dX5_isWord_8 : decode cX5_isWord 8 = .ok (.if_icmp .eq 18, 3) := by decide +kernel
theorem dX5_isWord_11 : decode cX5_isWord 11 = .ok (.aload_n 0, 1) := by decide +kernel
theorem dX5_isWord_12 : decode cX5_isWord 12 = .ok (.getfield 38, 3) := by decide +kernel
theorem dX5_isWord_15 : decode cX5_isWord 15 = .ok (.iload_n 1, 1) := by decide +kernel
theorem dX5_isWord_16 : decode cX5_isWord 16 = .ok (.iaload, 1) := by decide +kernel
theorem dX5_isWord_17 : decode cX5_isWord 17 = .ok (.bipush 27, 2) := by decide +kernel
theorem dX5_isWord_19 : decode cX5_isWord 19 = .ok (.if_icmp .eq 7, 3) := by decide +kernel
theorem dX5_isWord_22 : decode cX5_isWord 22 = .ok (.iconst 1, 1) := by decide +kernel
theorem dX5_isWord_23 : decode cX5_isWord 23 = .ok (.goto 4, 3) := by decide +kernel
theorem dX5_isWord_26 : decode cX5_isWord 26 = .ok (.iconst 0, 1) := by decide +kernel
theorem dX5_isWord_27 : decode cX5_isWord 27 = .ok (.ireturn, 1) := by decide +kernel
theorem dX5_wordFrom_0 : decode cX5_wordFrom 0 = .ok (.iconst 0, 1) := by decide +kernel
theorem dX5_wordFrom_1 : decode cX5_wordFrom 1 = .ok (.istore_n 2, 1) := by decide +kernel
theorem dX5_wordFrom_2 : decode cX5_wordFrom 2 = .ok (.iload_n 1, 1) := by decide +kernel
theorem dX5_wordFrom_3 : decode cX5_wordFrom 3 = .ok (.istore_n 3, 1) := by decide +kernel
theorem dX5_wordFrom_4 : decode cX5_wordFrom 4 = .ok (.iload_n 3, 1) := by decide +kernel
theorem dX5_wordFrom_5 : decode cX5_wordFrom 5 = .ok (.aload_n 0, 1) := by decide +kernel
theorem dX5_wordFrom_6 : decode cX5_wordFrom 6 = .ok (.getfield 117, 3) := by decide +kernel
theorem dX5_wordFrom_9 : decode cX5_wordFrom 9 = .ok (.if_icmp .ge 26, 3) := by decide +kernel
theorem dX5_wordFrom_12 : decode cX5_wordFrom 12 = .ok (.aload_n 0, 1) := by decide +kernel
theorem dX5_wordFrom_13 : decode cX5_wordFrom 13 = .ok (.iload_n 3, 1) := by decide +kernel
theorem dX5_wordFrom_14 : decode cX5_wordFrom 14 = .ok (.invokevirtual 127, 3) := by decide +kernel
theorem dX5_wordFrom_17 : decode cX5_wordFrom 17 = .ok (.ifCond .eq 18, 3) := by decide +kernel
theorem dX5_wordFrom_20 : decode cX5_wordFrom 20 = .ok (.iload_n 2, 1) := by decide +kernel
theorem dX5_wordFrom_21 : decode cX5_wordFrom 21 = .ok (.aload_n 0, 1) := by decide +kernel
theorem dX5_wordFrom_22 : decode cX5_wordFrom 22 = .ok (.getfield 50, 3) := by decide +kernel
theorem dX5_wordFrom_25 : decode cX5_wordFrom 25 = .ok (.iload_n 3, 1) := by decide +kernel
theorem dX5_wordFrom_26 : decode cX5_wordFrom 26 = .ok (.iaload, 1) := by decide +kernel
theorem dX5_wordFrom_27 : decode cX5_wordFrom 27 = .ok (.iadd, 1) := by decide +kernel
theorem dX5_wordFrom_28 : decode cX5_wordFrom 28 = .ok (.istore_n 2, 1) := by decide +kernel
theorem dX5_wordFrom_29 : decode cX5_wordFrom 29 = .ok (.iinc 3 1, 3) := by decide +kernel
theorem dX5_wordFrom_32 : decode cX5_wordFrom 32 = .ok (.goto (-28), 3) := by decide +kernel
theorem dX5_wordFrom_35 : decode cX5_wordFrom 35 = .ok (.iload_n 2, 1) := by decide +kernel
theorem dX5_wordFrom_36 : decode cX5_wordFrom 36 = .ok (.ireturn, 1) := by decide +kernel
theorem dX5_goesOn_0 : decode cX5_goesOn 0 = .ok (.aload_n 0, 1) := by decide +kernel
theorem dX5_goesOn_1 : decode cX5_goesOn 1 = .ok (.getfield 28, 3) := by decide +kernel
theorem dX5_goesOn_4 : decode cX5_goesOn 4 = .ok (.ifCond .eq 14, 3) := by decide +kernel
theorem dX5_goesOn_7 : decode cX5_goesOn 7 = .ok (.aload_n 0, 1) := by decide +kernel
theorem dX5_goesOn_8 : decode cX5_goesOn 8 = .ok (.getfield 38, 3) := by decide +kernel
theorem dX5_goesOn_11 : decode cX5_goesOn 11 = .ok (.iload_n 1, 1) := by decide +kernel
theorem dX5_goesOn_12 : decode cX5_goesOn 12 = .ok (.iaload, 1) := by decide +kernel
theorem dX5_goesOn_13 : decode cX5_goesOn 13 = .ok (.bipush 27, 2) := by decide +kernel
theorem dX5_goesOn_15 : decode cX5_goesOn 15 = .ok (.if_icmp .ne 5, 3) := by decide +kernel
theorem dX5_goesOn_18 : decode cX5_goesOn 18 = .ok (.iconst 0, 1) := by decide +kernel
theorem dX5_goesOn_19 : decode cX5_goesOn 19 = .ok (.ireturn, 1) := by decide +kernel
theorem dX5_goesOn_20 : decode cX5_goesOn 20 = .ok (.iload_n 2, 1) := by decide +kernel
theorem dX5_goesOn_21 : decode cX5_goesOn 21 = .ok (.aload_n 0, 1) := by decide +kernel
theorem dX5_goesOn_22 : decode cX5_goesOn 22 = .ok (.getfield 50, 3) := by decide +kernel
theorem dX5_goesOn_25 : decode cX5_goesOn 25 = .ok (.iload_n 1, 1) := by decide +kernel
theorem dX5_goesOn_26 : decode cX5_goesOn 26 = .ok (.iaload, 1) := by decide +kernel
theorem dX5_goesOn_27 : decode cX5_goesOn 27 = .ok (.iadd, 1) := by decide +kernel
theorem dX5_goesOn_28 : decode cX5_goesOn 28 = .ok (.aload_n 0, 1) := by decide +kernel
theorem dX5_goesOn_29 : decode cX5_goesOn 29 = .ok (.getfield 32, 3) := by decide +kernel
theorem dX5_goesOn_32 : decode cX5_goesOn 32 = .ok (.if_icmp .le 5, 3) := by decide +kernel
theorem dX5_goesOn_35 : decode cX5_goesOn 35 = .ok (.iconst 1, 1) := by decide +kernel
theorem dX5_goesOn_36 : decode cX5_goesOn 36 = .ok (.ireturn, 1) := by decide +kernel
theorem dX5_goesOn_37 : decode cX5_goesOn 37 = .ok (.aload_n 0, 1) := by decide +kernel
theorem dX5_goesOn_38 : decode cX5_goesOn 38 = .ok (.iload_n 1, 1) := by decide +kernel
theorem dX5_goesOn_39 : decode cX5_goesOn 39 = .ok (.invokevirtual 127, 3) := by decide +kernel
theorem dX5_goesOn_42 : decode cX5_goesOn 42 = .ok (.ifCond .eq 21, 3) := by decide +kernel
theorem dX5_goesOn_45 : decode cX5_goesOn 45 = .ok (.iload_n 1, 1) := by decide +kernel
theorem dX5_goesOn_46 : decode cX5_goesOn 46 = .ok (.ifCond .eq 13, 3) := by decide +kernel
theorem dX5_goesOn_49 : decode cX5_goesOn 49 = .ok (.aload_n 0, 1) := by decide +kernel
theorem dX5_goesOn_50 : decode cX5_goesOn 50 = .ok (.iload_n 1, 1) := by decide +kernel
theorem dX5_goesOn_51 : decode cX5_goesOn 51 = .ok (.iconst 1, 1) := by decide +kernel
theorem dX5_goesOn_52 : decode cX5_goesOn 52 = .ok (.isub, 1) := by decide +kernel
theorem dX5_goesOn_53 : decode cX5_goesOn 53 = .ok (.invokevirtual 127, 3) := by decide +kernel
theorem dX5_goesOn_56 : decode cX5_goesOn 56 = .ok (.ifCond .ne 7, 3) := by decide +kernel
theorem dX5_goesOn_59 : decode cX5_goesOn 59 = .ok (.iconst 1, 1) := by decide +kernel
theorem dX5_goesOn_60 : decode cX5_goesOn 60 = .ok (.goto 4, 3) := by decide +kernel
theorem dX5_goesOn_63 : decode cX5_goesOn 63 = .ok (.iconst 0, 1) := by decide +kernel
theorem dX5_goesOn_64 : decode cX5_goesOn 64 = .ok (.istore_n 3, 1) := by decide +kernel
theorem dX5_goesOn_65 : decode cX5_goesOn 65 = .ok (.aload_n 0, 1) := by decide +kernel
theorem dX5_goesOn_66 : decode cX5_goesOn 66 = .ok (.getfield 28, 3) := by decide +kernel
theorem dX5_goesOn_69 : decode cX5_goesOn 69 = .ok (.iconst 1, 1) := by decide +kernel
theorem dX5_goesOn_70 : decode cX5_goesOn 70 = .ok (.if_icmp .eq 7, 3) := by decide +kernel
theorem dX5_goesOn_73 : decode cX5_goesOn 73 = .ok (.iload_n 3, 1) := by decide +kernel
theorem dX5_goesOn_74 : decode cX5_goesOn 74 = .ok (.ifCond .ne 5, 3) := by decide +kernel
theorem dX5_goesOn_77 : decode cX5_goesOn 77 = .ok (.iconst 0, 1) := by decide +kernel
theorem dX5_goesOn_78 : decode cX5_goesOn 78 = .ok (.ireturn, 1) := by decide +kernel
theorem dX5_goesOn_79 : decode cX5_goesOn 79 = .ok (.aload_n 0, 1) := by decide +kernel
theorem dX5_goesOn_80 : decode cX5_goesOn 80 = .ok (.iload_n 1, 1) := by decide +kernel
theorem dX5_goesOn_81 : decode cX5_goesOn 81 = .ok (.invokevirtual 131, 3) := by decide +kernel
theorem dX5_goesOn_84 : decode cX5_goesOn 84 = .ok (.istore 4, 2) := by decide +kernel
theorem dX5_goesOn_86 : decode cX5_goesOn 86 = .ok (.iload_n 2, 1) := by decide +kernel
theorem dX5_goesOn_87 : decode cX5_goesOn 87 = .ok (.iload 4, 2) := by decide +kernel
theorem dX5_goesOn_89 : decode cX5_goesOn 89 = .ok (.iadd, 1) := by decide +kernel
theorem dX5_goesOn_90 : decode cX5_goesOn 90 = .ok (.aload_n 0, 1) := by decide +kernel
theorem dX5_goesOn_91 : decode cX5_goesOn 91 = .ok (.getfield 32, 3) := by decide +kernel
theorem dX5_goesOn_94 : decode cX5_goesOn 94 = .ok (.if_icmp .le 21, 3) := by decide +kernel
theorem dX5_goesOn_97 : decode cX5_goesOn 97 = .ok (.iload 4, 2) := by decide +kernel
theorem dX5_goesOn_99 : decode cX5_goesOn 99 = .ok (.aload_n 0, 1) := by decide +kernel
theorem dX5_goesOn_100 : decode cX5_goesOn 100 = .ok (.getfield 32, 3) := by decide +kernel
theorem dX5_goesOn_103 : decode cX5_goesOn 103 = .ok (.aload_n 0, 1) := by decide +kernel
theorem dX5_goesOn_104 : decode cX5_goesOn 104 = .ok (.getfield 100, 3) := by decide +kernel
theorem dX5_goesOn_107 : decode cX5_goesOn 107 = .ok (.isub, 1) := by decide +kernel
theorem dX5_goesOn_108 : decode cX5_goesOn 108 = .ok (.if_icmp .gt 7, 3) := by decide +kernel
theorem dX5_goesOn_111 : decode cX5_goesOn 111 = .ok (.iconst 1, 1) := by decide +kernel
theorem dX5_goesOn_112 : decode cX5_goesOn 112 = .ok (.goto 4, 3) := by decide +kernel
theorem dX5_goesOn_115 : decode cX5_goesOn 115 = .ok (.iconst 0, 1) := by decide +kernel
theorem dX5_goesOn_116 : decode cX5_goesOn 116 = .ok (.ireturn, 1) := by decide +kernel
theorem dX5_toStop_0 : decode cX5_toStop 0 = .ok (.aload_n 0, 1) := by decide +kernel
theorem dX5_toStop_1 : decode cX5_toStop 1 = .ok (.getfield 35, 3) := by decide +kernel
theorem dX5_toStop_4 : decode cX5_toStop 4 = .ok (.iload_n 1, 1) := by decide +kernel
theorem dX5_toStop_5 : decode cX5_toStop 5 = .ok (.aload_n 0, 1) := by decide +kernel
theorem dX5_toStop_6 : decode cX5_toStop 6 = .ok (.getfield 35, 3) := by decide +kernel
theorem dX5_toStop_9 : decode cX5_toStop 9 = .ok (.irem, 1) := by decide +kernel
theorem dX5_toStop_10 : decode cX5_toStop 10 = .ok (.isub, 1) := by decide +kernel
theorem dX5_toStop_11 : decode cX5_toStop 11 = .ok (.ireturn, 1) := by decide +kernel
theorem dX5_setScreen_0 : decode cX5_setScreen 0 = .ok (.aload_n 0, 1) := by decide +kernel
theorem dX5_setScreen_1 : decode cX5_setScreen 1 = .ok (.invokevirtual 134, 3) := by decide +kernel
theorem dX5_setScreen_4 : decode cX5_setScreen 4 = .ok (.iconst 0, 1) := by decide +kernel
theorem dX5_setScreen_5 : decode cX5_setScreen 5 = .ok (.istore_n 1, 1) := by decide +kernel
theorem dX5_setScreen_6 : decode cX5_setScreen 6 = .ok (.iconst 0, 1) := by decide +kernel
theorem dX5_setScreen_7 : decode cX5_setScreen 7 = .ok (.istore_n 2, 1) := by decide +kernel
theorem dX5_setScreen_8 : decode cX5_setScreen 8 = .ok (.iconst 0, 1) := by decide +kernel
theorem dX5_setScreen_9 : decode cX5_setScreen 9 = .ok (.istore_n 3, 1) := by decide +kernel
theorem dX5_setScreen_10 : decode cX5_setScreen 10 = .ok (.aload_n 0, 1) := by decide +kernel
theorem dX5_setScreen_11 : decode cX5_setScreen 11 = .ok (.getfield 56, 3) := by decide +kernel
theorem dX5_setScreen_14 : decode cX5_setScreen 14 = .ok (.iconst 0, 1) := by decide +kernel
theorem dX5_setScreen_15 : decode cX5_setScreen 15 = .ok (.iconst 1, 1) := by decide +kernel
theorem dX5_setScreen_16 : decode cX5_setScreen 16 = .ok (.iastore, 1) := by decide +kernel
theorem dX5_setScreen_17 : decode cX5_setScreen 17 = .ok (.iconst 0, 1) := by decide +kernel
theorem dX5_setScreen_18 : decode cX5_setScreen 18 = .ok (.istore 4, 2) := by decide +kernel
theorem dX5_setScreen_20 : decode cX5_setScreen 20 = .ok (.iload 4, 2) := by decide +kernel
theorem dX5_setScreen_22 : decode cX5_setScreen 22 = .ok (.aload_n 0, 1) := by decide +kernel
theorem dX5_setScreen_23 : decode cX5_setScreen 23 = .ok (.getfield 117, 3) := by decide +kernel
theorem dX5_setScreen_26 : decode cX5_setScreen 26 = .ok (.if_icmp .ge 154, 3) := by decide +kernel
theorem dX5_setScreen_29 : decode cX5_setScreen 29 = .ok (.aload_n 0, 1) := by decide +kernel
theorem dX5_setScreen_30 : decode cX5_setScreen 30 = .ok (.getfield 38, 3) := by decide +kernel
theorem dX5_setScreen_33 : decode cX5_setScreen 33 = .ok (.iload 4, 2) := by decide +kernel
theorem dX5_setScreen_35 : decode cX5_setScreen 35 = .ok (.iaload, 1) := by decide +kernel
theorem dX5_setScreen_36 : decode cX5_setScreen 36 = .ok (.bipush 26, 2) := by decide +kernel
theorem dX5_setScreen_38 : decode cX5_setScreen 38 = .ok (.if_icmp .ne 15, 3) := by decide +kernel
theorem dX5_setScreen_41 : decode cX5_setScreen 41 = .ok (.aload_n 0, 1) := by decide +kernel
theorem dX5_setScreen_42 : decode cX5_setScreen 42 = .ok (.getfield 50, 3) := by decide +kernel
theorem dX5_setScreen_45 : decode cX5_setScreen 45 = .ok (.iload 4, 2) := by decide +kernel
theorem dX5_setScreen_47 : decode cX5_setScreen 47 = .ok (.aload_n 0, 1) := by decide +kernel
theorem dX5_setScreen_48 : decode cX5_setScreen 48 = .ok (.iload_n 2, 1) := by decide +kernel
theorem dX5_setScreen_49 : decode cX5_setScreen 49 = .ok (.invokevirtual 137, 3) := by decide +kernel
theorem dX5_setScreen_52 : decode cX5_setScreen 52 = .ok (.iastore, 1) := by decide +kernel
theorem dX5_setScreen_53 : decode cX5_setScreen 53 = .ok (.iload_n 3, 1) := by decide +kernel
theorem dX5_setScreen_54 : decode cX5_setScreen 54 = .ok (.ifCond .eq 59, 3) := by decide +kernel
theorem dX5_setScreen_57 : decode cX5_setScreen 57 = .ok (.aload_n 0, 1) := by decide +kernel
theorem dX5_setScreen_58 : decode cX5_setScreen 58 = .ok (.iload 4, 2) := by decide +kernel
theorem dX5_setScreen_60 : decode cX5_setScreen 60 = .ok (.iload_n 2, 1) := by decide +kernel
theorem dX5_setScreen_61 : decode cX5_setScreen 61 = .ok (.invokevirtual 140, 3) := by decide +kernel
theorem dX5_setScreen_64 : decode cX5_setScreen 64 = .ok (.ifCond .eq 49, 3) := by decide +kernel
theorem dX5_setScreen_67 : decode cX5_setScreen 67 = .ok (.aload_n 0, 1) := by decide +kernel
theorem dX5_setScreen_68 : decode cX5_setScreen 68 = .ok (.getfield 53, 3) := by decide +kernel
theorem dX5_setScreen_71 : decode cX5_setScreen 71 = .ok (.iload_n 1, 1) := by decide +kernel
theorem dX5_setScreen_72 : decode cX5_setScreen 72 = .ok (.iload_n 2, 1) := by decide +kernel
theorem dX5_setScreen_73 : decode cX5_setScreen 73 = .ok (.iastore, 1) := by decide +kernel
theorem dX5_setScreen_74 : decode cX5_setScreen 74 = .ok (.iinc 1 1, 3) := by decide +kernel
theorem dX5_setScreen_77 : decode cX5_setScreen 77 = .ok (.aload_n 0, 1) := by decide +kernel
theorem dX5_setScreen_78 : decode cX5_setScreen 78 = .ok (.getfield 56, 3) := by decide +kernel
theorem dX5_setScreen_81 : decode cX5_setScreen 81 = .ok (.iload_n 1, 1) := by decide +kernel
theorem dX5_setScreen_82 : decode cX5_setScreen 82 = .ok (.iconst 0, 1) := by decide +kernel
theorem dX5_setScreen_83 : decode cX5_setScreen 83 = .ok (.iastore, 1) := by decide +kernel
theorem dX5_setScreen_84 : decode cX5_setScreen 84 = .ok (.aload_n 0, 1) := by decide +kernel
theorem dX5_setScreen_85 : decode cX5_setScreen 85 = .ok (.getfield 100, 3) := by decide +kernel
theorem dX5_setScreen_88 : decode cX5_setScreen 88 = .ok (.istore_n 2, 1) := by decide +kernel
theorem dX5_setScreen_89 : decode cX5_setScreen 89 = .ok (.aload_n 0, 1) := by decide +kernel
theorem dX5_setScreen_90 : decode cX5_setScreen 90 = .ok (.getfield 38, 3) := by decide +kernel
theorem dX5_setScreen_93 : decode cX5_setScreen 93 = .ok (.iload 4, 2) := by decide +kernel
theorem dX5_setScreen_95 : decode cX5_setScreen 95 = .ok (.iaload, 1) := by decide +kernel
theorem dX5_setScreen_96 : decode cX5_setScreen 96 = .ok (.bipush 26, 2) := by decide +kernel
theorem dX5_setScreen_98 : decode cX5_setScreen 98 = .ok (.if_icmp .ne 15, 3) := by decide +kernel
theorem dX5_setScreen_101 : decode cX5_setScreen 101 = .ok (.aload_n 0, 1) := by decide +kernel
theorem dX5_setScreen_102 : decode cX5_setScreen 102 = .ok (.getfield 50, 3) := by decide +kernel
theorem dX5_setScreen_105 : decode cX5_setScreen 105 = .ok (.iload 4, 2) := by decide +kernel
theorem dX5_setScreen_107 : decode cX5_setScreen 107 = .ok (.aload_n 0, 1) := by decide +kernel
theorem dX5_setScreen_108 : decode cX5_setScreen 108 = .ok (.iload_n 2, 1) := by decide +kernel
theorem dX5_setScreen_109 : decode cX5_setScreen 109 = .ok (.invokevirtual 137, 3) := by decide +kernel
theorem dX5_setScreen_112 : decode cX5_setScreen 112 = .ok (.iastore, 1) := by decide +kernel
theorem dX5_setScreen_113 : decode cX5_setScreen 113 = .ok (.aload_n 0, 1) := by decide +kernel
theorem dX5_setScreen_114 : decode cX5_setScreen 114 = .ok (.getfield 44, 3) := by decide +kernel
theorem dX5_setScreen_117 : decode cX5_setScreen 117 = .ok (.iload 4, 2) := by decide +kernel
theorem dX5_setScreen_119 : decode cX5_setScreen 119 = .ok (.iload_n 1, 1) := by decide +kernel
theorem dX5_setScreen_120 : decode cX5_setScreen 120 = .ok (.iastore, 1) := by decide +kernel
theorem dX5_setScreen_121 : decode cX5_setScreen 121 = .ok (.aload_n 0, 1) := by decide +kernel
theorem dX5_setScreen_122 : decode cX5_setScreen 122 = .ok (.getfield 47, 3) := by decide +kernel
theorem dX5_setScreen_125 : decode cX5_setScreen 125 = .ok (.iload 4, 2) := by decide +kernel
theorem dX5_setScreen_127 : decode cX5_setScreen 127 = .ok (.iload_n 2, 1) := by decide +kernel
theorem dX5_setScreen_128 : decode cX5_setScreen 128 = .ok (.iastore, 1) := by decide +kernel
theorem dX5_setScreen_129 : decode cX5_setScreen 129 = .ok (.iload_n 2, 1) := by decide +kernel
theorem dX5_setScreen_130 : decode cX5_setScreen 130 = .ok (.aload_n 0, 1) := by decide +kernel
theorem dX5_setScreen_131 : decode cX5_setScreen 131 = .ok (.getfield 50, 3) := by decide +kernel
theorem dX5_setScreen_134 : decode cX5_setScreen 134 = .ok (.iload 4, 2) := by decide +kernel
theorem dX5_setScreen_136 : decode cX5_setScreen 136 = .ok (.iaload, 1) := by decide +kernel
theorem dX5_setScreen_137 : decode cX5_setScreen 137 = .ok (.iadd, 1) := by decide +kernel
theorem dX5_setScreen_138 : decode cX5_setScreen 138 = .ok (.istore_n 2, 1) := by decide +kernel
theorem dX5_setScreen_139 : decode cX5_setScreen 139 = .ok (.iconst 1, 1) := by decide +kernel
theorem dX5_setScreen_140 : decode cX5_setScreen 140 = .ok (.istore_n 3, 1) := by decide +kernel
theorem dX5_setScreen_141 : decode cX5_setScreen 141 = .ok (.aload_n 0, 1) := by decide +kernel
theorem dX5_setScreen_142 : decode cX5_setScreen 142 = .ok (.getfield 38, 3) := by decide +kernel
theorem dX5_setScreen_145 : decode cX5_setScreen 145 = .ok (.iload 4, 2) := by decide +kernel
theorem dX5_setScreen_147 : decode cX5_setScreen 147 = .ok (.iaload, 1) := by decide +kernel
theorem dX5_setScreen_148 : decode cX5_setScreen 148 = .ok (.bipush 27, 2) := by decide +kernel
theorem dX5_setScreen_150 : decode cX5_setScreen 150 = .ok (.if_icmp .ne 24, 3) := by decide +kernel
theorem dX5_setScreen_153 : decode cX5_setScreen 153 = .ok (.aload_n 0, 1) := by decide +kernel
theorem dX5_setScreen_154 : decode cX5_setScreen 154 = .ok (.getfield 53, 3) := by decide +kernel
theorem dX5_setScreen_157 : decode cX5_setScreen 157 = .ok (.iload_n 1, 1) := by decide +kernel
theorem dX5_setScreen_158 : decode cX5_setScreen 158 = .ok (.iload_n 2, 1) := by decide +kernel
theorem dX5_setScreen_159 : decode cX5_setScreen 159 = .ok (.iastore, 1) := by decide +kernel
theorem dX5_setScreen_160 : decode cX5_setScreen 160 = .ok (.iinc 1 1, 3) := by decide +kernel
theorem dX5_setScreen_163 : decode cX5_setScreen 163 = .ok (.aload_n 0, 1) := by decide +kernel
theorem dX5_setScreen_164 : decode cX5_setScreen 164 = .ok (.getfield 56, 3) := by decide +kernel
theorem dX5_setScreen_167 : decode cX5_setScreen 167 = .ok (.iload_n 1, 1) := by decide +kernel
theorem dX5_setScreen_168 : decode cX5_setScreen 168 = .ok (.iconst 1, 1) := by decide +kernel
theorem dX5_setScreen_169 : decode cX5_setScreen 169 = .ok (.iastore, 1) := by decide +kernel
theorem dX5_setScreen_170 : decode cX5_setScreen 170 = .ok (.iconst 0, 1) := by decide +kernel
theorem dX5_setScreen_171 : decode cX5_setScreen 171 = .ok (.istore_n 2, 1) := by decide +kernel
theorem dX5_setScreen_172 : decode cX5_setScreen 172 = .ok (.iconst 0, 1) := by decide +kernel
theorem dX5_setScreen_173 : decode cX5_setScreen 173 = .ok (.istore_n 3, 1) := by decide +kernel
theorem dX5_setScreen_174 : decode cX5_setScreen 174 = .ok (.iinc 4 1, 3) := by decide +kernel
theorem dX5_setScreen_177 : decode cX5_setScreen 177 = .ok (.goto (-157), 3) := by decide +kernel
theorem dX5_setScreen_180 : decode cX5_setScreen 180 = .ok (.aload_n 0, 1) := by decide +kernel
theorem dX5_setScreen_181 : decode cX5_setScreen 181 = .ok (.getfield 53, 3) := by decide +kernel
theorem dX5_setScreen_184 : decode cX5_setScreen 184 = .ok (.iload_n 1, 1) := by decide +kernel
theorem dX5_setScreen_185 : decode cX5_setScreen 185 = .ok (.iload_n 2, 1) := by decide +kernel
theorem dX5_setScreen_186 : decode cX5_setScreen 186 = .ok (.iastore, 1) := by decide +kernel
theorem dX5_setScreen_187 : decode cX5_setScreen 187 = .ok (.aload_n 0, 1) := by decide +kernel
theorem dX5_setScreen_188 : decode cX5_setScreen 188 = .ok (.iload_n 1, 1) := by decide +kernel
theorem dX5_setScreen_189 : decode cX5_setScreen 189 = .ok (.putfield 144, 3) := by decide +kernel
theorem dX5_setScreen_192 : decode cX5_setScreen 192 = .ok (.aload_n 0, 1) := by decide +kernel
theorem dX5_setScreen_193 : decode cX5_setScreen 193 = .ok (.iload_n 2, 1) := by decide +kernel
theorem dX5_setScreen_194 : decode cX5_setScreen 194 = .ok (.putfield 147, 3) := by decide +kernel
theorem dX5_setScreen_197 : decode cX5_setScreen 197 = .ok (.return_, 1) := by decide +kernel
theorem dX5_rows_0 : decode cX5_rows 0 = .ok (.aload_n 0, 1) := by decide +kernel
theorem dX5_rows_1 : decode cX5_rows 1 = .ok (.invokevirtual 150, 3) := by decide +kernel
theorem dX5_rows_4 : decode cX5_rows 4 = .ok (.aload_n 0, 1) := by decide +kernel
theorem dX5_rows_5 : decode cX5_rows 5 = .ok (.getfield 144, 3) := by decide +kernel
theorem dX5_rows_8 : decode cX5_rows 8 = .ok (.iconst 1, 1) := by decide +kernel
theorem dX5_rows_9 : decode cX5_rows 9 = .ok (.iadd, 1) := by decide +kernel
theorem dX5_rows_10 : decode cX5_rows 10 = .ok (.ireturn, 1) := by decide +kernel
theorem dX5_longest_0 : decode cX5_longest 0 = .ok (.aload_n 0, 1) := by decide +kernel
theorem dX5_longest_1 : decode cX5_longest 1 = .ok (.invokevirtual 150, 3) := by decide +kernel
theorem dX5_longest_4 : decode cX5_longest 4 = .ok (.iconst 0, 1) := by decide +kernel
theorem dX5_longest_5 : decode cX5_longest 5 = .ok (.istore_n 1, 1) := by decide +kernel
theorem dX5_longest_6 : decode cX5_longest 6 = .ok (.iconst 0, 1) := by decide +kernel
theorem dX5_longest_7 : decode cX5_longest 7 = .ok (.istore_n 2, 1) := by decide +kernel
theorem dX5_longest_8 : decode cX5_longest 8 = .ok (.iload_n 2, 1) := by decide +kernel
theorem dX5_longest_9 : decode cX5_longest 9 = .ok (.aload_n 0, 1) := by decide +kernel
theorem dX5_longest_10 : decode cX5_longest 10 = .ok (.getfield 144, 3) := by decide +kernel
theorem dX5_longest_13 : decode cX5_longest 13 = .ok (.if_icmp .gt 30, 3) := by decide +kernel
theorem dX5_longest_16 : decode cX5_longest 16 = .ok (.aload_n 0, 1) := by decide +kernel
theorem dX5_longest_17 : decode cX5_longest 17 = .ok (.getfield 53, 3) := by decide +kernel
theorem dX5_longest_20 : decode cX5_longest 20 = .ok (.iload_n 2, 1) := by decide +kernel
theorem dX5_longest_21 : decode cX5_longest 21 = .ok (.iaload, 1) := by decide +kernel
theorem dX5_longest_22 : decode cX5_longest 22 = .ok (.iload_n 1, 1) := by decide +kernel
theorem dX5_longest_23 : decode cX5_longest 23 = .ok (.if_icmp .le 12, 3) := by decide +kernel
theorem dX5_longest_26 : decode cX5_longest 26 = .ok (.aload_n 0, 1) := by decide +kernel
theorem dX5_longest_27 : decode cX5_longest 27 = .ok (.getfield 53, 3) := by decide +kernel
theorem dX5_longest_30 : decode cX5_longest 30 = .ok (.iload_n 2, 1) := by decide +kernel
theorem dX5_longest_31 : decode cX5_longest 31 = .ok (.iaload, 1) := by decide +kernel
theorem dX5_longest_32 : decode cX5_longest 32 = .ok (.goto 4, 3) := by decide +kernel
theorem dX5_longest_35 : decode cX5_longest 35 = .ok (.iload_n 1, 1) := by decide +kernel
theorem dX5_longest_36 : decode cX5_longest 36 = .ok (.istore_n 1, 1) := by decide +kernel
theorem dX5_longest_37 : decode cX5_longest 37 = .ok (.iinc 2 1, 3) := by decide +kernel
theorem dX5_longest_40 : decode cX5_longest 40 = .ok (.goto (-32), 3) := by decide +kernel
theorem dX5_longest_43 : decode cX5_longest 43 = .ok (.iload_n 1, 1) := by decide +kernel
theorem dX5_longest_44 : decode cX5_longest 44 = .ok (.ireturn, 1) := by decide +kernel
theorem dX5_sign_0 : decode cX5_sign 0 = .ok (.aload_n 0, 1) := by decide +kernel
theorem dX5_sign_1 : decode cX5_sign 1 = .ok (.iload_n 1, 1) := by decide +kernel
theorem dX5_sign_2 : decode cX5_sign 2 = .ok (.invokevirtual 153, 3) := by decide +kernel
theorem dX5_sign_5 : decode cX5_sign 5 = .ok (.ifCond .ne 5, 3) := by decide +kernel
theorem dX5_sign_8 : decode cX5_sign 8 = .ok (.iconst (-1), 1) := by decide +kernel
theorem dX5_sign_9 : decode cX5_sign 9 = .ok (.ireturn, 1) := by decide +kernel
theorem dX5_sign_10 : decode cX5_sign 10 = .ok (.iload_n 1, 1) := by decide +kernel
theorem dX5_sign_11 : decode cX5_sign 11 = .ok (.aload_n 0, 1) := by decide +kernel
theorem dX5_sign_12 : decode cX5_sign 12 = .ok (.getfield 89, 3) := by decide +kernel
theorem dX5_sign_15 : decode cX5_sign 15 = .ok (.if_icmp .ne 8, 3) := by decide +kernel
theorem dX5_sign_18 : decode cX5_sign 18 = .ok (.bipush (-4), 2) := by decide +kernel
theorem dX5_sign_20 : decode cX5_sign 20 = .ok (.goto 9, 3) := by decide +kernel
theorem dX5_sign_23 : decode cX5_sign 23 = .ok (.aload_n 0, 1) := by decide +kernel
theorem dX5_sign_24 : decode cX5_sign 24 = .ok (.getfield 7, 3) := by decide +kernel
theorem dX5_sign_27 : decode cX5_sign 27 = .ok (.iload_n 1, 1) := by decide +kernel
theorem dX5_sign_28 : decode cX5_sign 28 = .ok (.iaload, 1) := by decide +kernel
theorem dX5_sign_29 : decode cX5_sign 29 = .ok (.ireturn, 1) := by decide +kernel
theorem dX5_fold_0 : decode cX5_fold 0 = .ok (.aload_n 0, 1) := by decide +kernel
theorem dX5_fold_1 : decode cX5_fold 1 = .ok (.iload_n 1, 1) := by decide +kernel
theorem dX5_fold_2 : decode cX5_fold 2 = .ok (.invokevirtual 156, 3) := by decide +kernel
theorem dX5_fold_5 : decode cX5_fold 5 = .ok (.ifCond .eq 12, 3) := by decide +kernel
theorem dX5_fold_8 : decode cX5_fold 8 = .ok (.iload_n 2, 1) := by decide +kernel
theorem dX5_fold_9 : decode cX5_fold 9 = .ok (.iconst 0, 1) := by decide +kernel
theorem dX5_fold_10 : decode cX5_fold 10 = .ok (.iconst 2, 1) := by decide +kernel
theorem dX5_fold_11 : decode cX5_fold 11 = .ok (.invokestatic 103, 3) := by decide +kernel
theorem dX5_fold_14 : decode cX5_fold 14 = .ok (.ifCond .ne 5, 3) := by decide +kernel
theorem dX5_fold_17 : decode cX5_fold 17 = .ok (.iconst (-1), 1) := by decide +kernel
theorem dX5_fold_18 : decode cX5_fold 18 = .ok (.ireturn, 1) := by decide +kernel
theorem dX5_fold_19 : decode cX5_fold 19 = .ok (.iload_n 2, 1) := by decide +kernel
theorem dX5_fold_20 : decode cX5_fold 20 = .ok (.ifCond .ne 12, 3) := by decide +kernel
theorem dX5_fold_23 : decode cX5_fold 23 = .ok (.aload_n 0, 1) := by decide +kernel
theorem dX5_fold_24 : decode cX5_fold 24 = .ok (.getfield 13, 3) := by decide +kernel
theorem dX5_fold_27 : decode cX5_fold 27 = .ok (.iload_n 1, 1) := by decide +kernel
theorem dX5_fold_28 : decode cX5_fold 28 = .ok (.iaload, 1) := by decide +kernel
theorem dX5_fold_29 : decode cX5_fold 29 = .ok (.goto 23, 3) := by decide +kernel
theorem dX5_fold_32 : decode cX5_fold 32 = .ok (.iload_n 2, 1) := by decide +kernel
theorem dX5_fold_33 : decode cX5_fold 33 = .ok (.iconst 1, 1) := by decide +kernel
theorem dX5_fold_34 : decode cX5_fold 34 = .ok (.if_icmp .ne 12, 3) := by decide +kernel
theorem dX5_fold_37 : decode cX5_fold 37 = .ok (.aload_n 0, 1) := by decide +kernel
theorem dX5_fold_38 : decode cX5_fold 38 = .ok (.getfield 16, 3) := by decide +kernel
theorem dX5_fold_41 : decode cX5_fold 41 = .ok (.iload_n 1, 1) := by decide +kernel
theorem dX5_fold_42 : decode cX5_fold 42 = .ok (.iaload, 1) := by decide +kernel
theorem dX5_fold_43 : decode cX5_fold 43 = .ok (.goto 9, 3) := by decide +kernel
theorem dX5_fold_46 : decode cX5_fold 46 = .ok (.aload_n 0, 1) := by decide +kernel
theorem dX5_fold_47 : decode cX5_fold 47 = .ok (.getfield 19, 3) := by decide +kernel
theorem dX5_fold_50 : decode cX5_fold 50 = .ok (.iload_n 1, 1) := by decide +kernel
theorem dX5_fold_51 : decode cX5_fold 51 = .ok (.iaload, 1) := by decide +kernel
theorem dX5_fold_52 : decode cX5_fold 52 = .ok (.ireturn, 1) := by decide +kernel
theorem dX5_hint_0 : decode cX5_hint 0 = .ok (.aload_n 0, 1) := by decide +kernel
theorem dX5_hint_1 : decode cX5_hint 1 = .ok (.iload_n 1, 1) := by decide +kernel
theorem dX5_hint_2 : decode cX5_hint 2 = .ok (.invokevirtual 159, 3) := by decide +kernel
theorem dX5_hint_5 : decode cX5_hint 5 = .ok (.ifCond .eq 12, 3) := by decide +kernel
theorem dX5_hint_8 : decode cX5_hint 8 = .ok (.iload_n 2, 1) := by decide +kernel
theorem dX5_hint_9 : decode cX5_hint 9 = .ok (.iconst 0, 1) := by decide +kernel
theorem dX5_hint_10 : decode cX5_hint 10 = .ok (.iconst 2, 1) := by decide +kernel
theorem dX5_hint_11 : decode cX5_hint 11 = .ok (.invokestatic 103, 3) := by decide +kernel
theorem dX5_hint_14 : decode cX5_hint 14 = .ok (.ifCond .ne 5, 3) := by decide +kernel
theorem dX5_hint_17 : decode cX5_hint 17 = .ok (.iconst (-1), 1) := by decide +kernel
theorem dX5_hint_18 : decode cX5_hint 18 = .ok (.ireturn, 1) := by decide +kernel
theorem dX5_hint_19 : decode cX5_hint 19 = .ok (.iload_n 2, 1) := by decide +kernel
theorem dX5_hint_20 : decode cX5_hint 20 = .ok (.ifCond .ne 12, 3) := by decide +kernel
theorem dX5_hint_23 : decode cX5_hint 23 = .ok (.aload_n 0, 1) := by decide +kernel
theorem dX5_hint_24 : decode cX5_hint 24 = .ok (.getfield 22, 3) := by decide +kernel
theorem dX5_hint_27 : decode cX5_hint 27 = .ok (.iload_n 1, 1) := by decide +kernel
theorem dX5_hint_28 : decode cX5_hint 28 = .ok (.iaload, 1) := by decide +kernel
theorem dX5_hint_29 : decode cX5_hint 29 = .ok (.goto 35, 3) := by decide +kernel
theorem dX5_hint_32 : decode cX5_hint 32 = .ok (.iload_n 2, 1) := by decide +kernel
theorem dX5_hint_33 : decode cX5_hint 33 = .ok (.iconst 1, 1) := by decide +kernel
theorem dX5_hint_34 : decode cX5_hint 34 = .ok (.if_icmp .ne 12, 3) := by decide +kernel
theorem dX5_hint_37 : decode cX5_hint 37 = .ok (.aload_n 0, 1) := by decide +kernel
theorem dX5_hint_38 : decode cX5_hint 38 = .ok (.getfield 25, 3) := by decide +kernel
theorem dX5_hint_41 : decode cX5_hint 41 = .ok (.iload_n 1, 1) := by decide +kernel
theorem dX5_hint_42 : decode cX5_hint 42 = .ok (.iaload, 1) := by decide +kernel
theorem dX5_hint_43 : decode cX5_hint 43 = .ok (.goto 21, 3) := by decide +kernel
theorem dX5_hint_46 : decode cX5_hint 46 = .ok (.aload_n 0, 1) := by decide +kernel
theorem dX5_hint_47 : decode cX5_hint 47 = .ok (.aload_n 0, 1) := by decide +kernel
theorem dX5_hint_48 : decode cX5_hint 48 = .ok (.getfield 22, 3) := by decide +kernel
theorem dX5_hint_51 : decode cX5_hint 51 = .ok (.iload_n 1, 1) := by decide +kernel
theorem dX5_hint_52 : decode cX5_hint 52 = .ok (.iaload, 1) := by decide +kernel
theorem dX5_hint_53 : decode cX5_hint 53 = .ok (.invokevirtual 162, 3) := by decide +kernel
theorem dX5_hint_56 : decode cX5_hint 56 = .ok (.ifCond .eq 7, 3) := by decide +kernel
theorem dX5_hint_59 : decode cX5_hint 59 = .ok (.iconst 1, 1) := by decide +kernel
theorem dX5_hint_60 : decode cX5_hint 60 = .ok (.goto 4, 3) := by decide +kernel
theorem dX5_hint_63 : decode cX5_hint 63 = .ok (.iconst 0, 1) := by decide +kernel
theorem dX5_hint_64 : decode cX5_hint 64 = .ok (.ireturn, 1) := by decide +kernel
theorem dX5_lays_0 : decode cX5_lays 0 = .ok (.aload_n 1, 1) := by decide +kernel
theorem dX5_lays_1 : decode cX5_lays 1 = .ok (.iload_n 2, 1) := by decide +kernel
theorem dX5_lays_2 : decode cX5_lays 2 = .ok (.aload_n 0, 1) := by decide +kernel
theorem dX5_lays_3 : decode cX5_lays 3 = .ok (.getfield 89, 3) := by decide +kernel
theorem dX5_lays_6 : decode cX5_lays 6 = .ok (.iastore, 1) := by decide +kernel
theorem dX5_lays_7 : decode cX5_lays 7 = .ok (.aload_n 1, 1) := by decide +kernel
theorem dX5_lays_8 : decode cX5_lays 8 = .ok (.iload_n 2, 1) := by decide +kernel
theorem dX5_lays_9 : decode cX5_lays 9 = .ok (.iconst 1, 1) := by decide +kernel
theorem dX5_lays_10 : decode cX5_lays 10 = .ok (.iadd, 1) := by decide +kernel
theorem dX5_lays_11 : decode cX5_lays 11 = .ok (.aload_n 0, 1) := by decide +kernel
theorem dX5_lays_12 : decode cX5_lays 12 = .ok (.getfield 107, 3) := by decide +kernel
theorem dX5_lays_15 : decode cX5_lays 15 = .ok (.iastore, 1) := by decide +kernel
theorem dX5_lays_16 : decode cX5_lays 16 = .ok (.aload_n 1, 1) := by decide +kernel
theorem dX5_lays_17 : decode cX5_lays 17 = .ok (.iload_n 2, 1) := by decide +kernel
theorem dX5_lays_18 : decode cX5_lays 18 = .ok (.iconst 2, 1) := by decide +kernel
theorem dX5_lays_19 : decode cX5_lays 19 = .ok (.iadd, 1) := by decide +kernel
theorem dX5_lays_20 : decode cX5_lays 20 = .ok (.aload_n 0, 1) := by decide +kernel
theorem dX5_lays_21 : decode cX5_lays 21 = .ok (.getfield 110, 3) := by decide +kernel
theorem dX5_lays_24 : decode cX5_lays 24 = .ok (.iastore, 1) := by decide +kernel
theorem dX5_lays_25 : decode cX5_lays 25 = .ok (.aload_n 1, 1) := by decide +kernel
theorem dX5_lays_26 : decode cX5_lays 26 = .ok (.iload_n 2, 1) := by decide +kernel
theorem dX5_lays_27 : decode cX5_lays 27 = .ok (.iconst 3, 1) := by decide +kernel
theorem dX5_lays_28 : decode cX5_lays 28 = .ok (.iadd, 1) := by decide +kernel
theorem dX5_lays_29 : decode cX5_lays 29 = .ok (.aload_n 0, 1) := by decide +kernel
theorem dX5_lays_30 : decode cX5_lays 30 = .ok (.getfield 28, 3) := by decide +kernel
theorem dX5_lays_33 : decode cX5_lays 33 = .ok (.iastore, 1) := by decide +kernel
theorem dX5_lays_34 : decode cX5_lays 34 = .ok (.aload_n 1, 1) := by decide +kernel
theorem dX5_lays_35 : decode cX5_lays 35 = .ok (.iload_n 2, 1) := by decide +kernel
theorem dX5_lays_36 : decode cX5_lays 36 = .ok (.iconst 4, 1) := by decide +kernel
theorem dX5_lays_37 : decode cX5_lays 37 = .ok (.iadd, 1) := by decide +kernel
theorem dX5_lays_38 : decode cX5_lays 38 = .ok (.aload_n 0, 1) := by decide +kernel
theorem dX5_lays_39 : decode cX5_lays 39 = .ok (.getfield 32, 3) := by decide +kernel
theorem dX5_lays_42 : decode cX5_lays 42 = .ok (.iastore, 1) := by decide +kernel
theorem dX5_lays_43 : decode cX5_lays 43 = .ok (.aload_n 1, 1) := by decide +kernel
theorem dX5_lays_44 : decode cX5_lays 44 = .ok (.iload_n 2, 1) := by decide +kernel
theorem dX5_lays_45 : decode cX5_lays 45 = .ok (.iconst 5, 1) := by decide +kernel
theorem dX5_lays_46 : decode cX5_lays 46 = .ok (.iadd, 1) := by decide +kernel
theorem dX5_lays_47 : decode cX5_lays 47 = .ok (.aload_n 0, 1) := by decide +kernel
theorem dX5_lays_48 : decode cX5_lays 48 = .ok (.getfield 100, 3) := by decide +kernel
theorem dX5_lays_51 : decode cX5_lays 51 = .ok (.iastore, 1) := by decide +kernel
theorem dX5_lays_52 : decode cX5_lays 52 = .ok (.aload_n 1, 1) := by decide +kernel
theorem dX5_lays_53 : decode cX5_lays 53 = .ok (.iload_n 2, 1) := by decide +kernel
theorem dX5_lays_54 : decode cX5_lays 54 = .ok (.bipush 6, 2) := by decide +kernel
theorem dX5_lays_56 : decode cX5_lays 56 = .ok (.iadd, 1) := by decide +kernel
theorem dX5_lays_57 : decode cX5_lays 57 = .ok (.aload_n 0, 1) := by decide +kernel
theorem dX5_lays_58 : decode cX5_lays 58 = .ok (.getfield 35, 3) := by decide +kernel
theorem dX5_lays_61 : decode cX5_lays 61 = .ok (.iastore, 1) := by decide +kernel
theorem dX5_lays_62 : decode cX5_lays 62 = .ok (.iconst 0, 1) := by decide +kernel
theorem dX5_lays_63 : decode cX5_lays 63 = .ok (.istore_n 3, 1) := by decide +kernel
theorem dX5_lays_64 : decode cX5_lays 64 = .ok (.iload_n 3, 1) := by decide +kernel
theorem dX5_lays_65 : decode cX5_lays 65 = .ok (.iconst 4, 1) := by decide +kernel
theorem dX5_lays_66 : decode cX5_lays 66 = .ok (.if_icmp .ge 79, 3) := by decide +kernel
theorem dX5_lays_69 : decode cX5_lays 69 = .ok (.aload_n 1, 1) := by decide +kernel
theorem dX5_lays_70 : decode cX5_lays 70 = .ok (.iload_n 2, 1) := by decide +kernel
theorem dX5_lays_71 : decode cX5_lays 71 = .ok (.bipush 7, 2) := by decide +kernel
theorem dX5_lays_73 : decode cX5_lays 73 = .ok (.iadd, 1) := by decide +kernel
theorem dX5_lays_74 : decode cX5_lays 74 = .ok (.iload_n 3, 1) := by decide +kernel
theorem dX5_lays_75 : decode cX5_lays 75 = .ok (.iadd, 1) := by decide +kernel
theorem dX5_lays_76 : decode cX5_lays 76 = .ok (.aload_n 0, 1) := by decide +kernel
theorem dX5_lays_77 : decode cX5_lays 77 = .ok (.getfield 13, 3) := by decide +kernel
theorem dX5_lays_80 : decode cX5_lays 80 = .ok (.iload_n 3, 1) := by decide +kernel
theorem dX5_lays_81 : decode cX5_lays 81 = .ok (.iaload, 1) := by decide +kernel
theorem dX5_lays_82 : decode cX5_lays 82 = .ok (.iastore, 1) := by decide +kernel
theorem dX5_lays_83 : decode cX5_lays 83 = .ok (.aload_n 1, 1) := by decide +kernel
theorem dX5_lays_84 : decode cX5_lays 84 = .ok (.iload_n 2, 1) := by decide +kernel
theorem dX5_lays_85 : decode cX5_lays 85 = .ok (.bipush 11, 2) := by decide +kernel
theorem dX5_lays_87 : decode cX5_lays 87 = .ok (.iadd, 1) := by decide +kernel
theorem dX5_lays_88 : decode cX5_lays 88 = .ok (.iload_n 3, 1) := by decide +kernel
theorem dX5_lays_89 : decode cX5_lays 89 = .ok (.iadd, 1) := by decide +kernel
theorem dX5_lays_90 : decode cX5_lays 90 = .ok (.aload_n 0, 1) := by decide +kernel
theorem dX5_lays_91 : decode cX5_lays 91 = .ok (.getfield 16, 3) := by decide +kernel
theorem dX5_lays_94 : decode cX5_lays 94 = .ok (.iload_n 3, 1) := by decide +kernel
theorem dX5_lays_95 : decode cX5_lays 95 = .ok (.iaload, 1) := by decide +kernel
theorem dX5_lays_96 : decode cX5_lays 96 = .ok (.iastore, 1) := by decide +kernel
theorem dX5_lays_97 : decode cX5_lays 97 = .ok (.aload_n 1, 1) := by decide +kernel
theorem dX5_lays_98 : decode cX5_lays 98 = .ok (.iload_n 2, 1) := by decide +kernel
theorem dX5_lays_99 : decode cX5_lays 99 = .ok (.bipush 15, 2) := by decide +kernel
theorem dX5_lays_101 : decode cX5_lays 101 = .ok (.iadd, 1) := by decide +kernel
theorem dX5_lays_102 : decode cX5_lays 102 = .ok (.iload_n 3, 1) := by decide +kernel
theorem dX5_lays_103 : decode cX5_lays 103 = .ok (.iadd, 1) := by decide +kernel
theorem dX5_lays_104 : decode cX5_lays 104 = .ok (.aload_n 0, 1) := by decide +kernel
theorem dX5_lays_105 : decode cX5_lays 105 = .ok (.getfield 19, 3) := by decide +kernel
theorem dX5_lays_108 : decode cX5_lays 108 = .ok (.iload_n 3, 1) := by decide +kernel
theorem dX5_lays_109 : decode cX5_lays 109 = .ok (.iaload, 1) := by decide +kernel
theorem dX5_lays_110 : decode cX5_lays 110 = .ok (.iastore, 1) := by decide +kernel
theorem dX5_lays_111 : decode cX5_lays 111 = .ok (.aload_n 1, 1) := by decide +kernel
theorem dX5_lays_112 : decode cX5_lays 112 = .ok (.iload_n 2, 1) := by decide +kernel
theorem dX5_lays_113 : decode cX5_lays 113 = .ok (.bipush 19, 2) := by decide +kernel
theorem dX5_lays_115 : decode cX5_lays 115 = .ok (.iadd, 1) := by decide +kernel
theorem dX5_lays_116 : decode cX5_lays 116 = .ok (.iload_n 3, 1) := by decide +kernel
theorem dX5_lays_117 : decode cX5_lays 117 = .ok (.iadd, 1) := by decide +kernel
theorem dX5_lays_118 : decode cX5_lays 118 = .ok (.aload_n 0, 1) := by decide +kernel
theorem dX5_lays_119 : decode cX5_lays 119 = .ok (.getfield 22, 3) := by decide +kernel
theorem dX5_lays_122 : decode cX5_lays 122 = .ok (.iload_n 3, 1) := by decide +kernel
theorem dX5_lays_123 : decode cX5_lays 123 = .ok (.iaload, 1) := by decide +kernel
theorem dX5_lays_124 : decode cX5_lays 124 = .ok (.iastore, 1) := by decide +kernel
theorem dX5_lays_125 : decode cX5_lays 125 = .ok (.aload_n 1, 1) := by decide +kernel
theorem dX5_lays_126 : decode cX5_lays 126 = .ok (.iload_n 2, 1) := by decide +kernel
theorem dX5_lays_127 : decode cX5_lays 127 = .ok (.bipush 23, 2) := by decide +kernel
theorem dX5_lays_129 : decode cX5_lays 129 = .ok (.iadd, 1) := by decide +kernel
theorem dX5_lays_130 : decode cX5_lays 130 = .ok (.iload_n 3, 1) := by decide +kernel
theorem dX5_lays_131 : decode cX5_lays 131 = .ok (.iadd, 1) := by decide +kernel
theorem dX5_lays_132 : decode cX5_lays 132 = .ok (.aload_n 0, 1) := by decide +kernel
