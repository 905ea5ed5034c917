theorem dX12_init_0 : decode cX12_init 0 = .ok (.aload_n 0, 1) := by decide +kernel
theorem dX12_init_1 : decode cX12_init 1 = .ok (.invokespecial 1, 3) := by decide +kernel
theorem dX12_init_4 : decode cX12_init 4 = .ok (.aload_n 0, 1) := by decide +kernel
theorem dX12_init_5 : decode cX12_init 5 = .ok (.bipush 7, 2) := by decide +kernel
theorem dX12_init_7 : decode cX12_init 7 = .ok (.newarray .int, 2) := by decide +kernel
theorem dX12_init_9 : decode cX12_init 9 = .ok (.putfield 7, 3) := by decide +kernel
theorem dX12_init_12 : decode cX12_init 12 = .ok (.aload_n 0, 1) := by decide +kernel
theorem dX12_init_13 : decode cX12_init 13 = .ok (.bipush 10, 2) := by decide +kernel
theorem dX12_init_15 : decode cX12_init 15 = .ok (.newarray .int, 2) := by decide +kernel
theorem dX12_init_17 : decode cX12_init 17 = .ok (.putfield 13, 3) := by decide +kernel
theorem dX12_init_20 : decode cX12_init 20 = .ok (.aload_n 0, 1) := by decide +kernel
theorem dX12_init_21 : decode cX12_init 21 = .ok (.bipush 10, 2) := by decide +kernel
theorem dX12_init_23 : decode cX12_init 23 = .ok (.newarray .int, 2) := by decide +kernel
theorem dX12_init_25 : decode cX12_init 25 = .ok (.putfield 16, 3) := by decide +kernel
theorem dX12_init_28 : decode cX12_init 28 = .ok (.aload_n 0, 1) := by decide +kernel
theorem dX12_init_29 : decode cX12_init 29 = .ok (.bipush 10, 2) := by decide +kernel
theorem dX12_init_31 : decode cX12_init 31 = .ok (.newarray .int, 2) := by decide +kernel
theorem dX12_init_33 : decode cX12_init 33 = .ok (.putfield 19, 3) := by decide +kernel
theorem dX12_init_36 : decode cX12_init 36 = .ok (.aload_n 0, 1) := by decide +kernel
theorem dX12_init_37 : decode cX12_init 37 = .ok (.bipush 10, 2) := by decide +kernel
theorem dX12_init_39 : decode cX12_init 39 = .ok (.newarray .int, 2) := by decide +kernel
theorem dX12_init_41 : decode cX12_init 41 = .ok (.putfield 22, 3) := by decide +kernel
theorem dX12_init_44 : decode cX12_init 44 = .ok (.aload_n 0, 1) := by decide +kernel
theorem dX12_init_45 : decode cX12_init 45 = .ok (.bipush 10, 2) := by decide +kernel
theorem dX12_init_47 : decode cX12_init 47 = .ok (.newarray .int, 2) := by decide +kernel
theorem dX12_init_49 : decode cX12_init 49 = .ok (.putfield 25, 3) := by decide +kernel
theorem dX12_init_52 : decode cX12_init 52 = .ok (.aload_n 0, 1) := by decide +kernel
theorem dX12_init_53 : decode cX12_init 53 = .ok (.bipush 10, 2) := by decide +kernel
theorem dX12_init_55 : decode cX12_init 55 = .ok (.newarray .int, 2) := by decide +kernel
theorem dX12_init_57 : decode cX12_init 57 = .ok (.putfield 28, 3) := by decide +kernel
theorem dX12_init_60 : decode cX12_init 60 = .ok (.aload_n 0, 1) := by decide +kernel
theorem dX12_init_61 : decode cX12_init 61 = .ok (.bipush 10, 2) := by decide +kernel
theorem dX12_init_63 : decode cX12_init 63 = .ok (.newarray .int, 2) := by decide +kernel
theorem dX12_init_65 : decode cX12_init 65 = .ok (.putfield 31, 3) := by decide +kernel
theorem dX12_init_68 : decode cX12_init 68 = .ok (.aload_n 0, 1) := by decide +kernel
theorem dX12_init_69 : decode cX12_init 69 = .ok (.bipush 10, 2) := by decide +kernel
theorem dX12_init_71 : decode cX12_init 71 = .ok (.newarray .int, 2) := by decide +kernel
theorem dX12_init_73 : decode cX12_init 73 = .ok (.putfield 34, 3) := by decide +kernel
theorem dX12_init_76 : decode cX12_init 76 = .ok (.aload_n 0, 1) := by decide +kernel
theorem dX12_init_77 : decode cX12_init 77 = .ok (.iconst 4, 1) := by decide +kernel
theorem dX12_init_78 : decode cX12_init 78 = .ok (.newarray .int, 2) := by decide +kernel
theorem dX12_init_80 : decode cX12_init 80 = .ok (.dup, 1) := by decide +kernel
theorem dX12_init_81 : decode cX12_init 81 = .ok (.iconst 0, 1) := by decide +kernel
theorem dX12_init_82 : decode cX12_init 82 = .ok (.iconst 0, 1) := by decide +kernel
theorem dX12_init_83 : decode cX12_init 83 = .ok (.iastore, 1) := by decide +kernel
theorem dX12_init_84 : decode cX12_init 84 = .ok (.dup, 1) := by decide +kernel
theorem dX12_init_85 : decode cX12_init 85 = .ok (.iconst 1, 1) := by decide +kernel
theorem dX12_init_86 : decode cX12_init 86 = .ok (.bipush 12, 2) := by decide +kernel
theorem dX12_init_88 : decode cX12_init 88 = .ok (.iastore, 1) := by decide +kernel
theorem dX12_init_89 : decode cX12_init 89 = .ok (.dup, 1) := by decide +kernel
theorem dX12_init_90 : decode cX12_init 90 = .ok (.iconst 2, 1) := by decide +kernel
theorem dX12_init_91 : decode cX12_init 91 = .ok (.iconst 5, 1) := by decide +kernel
theorem dX12_init_92 : decode cX12_init 92 = .ok (.iastore, 1) := by decide +kernel
theorem dX12_init_93 : decode cX12_init 93 = .ok (.dup, 1) := by decide +kernel
theorem dX12_init_94 : decode cX12_init 94 = .ok (.iconst 3, 1) := by decide +kernel
theorem dX12_init_95 : decode cX12_init 95 = .ok (.iconst 0, 1) := by decide +kernel
theorem dX12_init_96 : decode cX12_init 96 = .ok (.iastore, 1) := by decide +kernel
theorem dX12_init_97 : decode cX12_init 97 = .ok (.putfield 37, 3) := by decide +kernel
theorem dX12_init_100 : decode cX12_init 100 = .ok (.aload_n 0, 1) := by decide +kernel
theorem dX12_init_101 : decode cX12_init 101 = .ok (.bipush 40, 2) := by decide +kernel
theorem dX12_init_103 : decode cX12_init 103 = .ok (.newarray .int, 2) := by decide +kernel
theorem dX12_init_105 : decode cX12_init 105 = .ok (.putfield 40, 3) := by decide +kernel
theorem dX12_init_108 : decode cX12_init 108 = .ok (.aload_n 0, 1) := by decide +kernel
theorem dX12_init_109 : decode cX12_init 109 = .ok (.bipush 40, 2) := by decide +kernel
theorem dX12_init_111 : decode cX12_init 111 = .ok (.newarray .int, 2) := by decide +kernel
theorem dX12_init_113 : decode cX12_init 113 = .ok (.putfield 43, 3) := by decide +kernel
theorem dX12_init_116 : decode cX12_init 116 = .ok (.aload_n 0, 1) := by decide +kernel
theorem dX12_init_117 : decode cX12_init 117 = .ok (.bipush 40, 2) := by decide +kernel
theorem dX12_init_119 : decode cX12_init 119 = .ok (.newarray .int, 2) := by decide +kernel
theorem dX12_init_121 : decode cX12_init 121 = .ok (.putfield 46, 3) := by decide +kernel
theorem dX12_init_124 : decode cX12_init 124 = .ok (.aload_n 0, 1) := by decide +kernel
theorem dX12_init_125 : decode cX12_init 125 = .ok (.bipush 40, 2) := by decide +kernel
theorem dX12_init_127 : decode cX12_init 127 = .ok (.newarray .int, 2) := by decide +kernel
theorem dX12_init_129 : decode cX12_init 129 = .ok (.putfield 49, 3) := by decide +kernel
theorem dX12_init_132 : decode cX12_init 132 = .ok (.aload_n 0, 1) := by decide +kernel
theorem dX12_init_133 : decode cX12_init 133 = .ok (.bipush 120, 2) := by decide +kernel
theorem dX12_init_135 : decode cX12_init 135 = .ok (.newarray .byte, 2) := by decide +kernel
theorem dX12_init_137 : decode cX12_init 137 = .ok (.putfield 52, 3) := by decide +kernel
theorem dX12_init_140 : decode cX12_init 140 = .ok (.aload_n 0, 1) := by decide +kernel
theorem dX12_init_141 : decode cX12_init 141 = .ok (.sipush 260, 3) := by decide +kernel
theorem dX12_init_144 : decode cX12_init 144 = .ok (.newarray .byte, 2) := by decide +kernel
theorem dX12_init_146 : decode cX12_init 146 = .ok (.putfield 56, 3) := by decide +kernel
theorem dX12_init_149 : decode cX12_init 149 = .ok (.aload_n 0, 1) := by decide +kernel
theorem dX12_init_150 : decode cX12_init 150 = .ok (.sipush 260, 3) := by decide +kernel
theorem dX12_init_153 : decode cX12_init 153 = .ok (.newarray .int, 2) := by decide +kernel
theorem dX12_init_155 : decode cX12_init 155 = .ok (.putfield 59, 3) := by decide +kernel
theorem dX12_init_158 : decode cX12_init 158 = .ok (.aload_n 0, 1) := by decide +kernel
theorem dX12_init_159 : decode cX12_init 159 = .ok (.iconst 2, 1) := by decide +kernel
theorem dX12_init_160 : decode cX12_init 160 = .ok (.newarray .int, 2) := by decide +kernel
theorem dX12_init_162 : decode cX12_init 162 = .ok (.putfield 62, 3) := by decide +kernel
theorem dX12_init_165 : decode cX12_init 165 = .ok (.aload_n 0, 1) := by decide +kernel
theorem dX12_init_166 : decode cX12_init 166 = .ok (.bipush 122, 2) := by decide +kernel
theorem dX12_init_168 : decode cX12_init 168 = .ok (.newarray .short, 2) := by decide +kernel
theorem dX12_init_170 : decode cX12_init 170 = .ok (.putfield 65, 3) := by decide +kernel
theorem dX12_init_173 : decode cX12_init 173 = .ok (.aload_n 0, 1) := by decide +kernel
theorem dX12_init_174 : decode cX12_init 174 = .ok (.bipush 122, 2) := by decide +kernel
theorem dX12_init_176 : decode cX12_init 176 = .ok (.newarray .short, 2) := by decide +kernel
theorem dX12_init_178 : decode cX12_init 178 = .ok (.putfield 69, 3) := by decide +kernel
theorem dX12_init_181 : decode cX12_init 181 = .ok (.aload_n 0, 1) := by decide +kernel
theorem dX12_init_182 : decode cX12_init 182 = .ok (.bipush 6, 2) := by decide +kernel
theorem dX12_init_184 : decode cX12_init 184 = .ok (.newarray .int, 2) := by decide +kernel
theorem dX12_init_186 : decode cX12_init 186 = .ok (.putfield 72, 3) := by decide +kernel
theorem dX12_init_189 : decode cX12_init 189 = .ok (.aload_n 0, 1) := by decide +kernel
theorem dX12_init_190 : decode cX12_init 190 = .ok (.sipush 130, 3) := by decide +kernel
theorem dX12_init_193 : decode cX12_init 193 = .ok (.newarray .int, 2) := by decide +kernel
theorem dX12_init_195 : decode cX12_init 195 = .ok (.putfield 75, 3) := by decide +kernel
theorem dX12_init_198 : decode cX12_init 198 = .ok (.aload_n 0, 1) := by decide +kernel
theorem dX12_init_199 : decode cX12_init 199 = .ok (.bipush 7, 2) := by decide +kernel
theorem dX12_init_201 : decode cX12_init 201 = .ok (.newarray .int, 2) := by decide +kernel
theorem dX12_init_203 : decode cX12_init 203 = .ok (.putfield 78, 3) := by decide +kernel
theorem dX12_init_206 : decode cX12_init 206 = .ok (.aload_n 0, 1) := by decide +kernel
theorem dX12_init_207 : decode cX12_init 207 = .ok (.bipush 10, 2) := by decide +kernel
theorem dX12_init_209 : decode cX12_init 209 = .ok (.newarray .int, 2) := by decide +kernel
theorem dX12_init_211 : decode cX12_init 211 = .ok (.putfield 81, 3) := by decide +kernel
theorem dX12_init_214 : decode cX12_init 214 = .ok (.aload_n 0, 1) := by decide +kernel
theorem dX12_init_215 : decode cX12_init 215 = .ok (.bipush 10, 2) := by decide +kernel
theorem dX12_init_217 : decode cX12_init 217 = .ok (.newarray .int, 2) := by decide +kernel
theorem dX12_init_219 : decode cX12_init 219 = .ok (.putfield 84, 3) := by decide +kernel
theorem dX12_init_222 : decode cX12_init 222 = .ok (.aload_n 0, 1) := by decide +kernel
theorem dX12_init_223 : decode cX12_init 223 = .ok (.bipush 10, 2) := by decide +kernel
theorem dX12_init_225 : decode cX12_init 225 = .ok (.newarray .int, 2) := by decide +kernel
theorem dX12_init_227 : decode cX12_init 227 = .ok (.putfield 87, 3) := by decide +kernel
theorem dX12_init_230 : decode cX12_init 230 = .ok (.aload_n 0, 1) := by decide +kernel
theorem dX12_init_231 : decode cX12_init 231 = .ok (.bipush 6, 2) := by decide +kernel
theorem dX12_init_233 : decode cX12_init 233 = .ok (.newarray .int, 2) := by decide +kernel
theorem dX12_init_235 : decode cX12_init 235 = .ok (.putfield 90, 3) := by decide +kernel
theorem dX12_init_238 : decode cX12_init 238 = .ok (.aload_n 0, 1) := by decide +kernel
theorem dX12_init_239 : decode cX12_init 239 = .ok (.bipush 7, 2) := by decide +kernel
theorem dX12_init_241 : decode cX12_init 241 = .ok (.newarray .int, 2) := by decide +kernel
theorem dX12_init_243 : decode cX12_init 243 = .ok (.putfield 93, 3) := by decide +kernel
theorem dX12_init_246 : decode cX12_init 246 = .ok (.aload_n 0, 1) := by decide +kernel
theorem dX12_init_247 : decode cX12_init 247 = .ok (.bipush 10, 2) := by decide +kernel
theorem dX12_init_249 : decode cX12_init 249 = .ok (.newarray .int, 2) := by decide +kernel
theorem dX12_init_251 : decode cX12_init 251 = .ok (.putfield 96, 3) := by decide +kernel
theorem dX12_init_254 : decode cX12_init 254 = .ok (.aload_n 0, 1) := by decide +kernel
theorem dX12_init_255 : decode cX12_init 255 = .ok (.bipush 10, 2) := by decide +kernel
theorem dX12_init_257 : decode cX12_init 257 = .ok (.newarray .int, 2) := by decide +kernel
theorem dX12_init_259 : decode cX12_init 259 = .ok (.putfield 99, 3) := by decide +kernel
theorem dX12_init_262 : decode cX12_init 262 = .ok (.aload_n 0, 1) := by decide +kernel
theorem dX12_init_263 : decode cX12_init 263 = .ok (.bipush 6, 2) := by decide +kernel
theorem dX12_init_265 : decode cX12_init 265 = .ok (.newarray .int, 2) := by decide +kernel
theorem dX12_init_267 : decode cX12_init 267 = .ok (.putfield 102, 3) := by decide +kernel
theorem dX12_init_270 : decode cX12_init 270 = .ok (.aload_n 0, 1) := by decide +kernel
theorem dX12_init_271 : decode cX12_init 271 = .ok (.bipush 50, 2) := by decide +kernel
theorem dX12_init_273 : decode cX12_init 273 = .ok (.newarray .int, 2) := by decide +kernel
theorem dX12_init_275 : decode cX12_init 275 = .ok (.putfield 105, 3) := by decide +kernel
theorem dX12_init_278 : decode cX12_init 278 = .ok (.aload_n 0, 1) := by decide +kernel
theorem dX12_init_279 : decode cX12_init 279 = .ok (.bipush 24, 2) := by decide +kernel
theorem dX12_init_281 : decode cX12_init 281 = .ok (.newarray .int, 2) := by decide +kernel
theorem dX12_init_283 : decode cX12_init 283 = .ok (.putfield 108, 3) := by decide +kernel
theorem dX12_init_286 : decode cX12_init 286 = .ok (.aload_n 0, 1) := by decide +kernel
theorem dX12_init_287 : decode cX12_init 287 = .ok (.bipush 6, 2) := by decide +kernel
theorem dX12_init_289 : decode cX12_init 289 = .ok (.newarray .int, 2) := by decide +kernel
theorem dX12_init_291 : decode cX12_init 291 = .ok (.dup, 1) := by decide +kernel
theorem dX12_init_292 : decode cX12_init 292 = .ok (.iconst 0, 1) := by decide +kernel
theorem dX12_init_293 : decode cX12_init 293 = .ok (.iconst (-1), 1) := by decide +kernel
theorem dX12_init_294 : decode cX12_init 294 = .ok (.iastore, 1) := by decide +kernel
theorem dX12_init_295 : decode cX12_init 295 = .ok (.dup, 1) := by decide +kernel
theorem dX12_init_296 : decode cX12_init 296 = .ok (.iconst 1, 1) := by decide +kernel
theorem dX12_init_297 : decode cX12_init 297 = .ok (.iconst (-1), 1) := by decide +kernel
theorem dX12_init_298 : decode cX12_init 298 = .ok (.iastore, 1) := by decide +kernel
theorem dX12_init_299 : decode cX12_init 299 = .ok (.dup, 1) := by decide +kernel
theorem dX12_init_300 : decode cX12_init 300 = .ok (.iconst 2, 1) := by decide +kernel
theorem dX12_init_301 : decode cX12_init 301 = .ok (.iconst (-1), 1) := by decide +kernel
theorem dX12_init_302 : decode cX12_init 302 = .ok (.iastore, 1) := by decide +kernel
theorem dX12_init_303 : decode cX12_init 303 = .ok (.dup, 1) := by decide +kernel
theorem dX12_init_304 : decode cX12_init 304 = .ok (.iconst 3, 1) := by decide +kernel
theorem dX12_init_305 : decode cX12_init 305 = .ok (.iconst (-1), 1) := by decide +kernel
theorem dX12_init_306 : decode cX12_init 306 = .ok (.iastore, 1) := by decide +kernel
theorem dX12_init_307 : decode cX12_init 307 = .ok (.dup, 1) := by decide +kernel
theorem dX12_init_308 : decode cX12_init 308 = .ok (.iconst 4, 1) := by decide +kernel
theorem dX12_init_309 : decode cX12_init 309 = .ok (.iconst (-1), 1) := by decide +kernel
theorem dX12_init_310 : decode cX12_init 310 = .ok (.iastore, 1) := by decide +kernel
theorem dX12_init_311 : decode cX12_init 311 = .ok (.dup, 1) := by decide +kernel
theorem dX12_init_312 : decode cX12_init 312 = .ok (.iconst 5, 1) := by decide +kernel
theorem dX12_init_313 : decode cX12_init 313 = .ok (.iconst (-1), 1) := by decide +kernel
theorem dX12_init_314 : decode cX12_init 314 = .ok (.iastore, 1) := by decide +kernel
theorem dX12_init_315 : decode cX12_init 315 = .ok (.putfield 111, 3) := by decide +kernel
theorem dX12_init_318 : decode cX12_init 318 = .ok (.aload_n 0, 1) := by decide +kernel
theorem dX12_init_319 : decode cX12_init 319 = .ok (.bipush 6, 2) := by decide +kernel
theorem dX12_init_321 : decode cX12_init 321 = .ok (.newarray .int, 2) := by decide +kernel
theorem dX12_init_323 : decode cX12_init 323 = .ok (.putfield 114, 3) := by decide +kernel
theorem dX12_init_326 : decode cX12_init 326 = .ok (.aload_n 0, 1) := by decide +kernel
theorem dX12_init_327 : decode cX12_init 327 = .ok (.sipush 360, 3) := by decide +kernel
theorem dX12_init_330 : decode cX12_init 330 = .ok (.newarray .long, 2) := by decide +kernel
theorem dX12_init_332 : decode cX12_init 332 = .ok (.putfield 117, 3) := by decide +kernel
theorem dX12_init_335 : decode cX12_init 335 = .ok (.aload_n 0, 1) := by decide +kernel
theorem dX12_init_336 : decode cX12_init 336 = .ok (.bipush 60, 2) := by decide +kernel
theorem dX12_init_338 : decode cX12_init 338 = .ok (.newarray .long, 2) := by decide +kernel
theorem dX12_init_340 : decode cX12_init 340 = .ok (.putfield 121, 3) := by decide +kernel
theorem dX12_init_343 : decode cX12_init 343 = .ok (.return_, 1) := by decide +kernel
theorem dX12_in_0 : decode cX12_in 0 = .ok (.iload_n 0, 1) := by decide +kernel
theorem dX12_in_1 : decode cX12_in 1 = .ok (.iload_n 1, 1) := by decide +kernel
theorem dX12_in_2 : decode cX12_in 2 = .ok (.if_icmp .lt 12, 3) := by decide +kernel
theorem dX12_in_5 : decode cX12_in 5 = .ok (.iload_n 0, 1) := by decide +kernel
theorem dX12_in_6 : decode cX12_in 6 = .ok (.iload_n 2, 1) := by decide +kernel
theorem dX12_in_7 : decode cX12_in 7 = .ok (.if_icmp .gt 7, 3) := by decide +kernel
theorem dX12_in_10 : decode cX12_in 10 = .ok (.iconst 1, 1) := by decide +kernel
theorem dX12_in_11 : decode cX12_in 11 = .ok (.goto 4, 3) := by decide +kernel
theorem dX12_in_14 : decode cX12_in 14 = .ok (.iconst 0, 1) := by decide +kernel
theorem dX12_in_15 : decode cX12_in 15 = .ok (.ireturn, 1) := by decide +kernel
theorem dX12_has_0 : decode cX12_has 0 = .ok (.iload_n 0, 1) := by decide +kernel
theorem dX12_has_1 : decode cX12_has 1 = .ok (.iload_n 1, 1) := by decide +kernel
theorem dX12_has_2 : decode cX12_has 2 = .ok (.ishr, 1) := by decide +kernel
theorem dX12_has_3 : decode cX12_has 3 = .ok (.iconst 1, 1) := by decide +kernel
theorem dX12_has_4 : decode cX12_has 4 = .ok (.iand, 1) := by decide +kernel
theorem dX12_has_5 : decode cX12_has 5 = .ok (.iconst 1, 1) := by decide +kernel
theorem dX12_has_6 : decode cX12_has 6 = .ok (.if_icmp .ne 7, 3) := by decide +kernel
theorem dX12_has_9 : decode cX12_has 9 = .ok (.iconst 1, 1) := by decide +kernel
theorem dX12_has_10 : decode cX12_has 10 = .ok (.goto 4, 3) := by decide +kernel
theorem dX12_has_13 : decode cX12_has 13 = .ok (.iconst 0, 1) := by decide +kernel
theorem dX12_has_14 : decode cX12_has 14 = .ok (.ireturn, 1) := by decide +kernel
theorem dX12_bitsOf_0 : decode cX12_bitsOf 0 = .ok (.iconst 0, 1) := by decide +kernel
theorem dX12_bitsOf_1 : decode cX12_bitsOf 1 = .ok (.istore_n 1, 1) := by decide +kernel
theorem dX12_bitsOf_2 : decode cX12_bitsOf 2 = .ok (.iload_n 0, 1) := by decide +kernel
theorem dX12_bitsOf_3 : decode cX12_bitsOf 3 = .ok (.istore_n 2, 1) := by decide +kernel
theorem dX12_bitsOf_4 : decode cX12_bitsOf 4 = .ok (.iload_n 2, 1) := by decide +kernel
theorem dX12_bitsOf_5 : decode cX12_bitsOf 5 = .ok (.ifCond .eq 15, 3) := by decide +kernel
theorem dX12_bitsOf_8 : decode cX12_bitsOf 8 = .ok (.iinc 1 1, 3) := by decide +kernel
theorem dX12_bitsOf_11 : decode cX12_bitsOf 11 = .ok (.iload_n 2, 1) := by decide +kernel
theorem dX12_bitsOf_12 : decode cX12_bitsOf 12 = .ok (.iload_n 2, 1) := by decide +kernel
theorem dX12_bitsOf_13 : decode cX12_bitsOf 13 = .ok (.iconst 1, 1) := by decide +kernel
theorem dX12_bitsOf_14 : decode cX12_bitsOf 14 = .ok (.isub, 1) := by decide +kernel
theorem dX12_bitsOf_15 : decode cX12_bitsOf 15 = .ok (.iand, 1) := by decide +kernel
theorem dX12_bitsOf_16 : decode cX12_bitsOf 16 = .ok (.istore_n 2, 1) := by decide +kernel
theorem dX12_bitsOf_17 : decode cX12_bitsOf 17 = .ok (.goto (-13), 3) := by decide +kernel
theorem dX12_bitsOf_20 : decode cX12_bitsOf 20 = .ok (.iload_n 1, 1) := by decide +kernel
theorem dX12_bitsOf_21 : decode cX12_bitsOf 21 = .ok (.ireturn, 1) := by decide +kernel
theorem dX12_isOne_0 : decode cX12_isOne 0 = .ok (.iload_n 1, 1) := by decide +kernel
theorem dX12_isOne_1 : decode cX12_isOne 1 = .ok (.iconst 0, 1) := by decide +kernel
theorem dX12_isOne_2 : decode cX12_isOne 2 = .ok (.aload_n 0, 1) := by decide +kernel
theorem dX12_isOne_3 : decode cX12_isOne 3 = .ok (.getfield 128, 3) := by decide +kernel
theorem dX12_isOne_6 : decode cX12_isOne 6 = .ok (.iconst 1, 1) := by decide +kernel
theorem dX12_isOne_7 : decode cX12_isOne 7 = .ok (.isub, 1) := by decide +kernel
theorem dX12_isOne_8 : decode cX12_isOne 8 = .ok (.invokestatic 131, 3) := by decide +kernel
theorem dX12_isOne_11 : decode cX12_isOne 11 = .ok (.ireturn, 1) := by decide +kernel
theorem dX12_isJoy_0 : decode cX12_isJoy 0 = .ok (.iload_n 1, 1) := by decide +kernel
theorem dX12_isJoy_1 : decode cX12_isJoy 1 = .ok (.iconst 0, 1) := by decide +kernel
theorem dX12_isJoy_2 : decode cX12_isJoy 2 = .ok (.aload_n 0, 1) := by decide +kernel
theorem dX12_isJoy_3 : decode cX12_isJoy 3 = .ok (.getfield 135, 3) := by decide +kernel
theorem dX12_isJoy_6 : decode cX12_isJoy 6 = .ok (.iconst 1, 1) := by decide +kernel
theorem dX12_isJoy_7 : decode cX12_isJoy 7 = .ok (.isub, 1) := by decide +kernel
theorem dX12_isJoy_8 : decode cX12_isJoy 8 = .ok (.invokestatic 131, 3) := by decide +kernel
theorem dX12_isJoy_11 : decode cX12_isJoy 11 = .ok (.ireturn, 1) := by decide +kernel
theorem dX12_isHouse_0 : decode cX12_isHouse 0 = .ok (.iload_n 0, 1) := by decide +kernel
theorem dX12_isHouse_1 : decode cX12_isHouse 1 = .ok (.iconst 0, 1) := by decide +kernel
theorem dX12_isHouse_2 : decode cX12_isHouse 2 = .ok (.bipush 11, 2) := by decide +kernel
theorem dX12_isHouse_4 : decode cX12_isHouse 4 = .ok (.invokestatic 131, 3) := by decide +kernel
theorem dX12_isHouse_7 : decode cX12_isHouse 7 = .ok (.ireturn, 1) := by decide +kernel
theorem dX12_isSide_0 : decode cX12_isSide 0 = .ok (.iload_n 0, 1) := by decide +kernel
theorem dX12_isSide_1 : decode cX12_isSide 1 = .ok (.iconst 0, 1) := by decide +kernel
theorem dX12_isSide_2 : decode cX12_isSide 2 = .ok (.iconst 1, 1) := by decide +kernel
theorem dX12_isSide_3 : decode cX12_isSide 3 = .ok (.invokestatic 131, 3) := by decide +kernel
theorem dX12_isSide_6 : decode cX12_isSide 6 = .ok (.ireturn, 1) := by decide +kernel
theorem dX12_person_0 : decode cX12_person 0 = .ok (.iload_n 1, 1) := by decide +kernel
theorem dX12_person_1 : decode cX12_person 1 = .ok (.invokestatic 138, 3) := by decide +kernel
theorem dX12_person_4 : decode cX12_person 4 = .ok (.ifCond .ne 5, 3) := by decide +kernel
theorem dX12_person_7 : decode cX12_person 7 = .ok (.iconst (-1), 1) := by decide +kernel
theorem dX12_person_8 : decode cX12_person 8 = .ok (.ireturn, 1) := by decide +kernel
theorem dX12_person_9 : decode cX12_person 9 = .ok (.aload_n 0, 1) := by decide +kernel
theorem dX12_person_10 : decode cX12_person 10 = .ok (.getfield 128, 3) := by decide +kernel
theorem dX12_person_13 : decode cX12_person 13 = .ok (.bipush 7, 2) := by decide +kernel
theorem dX12_person_15 : decode cX12_person 15 = .ok (.if_icmp .ne 6, 3) := by decide +kernel
theorem dX12_person_18 : decode cX12_person 18 = .ok (.bipush (-3), 2) := by decide +kernel
theorem dX12_person_20 : decode cX12_person 20 = .ok (.ireturn, 1) := by decide +kernel
theorem dX12_person_21 : decode cX12_person 21 = .ok (.aload_n 0, 1) := by decide +kernel
theorem dX12_person_22 : decode cX12_person 22 = .ok (.getfield 7, 3) := by decide +kernel
theorem dX12_person_25 : decode cX12_person 25 = .ok (.aload_n 0, 1) := by decide +kernel
theorem dX12_person_26 : decode cX12_person 26 = .ok (.getfield 128, 3) := by decide +kernel
theorem dX12_person_29 : decode cX12_person 29 = .ok (.iload_n 1, 1) := by decide +kernel
theorem dX12_person_30 : decode cX12_person 30 = .ok (.iastore, 1) := by decide +kernel
theorem dX12_person_31 : decode cX12_person 31 = .ok (.aload_n 0, 1) := by decide +kernel
theorem dX12_person_32 : decode cX12_person 32 = .ok (.dup, 1) := by decide +kernel
theorem dX12_person_33 : decode cX12_person 33 = .ok (.getfield 128, 3) := by decide +kernel
theorem dX12_person_36 : decode cX12_person 36 = .ok (.iconst 1, 1) := by decide +kernel
theorem dX12_person_37 : decode cX12_person 37 = .ok (.iadd, 1) := by decide +kernel
theorem dX12_person_38 : decode cX12_person 38 = .ok (.putfield 128, 3) := by decide +kernel
theorem dX12_person_41 : decode cX12_person 41 = .ok (.aload_n 0, 1) := by decide +kernel
theorem dX12_person_42 : decode cX12_person 42 = .ok (.getfield 128, 3) := by decide +kernel
theorem dX12_person_45 : decode cX12_person 45 = .ok (.iconst 1, 1) := by decide +kernel
theorem dX12_person_46 : decode cX12_person 46 = .ok (.isub, 1) := by decide +kernel
theorem dX12_person_47 : decode cX12_person 47 = .ok (.ireturn, 1) := by decide +kernel
theorem dX12_addJoy_0 : decode cX12_addJoy 0 = .ok (.aload_n 0, 1) := by decide +kernel
theorem dX12_addJoy_1 : decode cX12_addJoy 1 = .ok (.getfield 13, 3) := by decide +kernel
theorem dX12_addJoy_4 : decode cX12_addJoy 4 = .ok (.aload_n 0, 1) := by decide +kernel
theorem dX12_addJoy_5 : decode cX12_addJoy 5 = .ok (.getfield 135, 3) := by decide +kernel
theorem dX12_addJoy_8 : decode cX12_addJoy 8 = .ok (.iload_n 1, 1) := by decide +kernel
theorem dX12_addJoy_9 : decode cX12_addJoy 9 = .ok (.iastore, 1) := by decide +kernel
theorem dX12_addJoy_10 : decode cX12_addJoy 10 = .ok (.aload_n 0, 1) := by decide +kernel
theorem dX12_addJoy_11 : decode cX12_addJoy 11 = .ok (.getfield 16, 3) := by decide +kernel
theorem dX12_addJoy_14 : decode cX12_addJoy 14 = .ok (.aload_n 0, 1) := by decide +kernel
theorem dX12_addJoy_15 : decode cX12_addJoy 15 = .ok (.getfield 135, 3) := by decide +kernel
theorem dX12_addJoy_18 : decode cX12_addJoy 18 = .ok (.iload_n 2, 1) := by decide +kernel
theorem dX12_addJoy_19 : decode cX12_addJoy 19 = .ok (.iastore, 1) := by decide +kernel
theorem dX12_addJoy_20 : decode cX12_addJoy 20 = .ok (.aload_n 0, 1) := by decide +kernel
theorem dX12_addJoy_21 : decode cX12_addJoy 21 = .ok (.getfield 19, 3) := by decide +kernel
theorem dX12_addJoy_24 : decode cX12_addJoy 24 = .ok (.aload_n 0, 1) := by decide +kernel
theorem dX12_addJoy_25 : decode cX12_addJoy 25 = .ok (.getfield 135, 3) := by decide +kernel
theorem dX12_addJoy_28 : decode cX12_addJoy 28 = .ok (.iconst 2, 1) := by decide +kernel
theorem dX12_addJoy_29 : decode cX12_addJoy 29 = .ok (.iastore, 1) := by decide +kernel
theorem dX12_addJoy_30 : decode cX12_addJoy 30 = .ok (.aload_n 0, 1) := by decide +kernel
theorem dX12_addJoy_31 : decode cX12_addJoy 31 = .ok (.getfield 22, 3) := by decide +kernel
theorem dX12_addJoy_34 : decode cX12_addJoy 34 = .ok (.aload_n 0, 1) := by decide +kernel
theorem dX12_addJoy_35 : decode cX12_addJoy 35 = .ok (.getfield 135, 3) := by decide +kernel
theorem dX12_addJoy_38 : decode cX12_addJoy 38 = .ok (.bipush 9, 2) := by decide +kernel
theorem dX12_addJoy_40 : decode cX12_addJoy 40 = .ok (.iastore, 1) := by decide +kernel
theorem dX12_addJoy_41 : decode cX12_addJoy 41 = .ok (.aload_n 0, 1) := by decide +kernel
theorem dX12_addJoy_42 : decode cX12_addJoy 42 = .ok (.getfield 25, 3) := by decide +kernel
theorem dX12_addJoy_45 : decode cX12_addJoy 45 = .ok (.aload_n 0, 1) := by decide +kernel
theorem dX12_addJoy_46 : decode cX12_addJoy 46 = .ok (.getfield 135, 3) := by decide +kernel
theorem dX12_addJoy_49 : decode cX12_addJoy 49 = .ok (.iload_n 3, 1) := by decide +kernel
theorem dX12_addJoy_50 : decode cX12_addJoy 50 = .ok (.iastore, 1) := by decide +kernel
theorem dX12_addJoy_51 : decode cX12_addJoy 51 = .ok (.aload_n 0, 1) := by decide +kernel
theorem dX12_addJoy_52 : decode cX12_addJoy 52 = .ok (.dup, 1) := by decide +kernel
theorem dX12_addJoy_53 : decode cX12_addJoy 53 = .ok (.getfield 135, 3) := by decide +kernel
theorem dX12_addJoy_56 : decode cX12_addJoy 56 = .ok (.iconst 1, 1) := by decide +kernel
theorem dX12_addJoy_57 : decode cX12_addJoy 57 = .ok (.iadd, 1) := by decide +kernel
theorem dX12_addJoy_58 : decode cX12_addJoy 58 = .ok (.putfield 135, 3) := by decide +kernel
theorem dX12_addJoy_61 : decode cX12_addJoy 61 = .ok (.aload_n 0, 1) := by decide +kernel
theorem dX12_addJoy_62 : decode cX12_addJoy 62 = .ok (.getfield 135, 3) := by decide +kernel
theorem dX12_addJoy_65 : decode cX12_addJoy 65 = .ok (.iconst 1, 1) := by decide +kernel
theorem dX12_addJoy_66 : decode cX12_addJoy 66 = .ok (.isub, 1) := by decide +kernel
theorem dX12_addJoy_67 : decode cX12_addJoy 67 = .ok (.ireturn, 1) := by decide +kernel
theorem dX12_joy_0 : decode cX12_joy 0 = .ok (.aload_n 0, 1) := by decide +kernel
theorem dX12_joy_1 : decode cX12_joy 1 = .ok (.iload_n 1, 1) := by decide +kernel
theorem dX12_joy_2 : decode cX12_joy 2 = .ok (.invokevirtual 142, 3) := by decide +kernel
theorem dX12_joy_5 : decode cX12_joy 5 = .ok (.ifCond .eq 13, 3) := by decide +kernel
theorem dX12_joy_8 : decode cX12_joy 8 = .ok (.iload_n 2, 1) := by decide +kernel
theorem dX12_joy_9 : decode cX12_joy 9 = .ok (.iconst 0, 1) := by decide +kernel
theorem dX12_joy_10 : decode cX12_joy 10 = .ok (.bipush 99, 2) := by decide +kernel
theorem dX12_joy_12 : decode cX12_joy 12 = .ok (.invokestatic 131, 3) := by decide +kernel
theorem dX12_joy_15 : decode cX12_joy 15 = .ok (.ifCond .ne 5, 3) := by decide +kernel
theorem dX12_joy_18 : decode cX12_joy 18 = .ok (.iconst (-1), 1) := by decide +kernel
theorem dX12_joy_19 : decode cX12_joy 19 = .ok (.ireturn, 1) := by decide +kernel
theorem dX12_joy_20 : decode cX12_joy 20 = .ok (.aload_n 0, 1) := by decide +kernel
theorem dX12_joy_21 : decode cX12_joy 21 = .ok (.getfield 135, 3) := by decide +kernel
theorem dX12_joy_24 : decode cX12_joy 24 = .ok (.bipush 10, 2) := by decide +kernel
theorem dX12_joy_26 : decode cX12_joy 26 = .ok (.if_icmp .ne 8, 3) := by decide +kernel
theorem dX12_joy_29 : decode cX12_joy 29 = .ok (.bipush (-3), 2) := by decide +kernel
theorem dX12_joy_31 : decode cX12_joy 31 = .ok (.goto 10, 3) := by decide +kernel
theorem dX12_joy_34 : decode cX12_joy 34 = .ok (.aload_n 0, 1) := by decide +kernel
theorem dX12_joy_35 : decode cX12_joy 35 = .ok (.iload_n 1, 1) := by decide +kernel
theorem dX12_joy_36 : decode cX12_joy 36 = .ok (.iload_n 2, 1) := by decide +kernel
theorem dX12_joy_37 : decode cX12_joy 37 = .ok (.iconst 5, 1) := by decide +kernel
theorem dX12_joy_38 : decode cX12_joy 38 = .ok (.invokevirtual 145, 3) := by decide +kernel
theorem dX12_joy_41 : decode cX12_joy 41 = .ok (.ireturn, 1) := by decide +kernel
theorem dX12_joys_0 : decode cX12_joys 0 = .ok (.iload_n 1, 1) := by decide +kernel
theorem dX12_joys_1 : decode cX12_joys 1 = .ok (.invokestatic 149, 3) := by decide +kernel
theorem dX12_joys_4 : decode cX12_joys 4 = .ok (.ifCond .eq 13, 3) := by decide +kernel
theorem dX12_joys_7 : decode cX12_joys 7 = .ok (.iload_n 3, 1) := by decide +kernel
theorem dX12_joys_8 : decode cX12_joys 8 = .ok (.iconst 1, 1) := by decide +kernel
theorem dX12_joys_9 : decode cX12_joys 9 = .ok (.bipush 10, 2) := by decide +kernel
theorem dX12_joys_11 : decode cX12_joys 11 = .ok (.invokestatic 131, 3) := by decide +kernel
theorem dX12_joys_14 : decode cX12_joys 14 = .ok (.ifCond .ne 5, 3) := by decide +kernel
theorem dX12_joys_17 : decode cX12_joys 17 = .ok (.iconst (-1), 1) := by decide +kernel
theorem dX12_joys_18 : decode cX12_joys 18 = .ok (.ireturn, 1) := by decide +kernel
theorem dX12_joys_19 : decode cX12_joys 19 = .ok (.aload_n 0, 1) := by decide +kernel
theorem dX12_joys_20 : decode cX12_joys 20 = .ok (.getfield 111, 3) := by decide +kernel
theorem dX12_joys_23 : decode cX12_joys 23 = .ok (.iload_n 1, 1) := by decide +kernel
theorem dX12_joys_24 : decode cX12_joys 24 = .ok (.iaload, 1) := by decide +kernel
theorem dX12_joys_25 : decode cX12_joys 25 = .ok (.iconst (-1), 1) := by decide +kernel
theorem dX12_joys_26 : decode cX12_joys 26 = .ok (.if_icmp .eq 17, 3) := by decide +kernel
theorem dX12_joys_29 : decode cX12_joys 29 = .ok (.aload_n 0, 1) := by decide +kernel
theorem dX12_joys_30 : decode cX12_joys 30 = .ok (.getfield 111, 3) := by decide +kernel
theorem dX12_joys_33 : decode cX12_joys 33 = .ok (.iload_n 1, 1) := by decide +kernel
theorem dX12_joys_34 : decode cX12_joys 34 = .ok (.iaload, 1) := by decide +kernel
theorem dX12_joys_35 : decode cX12_joys 35 = .ok (.bipush (-2), 2) := by decide +kernel
theorem dX12_joys_37 : decode cX12_joys 37 = .ok (.if_icmp .eq 6, 3) := by decide +kernel
theorem dX12_joys_40 : decode cX12_joys 40 = .ok (.bipush (-12), 2) := by decide +kernel
theorem dX12_joys_42 : decode cX12_joys 42 = .ok (.ireturn, 1) := by decide +kernel
theorem dX12_joys_43 : decode cX12_joys 43 = .ok (.aload_n 0, 1) := by decide +kernel
theorem dX12_joys_44 : decode cX12_joys 44 = .ok (.getfield 111, 3) := by decide +kernel
theorem dX12_joys_47 : decode cX12_joys 47 = .ok (.iload_n 1, 1) := by decide +kernel
theorem dX12_joys_48 : decode cX12_joys 48 = .ok (.iaload, 1) := by decide +kernel
theorem dX12_joys_49 : decode cX12_joys 49 = .ok (.iconst (-1), 1) := by decide +kernel
theorem dX12_joys_50 : decode cX12_joys 50 = .ok (.if_icmp .ne 5, 3) := by decide +kernel
theorem dX12_joys_53 : decode cX12_joys 53 = .ok (.iconst 0, 1) := by decide +kernel
theorem dX12_joys_54 : decode cX12_joys 54 = .ok (.ireturn, 1) := by decide +kernel
theorem dX12_joys_55 : decode cX12_joys 55 = .ok (.iconst 0, 1) := by decide +kernel
theorem dX12_joys_56 : decode cX12_joys 56 = .ok (.istore 4, 2) := by decide +kernel
theorem dX12_joys_58 : decode cX12_joys 58 = .ok (.iload 4, 2) := by decide +kernel
theorem dX12_joys_60 : decode cX12_joys 60 = .ok (.iload_n 3, 1) := by decide +kernel
theorem dX12_joys_61 : decode cX12_joys 61 = .ok (.if_icmp .ge 154, 3) := by decide +kernel
theorem dX12_joys_64 : decode cX12_joys 64 = .ok (.iload_n 2, 1) := by decide +kernel
theorem dX12_joys_65 : decode cX12_joys 65 = .ok (.i2l, 1) := by decide +kernel
theorem dX12_joys_66 : decode cX12_joys 66 = .ok (.iconst 3, 1) := by decide +kernel
theorem dX12_joys_67 : decode cX12_joys 67 = .ok (.iload 4, 2) := by decide +kernel
theorem dX12_joys_69 : decode cX12_joys 69 = .ok (.imul, 1) := by decide +kernel
theorem dX12_joys_70 : decode cX12_joys 70 = .ok (.i2l, 1) := by decide +kernel
theorem dX12_joys_71 : decode cX12_joys 71 = .ok (.ladd, 1) := by decide +kernel
theorem dX12_joys_72 : decode cX12_joys 72 = .ok (.lstore 5, 2) := by decide +kernel
theorem dX12_joys_74 : decode cX12_joys 74 = .ok (.lload 5, 2) := by decide +kernel
theorem dX12_joys_76 : decode cX12_joys 76 = .ok (.lconst 0, 1) := by decide +kernel
theorem dX12_joys_77 : decode cX12_joys 77 = .ok (.lcmp, 1) := by decide +kernel
theorem dX12_joys_78 : decode cX12_joys 78 = .ok (.ifCond .lt 29, 3) := by decide +kernel
theorem dX12_joys_81 : decode cX12_joys 81 = .ok (.lload 5, 2) := by decide +kernel
theorem dX12_joys_83 : decode cX12_joys 83 = .ok (.ldc2_w 152, 3) := by decide +kernel
theorem dX12_joys_86 : decode cX12_joys 86 = .ok (.ladd, 1) := by decide +kernel
theorem dX12_joys_87 : decode cX12_joys 87 = .ok (.aload_n 0, 1) := by decide +kernel
theorem dX12_joys_88 : decode cX12_joys 88 = .ok (.getfield 114, 3) := by decide +kernel
theorem dX12_joys_91 : decode cX12_joys 91 = .ok (.iload_n 1, 1) := by decide +kernel
theorem dX12_joys_92 : decode cX12_joys 92 = .ok (.iaload, 1) := by decide +kernel
theorem dX12_joys_93 : decode cX12_joys 93 = .ok (.i2l, 1) := by decide +kernel
theorem dX12_joys_94 : decode cX12_joys 94 = .ok (.lcmp, 1) := by decide +kernel
theorem dX12_joys_95 : decode cX12_joys 95 = .ok (.ifCond .ge 12, 3) := by decide +kernel
theorem dX12_joys_98 : decode cX12_joys 98 = .ok (.aload_n 0, 1) := by decide +kernel
theorem dX12_joys_99 : decode cX12_joys 99 = .ok (.getfield 135, 3) := by decide +kernel
theorem dX12_joys_102 : decode cX12_joys 102 = .ok (.bipush 10, 2) := by decide +kernel
theorem dX12_joys_104 : decode cX12_joys 104 = .ok (.if_icmp .ne 6, 3) := by decide +kernel
theorem dX12_joys_107 : decode cX12_joys 107 = .ok (.iload 4, 2) := by decide +kernel
theorem dX12_joys_109 : decode cX12_joys 109 = .ok (.ireturn, 1) := by decide +kernel
theorem dX12_joys_110 : decode cX12_joys 110 = .ok (.bipush 60, 2) := by decide +kernel
theorem dX12_joys_112 : decode cX12_joys 112 = .ok (.iload_n 1, 1) := by decide +kernel
theorem dX12_joys_113 : decode cX12_joys 113 = .ok (.imul, 1) := by decide +kernel
theorem dX12_joys_114 : decode cX12_joys 114 = .ok (.lload 5, 2) := by decide +kernel
theorem dX12_joys_116 : decode cX12_joys 116 = .ok (.l2i, 1) := by decide +kernel
theorem dX12_joys_117 : decode cX12_joys 117 = .ok (.iadd, 1) := by decide +kernel
theorem dX12_joys_118 : decode cX12_joys 118 = .ok (.istore 7, 2) := by decide +kernel
theorem dX12_joys_120 : decode cX12_joys 120 = .ok (.aload_n 0, 1) := by decide +kernel
theorem dX12_joys_121 : decode cX12_joys 121 = .ok (.aload_n 0, 1) := by decide +kernel
theorem dX12_joys_122 : decode cX12_joys 122 = .ok (.getfield 117, 3) := by decide +kernel
theorem dX12_joys_125 : decode cX12_joys 125 = .ok (.iload 7, 2) := by decide +kernel
theorem dX12_joys_127 : decode cX12_joys 127 = .ok (.laload, 1) := by decide +kernel
theorem dX12_joys_128 : decode cX12_joys 128 = .ok (.l2i, 1) := by decide +kernel
theorem dX12_joys_129 : decode cX12_joys 129 = .ok (.invokevirtual 142, 3) := by decide +kernel
theorem dX12_joys_132 : decode cX12_joys 132 = .ok (.ifCond .eq 41, 3) := by decide +kernel
theorem dX12_joys_135 : decode cX12_joys 135 = .ok (.aload_n 0, 1) := by decide +kernel
theorem dX12_joys_136 : decode cX12_joys 136 = .ok (.getfield 117, 3) := by decide +kernel
theorem dX12_joys_139 : decode cX12_joys 139 = .ok (.iload 7, 2) := by decide +kernel
theorem dX12_joys_141 : decode cX12_joys 141 = .ok (.iconst 1, 1) := by decide +kernel
theorem dX12_joys_142 : decode cX12_joys 142 = .ok (.iadd, 1) := by decide +kernel
theorem dX12_joys_143 : decode cX12_joys 143 = .ok (.laload, 1) := by decide +kernel
theorem dX12_joys_144 : decode cX12_joys 144 = .ok (.l2i, 1) := by decide +kernel
theorem dX12_joys_145 : decode cX12_joys 145 = .ok (.iconst 0, 1) := by decide +kernel
theorem dX12_joys_146 : decode cX12_joys 146 = .ok (.bipush 99, 2) := by decide +kernel
theorem dX12_joys_148 : decode cX12_joys 148 = .ok (.invokestatic 131, 3) := by decide +kernel
theorem dX12_joys_151 : decode cX12_joys 151 = .ok (.ifCond .eq 22, 3) := by decide +kernel
theorem dX12_joys_154 : decode cX12_joys 154 = .ok (.aload_n 0, 1) := by decide +kernel
theorem dX12_joys_155 : decode cX12_joys 155 = .ok (.getfield 117, 3) := by decide +kernel
theorem dX12_joys_158 : decode cX12_joys 158 = .ok (.iload 7, 2) := by decide +kernel
theorem dX12_joys_160 : decode cX12_joys 160 = .ok (.iconst 2, 1) := by decide +kernel
theorem dX12_joys_161 : decode cX12_joys 161 = .ok (.iadd, 1) := by decide +kernel
theorem dX12_joys_162 : decode cX12_joys 162 = .ok (.laload, 1) := by decide +kernel
theorem dX12_joys_163 : decode cX12_joys 163 = .ok (.l2i, 1) := by decide +kernel
theorem dX12_joys_164 : decode cX12_joys 164 = .ok (.iconst 0, 1) := by decide +kernel
theorem dX12_joys_165 : decode cX12_joys 165 = .ok (.bipush 9, 2) := by decide +kernel
theorem dX12_joys_167 : decode cX12_joys 167 = .ok (.invokestatic 131, 3) := by decide +kernel
theorem dX12_joys_170 : decode cX12_joys 170 = .ok (.ifCond .ne 6, 3) := by decide +kernel
theorem dX12_joys_173 : decode cX12_joys 173 = .ok (.iload 4, 2) := by decide +kernel
theorem dX12_joys_175 : decode cX12_joys 175 = .ok (.ireturn, 1) := by decide +kernel
theorem dX12_joys_176 : decode cX12_joys 176 = .ok (.aload_n 0, 1) := by decide +kernel
theorem dX12_joys_177 : decode cX12_joys 177 = .ok (.aload_n 0, 1) := by decide +kernel
theorem dX12_joys_178 : decode cX12_joys 178 = .ok (.getfield 117, 3) := by decide +kernel
theorem dX12_joys_181 : decode cX12_joys 181 = .ok (.iload 7, 2) := by decide +kernel
theorem dX12_joys_183 : decode cX12_joys 183 = .ok (.laload, 1) := by decide +kernel
theorem dX12_joys_184 : decode cX12_joys 184 = .ok (.l2i, 1) := by decide +kernel
theorem dX12_joys_185 : decode cX12_joys 185 = .ok (.aload_n 0, 1) := by decide +kernel
theorem dX12_joys_186 : decode cX12_joys 186 = .ok (.getfield 117, 3) := by decide +kernel
theorem dX12_joys_189 : decode cX12_joys 189 = .ok (.iload 7, 2) := by decide +kernel
theorem dX12_joys_191 : decode cX12_joys 191 = .ok (.iconst 1, 1) := by decide +kernel
theorem dX12_joys_192 : decode cX12_joys 192 = .ok (.iadd, 1) := by decide +kernel
theorem dX12_joys_193 : decode cX12_joys 193 = .ok (.laload, 1) := by decide +kernel
theorem dX12_joys_194 : decode cX12_joys 194 = .ok (.l2i, 1) := by decide +kernel
theorem dX12_joys_195 : decode cX12_joys 195 = .ok (.aload_n 0, 1) := by decide +kernel
theorem dX12_joys_196 : decode cX12_joys 196 = .ok (.getfield 117, 3) := by decide +kernel
theorem dX12_joys_199 : decode cX12_joys 199 = .ok (.iload 7, 2) := by decide +kernel
theorem dX12_joys_201 : decode cX12_joys 201 = .ok (.iconst 2, 1) := by decide +kernel
theorem dX12_joys_202 : decode cX12_joys 202 = .ok (.iadd, 1) := by decide +kernel
theorem dX12_joys_203 : decode cX12_joys 203 = .ok (.laload, 1) := by decide +kernel
theorem dX12_joys_204 : decode cX12_joys 204 = .ok (.l2i, 1) := by decide +kernel
theorem dX12_joys_205 : decode cX12_joys 205 = .ok (.invokevirtual 145, 3) := by decide +kernel
theorem dX12_joys_208 : decode cX12_joys 208 = .ok (.pop, 1) := by decide +kernel
theorem dX12_joys_209 : decode cX12_joys 209 = .ok (.iinc 4 1, 3) := by decide +kernel
theorem dX12_joys_212 : decode cX12_joys 212 = .ok (.goto (-154), 3) := by decide +kernel
theorem dX12_joys_215 : decode cX12_joys 215 = .ok (.iload_n 3, 1) := by decide +kernel
theorem dX12_joys_216 : decode cX12_joys 216 = .ok (.ireturn, 1) := by decide +kernel
theorem dX12_valueAt_0 : decode cX12_valueAt 0 = .ok (.iload_n 1, 1) := by decide +kernel
theorem dX12_valueAt_1 : decode cX12_valueAt 1 = .ok (.tableswitch 103 0 7 #[47, 54, 61, 68, 75, 82, 89, 96], 47) := by decide +kernel
theorem dX12_valueAt_48 : decode cX12_valueAt 48 = .ok (.aload_n 0, 1) := by decide +kernel
theorem dX12_valueAt_49 : decode cX12_valueAt 49 = .ok (.getfield 7, 3) := by decide +kernel
theorem dX12_valueAt_52 : decode cX12_valueAt 52 = .ok (.iload_n 2, 1) := by decide +kernel
theorem dX12_valueAt_53 : decode cX12_valueAt 53 = .ok (.iaload, 1) := by decide +kernel
theorem dX12_valueAt_54 : decode cX12_valueAt 54 = .ok (.ireturn, 1) := by decide +kernel
theorem dX12_valueAt_55 : decode cX12_valueAt 55 = .ok (.aload_n 0, 1) := by decide +kernel
theorem dX12_valueAt_56 : decode cX12_valueAt 56 = .ok (.getfield 16, 3) := by decide +kernel
theorem dX12_valueAt_59 : decode cX12_valueAt 59 = .ok (.iload_n 2, 1) := by decide +kernel
theorem dX12_valueAt_60 : decode cX12_valueAt 60 = .ok (.iaload, 1) := by decide +kernel
theorem dX12_valueAt_61 : decode cX12_valueAt 61 = .ok (.ireturn, 1) := by decide +kernel
theorem dX12_valueAt_62 : decode cX12_valueAt 62 = .ok (.aload_n 0, 1) := by decide +kernel
theorem dX12_valueAt_63 : decode cX12_valueAt 63 = .ok (.getfield 19, 3) := by decide +kernel
theorem dX12_valueAt_66 : decode cX12_valueAt 66 = .ok (.iload_n 2, 1) := by decide +kernel
theorem dX12_valueAt_67 : decode cX12_valueAt 67 = .ok (.iaload, 1) := by decide +kernel
theorem dX12_valueAt_68 : decode cX12_valueAt 68 = .ok (.ireturn, 1) := by decide +kernel
theorem dX12_valueAt_69 : decode cX12_valueAt 69 = .ok (.aload_n 0, 1) := by decide +kernel
theorem dX12_valueAt_70 : decode cX12_valueAt 70 = .ok (.getfield 22, 3) := by decide +kernel
theorem dX12_valueAt_73 : decode cX12_valueAt 73 = .ok (.iload_n 2, 1) := by decide +kernel
theorem dX12_valueAt_74 : decode cX12_valueAt 74 = .ok (.iaload, 1) := by decide +kernel
theorem dX12_valueAt_75 : decode cX12_valueAt 75 = .ok (.ireturn, 1) := by decide +kernel
theorem dX12_valueAt_76 : decode cX12_valueAt 76 = .ok (.aload_n 0, 1) := by decide +kernel
theorem dX12_valueAt_77 : decode cX12_valueAt 77 = .ok (.getfield 25, 3) := by decide +kernel
theorem dX12_valueAt_80 : decode cX12_valueAt 80 = .ok (.iload_n 2, 1) := by decide +kernel
theorem dX12_valueAt_81 : decode cX12_valueAt 81 = .ok (.iaload, 1) := by decide +kernel
theorem dX12_valueAt_82 : decode cX12_valueAt 82 = .ok (.ireturn, 1) := by decide +kernel
theorem dX12_valueAt_83 : decode cX12_valueAt 83 = .ok (.aload_n 0, 1) := by decide +kernel
theorem dX12_valueAt_84 : decode cX12_valueAt 84 = .ok (.getfield 28, 3) := by decide +kernel
theorem dX12_valueAt_87 : decode cX12_valueAt 87 = .ok (.iload_n 2, 1) := by decide +kernel
theorem dX12_valueAt_88 : decode cX12_valueAt 88 = .ok (.iaload, 1) := by decide +kernel
theorem dX12_valueAt_89 : decode cX12_valueAt 89 = .ok (.ireturn, 1) := by decide +kernel
theorem dX12_valueAt_90 : decode cX12_valueAt 90 = .ok (.aload_n 0, 1) := by decide +kernel
theorem dX12_valueAt_91 : decode cX12_valueAt 91 = .ok (.getfield 31, 3) := by decide +kernel
theorem dX12_valueAt_94 : decode cX12_valueAt 94 = .ok (.iload_n 2, 1) := by decide +kernel
theorem dX12_valueAt_95 : decode cX12_valueAt 95 = .ok (.iaload, 1) := by decide +kernel
theorem dX12_valueAt_96 : decode cX12_valueAt 96 = .ok (.ireturn, 1) := by decide +kernel
theorem dX12_valueAt_97 : decode cX12_valueAt 97 = .ok (.aload_n 0, 1) := by decide +kernel
theorem dX12_valueAt_98 : decode cX12_valueAt 98 = .ok (.getfield 34, 3) := by decide +kernel
theorem dX12_valueAt_101 : decode cX12_valueAt 101 = .ok (.iload_n 2, 1) := by decide +kernel
theorem dX12_valueAt_102 : decode cX12_valueAt 102 = .ok (.iaload, 1) := by decide +kernel
theorem dX12_valueAt_103 : decode cX12_valueAt 103 = .ok (.ireturn, 1) := by decide +kernel
theorem dX12_valueAt_104 : decode cX12_valueAt 104 = .ok (.aload_n 0, 1) := by decide +kernel
theorem dX12_valueAt_105 : decode cX12_valueAt 105 = .ok (.getfield 37, 3) := by decide +kernel
theorem dX12_valueAt_108 : decode cX12_valueAt 108 = .ok (.iload_n 1, 1) := by decide +kernel
theorem dX12_valueAt_109 : decode cX12_valueAt 109 = .ok (.bipush 8, 2) := by decide +kernel
theorem dX12_valueAt_111 : decode cX12_valueAt 111 = .ok (.isub, 1) := by decide +kernel
theorem dX12_valueAt_112 : decode cX12_valueAt 112 = .ok (.iaload, 1) := by decide +kernel
theorem dX12_valueAt_113 : decode cX12_valueAt 113 = .ok (.ireturn, 1) := by decide +kernel
theorem dX12_lays_0 : decode cX12_lays 0 = .ok (.iload_n 1, 1) := by decide +kernel
theorem dX12_lays_1 : decode cX12_lays 1 = .ok (.tableswitch 127 0 7 #[47, 57, 67, 77, 87, 97, 107, 117], 47) := by decide +kernel
theorem dX12_lays_48 : decode cX12_lays 48 = .ok (.aload_n 0, 1) := by decide +kernel
theorem dX12_lays_49 : decode cX12_lays 49 = .ok (.getfield 7, 3) := by decide +kernel
theorem dX12_lays_52 : decode cX12_lays 52 = .ok (.iload_n 2, 1) := by decide +kernel
theorem dX12_lays_53 : decode cX12_lays 53 = .ok (.iload_n 3, 1) := by decide +kernel
theorem dX12_lays_54 : decode cX12_lays 54 = .ok (.iastore, 1) := by decide +kernel
theorem dX12_lays_55 : decode cX12_lays 55 = .ok (.goto 83, 3) := by decide +kernel
theorem dX12_lays_58 : decode cX12_lays 58 = .ok (.aload_n 0, 1) := by decide +kernel
theorem dX12_lays_59 : decode cX12_lays 59 = .ok (.getfield 16, 3) := by decide +kernel
theorem dX12_lays_62 : decode cX12_lays 62 = .ok (.iload_n 2, 1) := by decide +kernel
theorem dX12_lays_63 : decode cX12_lays 63 = .ok (.iload_n 3, 1) := by decide +kernel
theorem dX12_lays_64 : decode cX12_lays 64 = .ok (.iastore, 1) := by decide +kernel
theorem dX12_lays_65 : decode cX12_lays 65 = .ok (.goto 73, 3) := by decide +kernel
theorem dX12_lays_68 : decode cX12_lays 68 = .ok (.aload_n 0, 1) := by decide +kernel
theorem dX12_lays_69 : decode cX12_lays 69 = .ok (.getfield 19, 3) := by decide +kernel
theorem dX12_lays_72 : decode cX12_lays 72 = .ok (.iload_n 2, 1) := by decide +kernel
theorem dX12_lays_73 : decode cX12_lays 73 = .ok (.iload_n 3, 1) := by decide +kernel
theorem dX12_lays_74 : decode cX12_lays 74 = .ok (.iastore, 1) := by decide +kernel
theorem dX12_lays_75 : decode cX12_lays 75 = .ok (.goto 63, 3) := by decide +kernel
theorem dX12_lays_78 : decode cX12_lays 78 = .ok (.aload_n 0, 1) := by decide +kernel
theorem dX12_lays_79 : decode cX12_lays 79 = .ok (.getfield 22, 3) := by decide +kernel
theorem dX12_lays_82 : decode cX12_lays 82 = .ok (.iload_n 2, 1) := by decide +kernel
theorem dX12_lays_83 : decode cX12_lays 83 = .ok (.iload_n 3, 1) := by decide +kernel
theorem dX12_lays_84 : decode cX12_lays 84 = .ok (.iastore, 1) := by decide +kernel
theorem dX12_lays_85 : decode cX12_lays 85 = .ok (.goto 53, 3) := by decide +kernel
theorem dX12_lays_88 : decode cX12_lays 88 = .ok (.aload_n 0, 1) := by decide +kernel
theorem dX12_lays_89 : decode cX12_lays 89 = .ok (.getfield 25, 3) := by decide +kernel
theorem dX12_lays_92 : decode cX12_lays 92 = .ok (.iload_n 2, 1) := by decide +kernel
theorem dX12_lays_93 : decode cX12_lays 93 = .ok (.iload_n 3, 1) := by decide +kernel
theorem dX12_lays_94 : decode cX12_lays 94 = .ok (.iastore, 1) := by decide +kernel
theorem dX12_lays_95 : decode cX12_lays 95 = .ok (.goto 43, 3) := by decide +kernel
theorem dX12_lays_98 : decode cX12_lays 98 = .ok (.aload_n 0, 1) := by decide +kernel
theorem dX12_lays_99 : decode cX12_lays 99 = .ok (.getfield 28, 3) := by decide +kernel
theorem dX12_lays_102 : decode cX12_lays 102 = .ok (.iload_n 2, 1) := by decide +kernel
theorem dX12_lays_103 : decode cX12_lays 103 = .ok (.iload_n 3, 1) := by decide +kernel
theorem dX12_lays_104 : decode cX12_lays 104 = .ok (.iastore, 1) := by decide +kernel
theorem dX12_lays_105 : decode cX12_lays 105 = .ok (.goto 33, 3) := by decide +kernel
theorem dX12_lays_108 : decode cX12_lays 108 = .ok (.aload_n 0, 1) := by decide +kernel
theorem dX12_lays_109 : decode cX12_lays 109 = .ok (.getfield 31, 3) := by decide +kernel
theorem dX12_lays_112 : decode cX12_lays 112 = .ok (.iload_n 2, 1) := by decide +kernel
theorem dX12_lays_113 : decode cX12_lays 113 = .ok (.iload_n 3, 1) := by decide +kernel
theorem dX12_lays_114 : decode cX12_lays 114 = .ok (.iastore, 1) := by decide +kernel
theorem dX12_lays_115 : decode cX12_lays 115 = .ok (.goto 23, 3) := by decide +kernel
theorem dX12_lays_118 : decode cX12_lays 118 = .ok (.aload_n 0, 1) := by decide +kernel
theorem dX12_lays_119 : decode cX12_lays 119 = .ok (.getfield 34, 3) := by decide +kernel
theorem dX12_lays_122 : decode cX12_lays 122 = .ok (.iload_n 2, 1) := by decide +kernel
theorem dX12_lays_123 : decode cX12_lays 123 = .ok (.iload_n 3, 1) := by decide +kernel
theorem dX12_lays_124 : decode cX12_lays 124 = .ok (.iastore, 1) := by decide +kernel
theorem dX12_lays_125 : decode cX12_lays 125 = .ok (.goto 13, 3) := by decide +kernel
theorem dX12_lays_128 : decode cX12_lays 128 = .ok (.aload_n 0, 1) := by decide +kernel
theorem dX12_lays_129 : decode cX12_lays 129 = .ok (.getfield 37, 3) := by decide +kernel
theorem dX12_lays_132 : decode cX12_lays 132 = .ok (.iload_n 1, 1) := by decide +kernel
theorem dX12_lays_133 : decode cX12_lays 133 = .ok (.bipush 8, 2) := by decide +kernel
theorem dX12_lays_135 : decode cX12_lays 135 = .ok (.isub, 1) := by decide +kernel
theorem dX12_lays_136 : decode cX12_lays 136 = .ok (.iload_n 3, 1) := by decide +kernel
theorem dX12_lays_137 : decode cX12_lays 137 = .ok (.iastore, 1) := by decide +kernel
theorem dX12_lays_138 : decode cX12_lays 138 = .ok (.return_, 1) := by decide +kernel
theorem dX12_changes_0 : decode cX12_changes 0 = .ok (.aload_n 0, 1) := by decide +kernel
theorem dX12_changes_1 : decode cX12_changes 1 = .ok (.iload_n 1, 1) := by decide +kernel
theorem dX12_changes_2 : decode cX12_changes 2 = .ok (.iload_n 2, 1) := by decide +kernel
theorem dX12_changes_3 : decode cX12_changes 3 = .ok (.invokevirtual 154, 3) := by decide +kernel
theorem dX12_changes_6 : decode cX12_changes 6 = .ok (.istore 4, 2) := by decide +kernel
theorem dX12_changes_8 : decode cX12_changes 8 = .ok (.iload 4, 2) := by decide +kernel
theorem dX12_changes_10 : decode cX12_changes 10 = .ok (.iload_n 3, 1) := by decide +kernel
theorem dX12_changes_11 : decode cX12_changes 11 = .ok (.if_icmp .ne 6, 3) := by decide +kernel
theorem dX12_changes_14 : decode cX12_changes 14 = .ok (.iload 4, 2) := by decide +kernel
theorem dX12_changes_16 : decode cX12_changes 16 = .ok (.ireturn, 1) := by decide +kernel
theorem dX12_changes_17 : decode cX12_changes 17 = .ok (.aload_n 0, 1) := by decide +kernel
theorem dX12_changes_18 : decode cX12_changes 18 = .ok (.iconst 0, 1) := by decide +kernel
theorem dX12_changes_19 : decode cX12_changes 19 = .ok (.putfield 158, 3) := by decide +kernel
theorem dX12_changes_22 : decode cX12_changes 22 = .ok (.aload_n 0, 1) := by decide +kernel
theorem dX12_changes_23 : decode cX12_changes 23 = .ok (.getfield 161, 3) := by decide +kernel
theorem dX12_changes_26 : decode cX12_changes 26 = .ok (.bipush 40, 2) := by decide +kernel
theorem dX12_changes_28 : decode cX12_changes 28 = .ok (.if_icmp .ne 93, 3) := by decide +kernel
theorem dX12_changes_31 : decode cX12_changes 31 = .ok (.iconst 1, 1) := by decide +kernel
theorem dX12_changes_32 : decode cX12_changes 32 = .ok (.istore 5, 2) := by decide +kernel
theorem dX12_changes_34 : decode cX12_changes 34 = .ok (.iload 5, 2) := by decide +kernel
theorem dX12_changes_36 : decode cX12_changes 36 = .ok (.bipush 40, 2) := by decide +kernel
theorem dX12_changes_38 : decode cX12_changes 38 = .ok (.if_icmp .ge 73, 3) := by decide +kernel
theorem dX12_changes_41 : decode cX12_changes 41 = .ok (.aload_n 0, 1) := by decide +kernel
theorem dX12_changes_42 : decode cX12_changes 42 = .ok (.getfield 40, 3) := by decide +kernel
theorem dX12_changes_45 : decode cX12_changes 45 = .ok (.iload 5, 2) := by decide +kernel
theorem dX12_changes_47 : decode cX12_changes 47 = .ok (.iconst 1, 1) := by decide +kernel
theorem dX12_changes_48 : decode cX12_changes 48 = .ok (.isub, 1) := by decide +kernel
theorem dX12_changes_49 : decode cX12_changes 49 = .ok (.aload_n 0, 1) := by decide +kernel
theorem dX12_changes_50 : decode cX12_changes 50 = .ok (.getfield 40, 3) := by decide +kernel
theorem dX12_changes_53 : decode cX12_changes 53 = .ok (.iload 5, 2) := by decide +kernel
theorem dX12_changes_55 : decode cX12_changes 55 = .ok (.iaload, 1) := by decide +kernel
theorem dX12_changes_56 : decode cX12_changes 56 = .ok (.iastore, 1) := by decide +kernel
theorem dX12_changes_57 : decode cX12_changes 57 = .ok (.aload_n 0, 1) := by decide +kernel
theorem dX12_changes_58 : decode cX12_changes 58 = .ok (.getfield 43, 3) := by decide +kernel
theorem dX12_changes_61 : decode cX12_changes 61 = .ok (.iload 5, 2) := by decide +kernel
theorem dX12_changes_63 : decode cX12_changes 63 = .ok (.iconst 1, 1) := by decide +kernel
theorem dX12_changes_64 : decode cX12_changes 64 = .ok (.isub, 1) := by decide +kernel
theorem dX12_changes_65 : decode cX12_changes 65 = .ok (.aload_n 0, 1) := by decide +kernel
theorem dX12_changes_66 : decode cX12_changes 66 = .ok (.getfield 43, 3) := by decide +kernel
theorem dX12_changes_69 : decode cX12_changes 69 = .ok (.iload 5, 2) := by decide +kernel
theorem dX12_changes_71 : decode cX12_changes 71 = .ok (.iaload, 1) := by decide +kernel
theorem dX12_changes_72 : decode cX12_changes 72 = .ok (.iastore, 1) := by decide +kernel
theorem dX12_changes_73 : decode cX12_changes 73 = .ok (.aload_n 0, 1) := by decide +kernel
theorem dX12_changes_74 : decode cX12_changes 74 = .ok (.getfield 46, 3) := by decide +kernel
theorem dX12_changes_77 : decode cX12_changes 77 = .ok (.iload 5, 2) := by decide +kernel
theorem dX12_changes_79 : decode cX12_changes 79 = .ok (.iconst 1, 1) := by decide +kernel
theorem dX12_changes_80 : decode cX12_changes 80 = .ok (.isub, 1) := by decide +kernel
theorem dX12_changes_81 : decode cX12_changes 81 = .ok (.aload_n 0, 1) := by decide +kernel
theorem dX12_changes_82 : decode cX12_changes 82 = .ok (.getfield 46, 3) := by decide +kernel
theorem dX12_changes_85 : decode cX12_changes 85 = .ok (.iload 5, 2) := by decide +kernel
theorem dX12_changes_87 : decode cX12_changes 87 = .ok (.iaload, 1) := by decide +kernel
theorem dX12_changes_88 : decode cX12_changes 88 = .ok (.iastore, 1) := by decide +kernel
theorem dX12_changes_89 : decode cX12_changes 89 = .ok (.aload_n 0, 1) := by decide +kernel
theorem dX12_changes_90 : decode cX12_changes 90 = .ok (.getfield 49, 3) := by decide +kernel
theorem dX12_changes_93 : decode cX12_changes 93 = .ok (.iload 5, 2) := by decide +kernel
theorem dX12_changes_95 : decode cX12_changes 95 = .ok (.iconst 1, 1) := by decide +kernel
theorem dX12_changes_96 : decode cX12_changes 96 = .ok (.isub, 1) := by decide +kernel
theorem dX12_changes_97 : decode cX12_changes 97 = .ok (.aload_n 0, 1) := by decide +kernel
theorem dX12_changes_98 : decode cX12_changes 98 = .ok (.getfield 49, 3) := by decide +kernel
theorem dX12_changes_101 : decode cX12_changes 101 = .ok (.iload 5, 2) := by decide +kernel
theorem dX12_changes_103 : decode cX12_changes 103 = .ok (.iaload, 1) := by decide +kernel
theorem dX12_changes_104 : decode cX12_changes 104 = .ok (.iastore, 1) := by decide +kernel
theorem dX12_changes_105 : decode cX12_changes 105 = .ok (.iinc 5 1, 3) := by decide +kernel
theorem dX12_changes_108 : decode cX12_changes 108 = .ok (.goto (-74), 3) := by decide +kernel
theorem dX12_changes_111 : decode cX12_changes 111 = .ok (.aload_n 0, 1) := by decide +kernel
theorem dX12_changes_112 : decode cX12_changes 112 = .ok (.dup, 1) := by decide +kernel
theorem dX12_changes_113 : decode cX12_changes 113 = .ok (.getfield 161, 3) := by decide +kernel
theorem dX12_changes_116 : decode cX12_changes 116 = .ok (.iconst 1, 1) := by decide +kernel
theorem dX12_changes_117 : decode cX12_changes 117 = .ok (.isub, 1) := by decide +kernel
theorem dX12_changes_118 : decode cX12_changes 118 = .ok (.putfield 161, 3) := by decide +kernel
theorem dX12_changes_121 : decode cX12_changes 121 = .ok (.aload_n 0, 1) := by decide +kernel
theorem dX12_changes_122 : decode cX12_changes 122 = .ok (.getfield 40, 3) := by decide +kernel
theorem dX12_changes_125 : decode cX12_changes 125 = .ok (.aload_n 0, 1) := by decide +kernel
theorem dX12_changes_126 : decode cX12_changes 126 = .ok (.getfield 161, 3) := by decide +kernel
theorem dX12_changes_129 : decode cX12_changes 129 = .ok (.iload_n 1, 1) := by decide +kernel
theorem dX12_changes_130 : decode cX12_changes 130 = .ok (.iastore, 1) := by decide +kernel
theorem dX12_changes_131 : decode cX12_changes 131 = .ok (.aload_n 0, 1) := by decide +kernel
theorem dX12_changes_132 : decode cX12_changes 132 = .ok (.getfield 43, 3) := by decide +kernel
theorem dX12_changes_135 : decode cX12_changes 135 = .ok (.aload_n 0, 1) := by decide +kernel
theorem dX12_changes_136 : decode cX12_changes 136 = .ok (.getfield 161, 3) := by decide +kernel
theorem dX12_changes_139 : decode cX12_changes 139 = .ok (.iload_n 2, 1) := by decide +kernel
theorem dX12_changes_140 : decode cX12_changes 140 = .ok (.iastore, 1) := by decide +kernel
theorem dX12_changes_141 : decode cX12_changes 141 = .ok (.aload_n 0, 1) := by decide +kernel
theorem dX12_changes_142 : decode cX12_changes 142 = .ok (.getfield 46, 3) := by decide +kernel
theorem dX12_changes_145 : decode cX12_changes 145 = .ok (.aload_n 0, 1) := by decide +kernel
theorem dX12_changes_146 : decode cX12_changes 146 = .ok (.getfield 161, 3) := by decide +kernel
theorem dX12_changes_149 : decode cX12_changes 149 = .ok (.iload 4, 2) := by decide +kernel
theorem dX12_changes_151 : decode cX12_changes 151 = .ok (.iastore, 1) := by decide +kernel
theorem dX12_changes_152 : decode cX12_changes 152 = .ok (.aload_n 0, 1) := by decide +kernel
theorem dX12_changes_153 : decode cX12_changes 153 = .ok (.getfield 49, 3) := by decide +kernel
theorem dX12_changes_156 : decode cX12_changes 156 = .ok (.aload_n 0, 1) := by decide +kernel
theorem dX12_changes_157 : decode cX12_changes 157 = .ok (.getfield 161, 3) := by decide +kernel
theorem dX12_changes_160 : decode cX12_changes 160 = .ok (.iload_n 3, 1) := by decide +kernel
theorem dX12_changes_161 : decode cX12_changes 161 = .ok (.iastore, 1) := by decide +kernel
theorem dX12_changes_162 : decode cX12_changes 162 = .ok (.aload_n 0, 1) := by decide +kernel
theorem dX12_changes_163 : decode cX12_changes 163 = .ok (.dup, 1) := by decide +kernel
theorem dX12_changes_164 : decode cX12_changes 164 = .ok (.getfield 161, 3) := by decide +kernel
theorem dX12_changes_167 : decode cX12_changes 167 = .ok (.iconst 1, 1) := by decide +kernel
theorem dX12_changes_168 : decode cX12_changes 168 = .ok (.iadd, 1) := by decide +kernel
theorem dX12_changes_169 : decode cX12_changes 169 = .ok (.putfield 161, 3) := by decide +kernel
theorem dX12_changes_172 : decode cX12_changes 172 = .ok (.aload_n 0, 1) := by decide +kernel
theorem dX12_changes_173 : decode cX12_changes 173 = .ok (.iload_n 1, 1) := by decide +kernel
theorem dX12_changes_174 : decode cX12_changes 174 = .ok (.iload_n 2, 1) := by decide +kernel
theorem dX12_changes_175 : decode cX12_changes 175 = .ok (.iload_n 3, 1) := by decide +kernel
theorem dX12_changes_176 : decode cX12_changes 176 = .ok (.invokevirtual 164, 3) := by decide +kernel
theorem dX12_changes_179 : decode cX12_changes 179 = .ok (.iload 4, 2) := by decide +kernel
theorem dX12_changes_181 : decode cX12_changes 181 = .ok (.ireturn, 1) := by decide +kernel
theorem dX12_undo_0 : decode cX12_undo 0 = .ok (.aload_n 0, 1) := by decide +kernel
theorem dX12_undo_1 : decode cX12_undo 1 = .ok (.getfield 161, 3) := by decide +kernel
theorem dX12_undo_4 : decode cX12_undo 4 = .ok (.ifCond .ne 6, 3) := by decide +kernel
theorem dX12_undo_7 : decode cX12_undo 7 = .ok (.bipush (-5), 2) := by decide +kernel
theorem dX12_undo_9 : decode cX12_undo 9 = .ok (.ireturn, 1) := by decide +kernel
theorem dX12_undo_10 : decode cX12_undo 10 = .ok (.aload_n 0, 1) := by decide +kernel
theorem dX12_undo_11 : decode cX12_undo 11 = .ok (.dup, 1) := by decide +kernel
theorem dX12_undo_12 : decode cX12_undo 12 = .ok (.getfield 161, 3) := by decide +kernel
theorem dX12_undo_15 : decode cX12_undo 15 = .ok (.iconst 1, 1) := by decide +kernel
theorem dX12_undo_16 : decode cX12_undo 16 = .ok (.isub, 1) := by decide +kernel
theorem dX12_undo_17 : decode cX12_undo 17 = .ok (.putfield 161, 3) := by decide +kernel
theorem dX12_undo_20 : decode cX12_undo 20 = .ok (.aload_n 0, 1) := by decide +kernel
theorem dX12_undo_21 : decode cX12_undo 21 = .ok (.dup, 1) := by decide +kernel
theorem dX12_undo_22 : decode cX12_undo 22 = .ok (.getfield 158, 3) := by decide +kernel
theorem dX12_undo_25 : decode cX12_undo 25 = .ok (.iconst 1, 1) := by decide +kernel
theorem dX12_undo_26 : decode cX12_undo 26 = .ok (.iadd, 1) := by decide +kernel
theorem dX12_undo_27 : decode cX12_undo 27 = .ok (.putfield 158, 3) := by decide +kernel
theorem dX12_undo_30 : decode cX12_undo 30 = .ok (.aload_n 0, 1) := by decide +kernel
theorem dX12_undo_31 : decode cX12_undo 31 = .ok (.aload_n 0, 1) := by decide +kernel
theorem dX12_undo_32 : decode cX12_undo 32 = .ok (.getfield 40, 3) := by decide +kernel
theorem dX12_undo_35 : decode cX12_undo 35 = .ok (.aload_n 0, 1) := by decide +kernel
theorem dX12_undo_36 : decode cX12_undo 36 = .ok (.getfield 161, 3) := by decide +kernel
theorem dX12_undo_39 : decode cX12_undo 39 = .ok (.iaload, 1) := by decide +kernel
theorem dX12_undo_40 : decode cX12_undo 40 = .ok (.aload_n 0, 1) := by decide +kernel
theorem dX12_undo_41 : decode cX12_undo 41 = .ok (.getfield 43, 3) := by decide +kernel
theorem dX12_undo_44 : decode cX12_undo 44 = .ok (.aload_n 0, 1) := by decide +kernel
theorem dX12_undo_45 : decode cX12_undo 45 = .ok (.getfield 161, 3) := by decide +kernel
theorem dX12_undo_48 : decode cX12_undo 48 = .ok (.iaload, 1) := by decide +kernel
theorem dX12_undo_49 : decode cX12_undo 49 = .ok (.aload_n 0, 1) := by decide +kernel
theorem dX12_undo_50 : decode cX12_undo 50 = .ok (.getfield 46, 3) := by decide +kernel
theorem dX12_undo_53 : decode cX12_undo 53 = .ok (.aload_n 0, 1) := by decide +kernel
theorem dX12_undo_54 : decode cX12_undo 54 = .ok (.getfield 161, 3) := by decide +kernel
theorem dX12_undo_57 : decode cX12_undo 57 = .ok (.iaload, 1) := by decide +kernel
theorem dX12_undo_58 : decode cX12_undo 58 = .ok (.invokevirtual 164, 3) := by decide +kernel
theorem dX12_undo_61 : decode cX12_undo 61 = .ok (.aload_n 0, 1) := by decide +kernel
theorem dX12_undo_62 : decode cX12_undo 62 = .ok (.getfield 161, 3) := by decide +kernel
theorem dX12_undo_65 : decode cX12_undo 65 = .ok (.ireturn, 1) := by decide +kernel
theorem dX12_redo_0 : decode cX12_redo 0 = .ok (.aload_n 0, 1) := by decide +kernel
theorem dX12_redo_1 : decode cX12_redo 1 = .ok (.getfield 158, 3) := by decide +kernel
theorem dX12_redo_4 : decode cX12_redo 4 = .ok (.ifCond .ne 6, 3) := by decide +kernel
theorem dX12_redo_7 : decode cX12_redo 7 = .ok (.bipush (-5), 2) := by decide +kernel
theorem dX12_redo_9 : decode cX12_redo 9 = .ok (.ireturn, 1) := by decide +kernel
theorem dX12_redo_10 : decode cX12_redo 10 = .ok (.aload_n 0, 1) := by decide +kernel
theorem dX12_redo_11 : decode cX12_redo 11 = .ok (.aload_n 0, 1) := by decide +kernel
theorem dX12_redo_12 : decode cX12_redo 12 = .ok (.getfield 40, 3) := by decide +kernel
theorem dX12_redo_15 : decode cX12_redo 15 = .ok (.aload_n 0, 1) := by decide +kernel
theorem dX12_redo_16 : decode cX12_redo 16 = .ok (.getfield 161, 3) := by decide +kernel
theorem dX12_redo_19 : decode cX12_redo 19 = .ok (.iaload, 1) := by decide +kernel
theorem dX12_redo_20 : decode cX12_redo 20 = .ok (.aload_n 0, 1) := by decide +kernel
theorem dX12_redo_21 : decode cX12_redo 21 = .ok (.getfield 43, 3) := by decide +kernel
theorem dX12_redo_24 : decode cX12_redo 24 = .ok (.aload_n 0, 1) := by decide +kernel
theorem dX12_redo_25 : decode cX12_redo 25 = .ok (.getfield 161, 3) := by decide +kernel
theorem dX12_redo_28 : decode cX12_redo 28 = .ok (.iaload, 1) := by decide +kernel
theorem dX12_redo_29 : decode cX12_redo 29 = .ok (.aload_n 0, 1) := by decide +kernel
theorem dX12_redo_30 : decode cX12_redo 30 = .ok (.getfield 49, 3) := by decide +kernel
theorem dX12_redo_33 : decode cX12_redo 33 = .ok (.aload_n 0, 1) := by decide +kernel
theorem dX12_redo_34 : decode cX12_redo 34 = .ok (.getfield 161, 3) := by decide +kernel
theorem dX12_redo_37 : decode cX12_redo 37 = .ok (.iaload, 1) := by decide +kernel
theorem dX12_redo_38 : decode cX12_redo 38 = .ok (.invokevirtual 164, 3) := by decide +kernel
theorem dX12_redo_41 : decode cX12_redo 41 = .ok (.aload_n 0, 1) := by decide +kernel
theorem dX12_redo_42 : decode cX12_redo 42 = .ok (.dup, 1) := by decide +kernel
theorem dX12_redo_43 : decode cX12_redo 43 = .ok (.getfield 161, 3) := by decide +kernel
theorem dX12_redo_46 : decode cX12_redo 46 = .ok (.iconst 1, 1) := by decide +kernel
theorem dX12_redo_47 : decode cX12_redo 47 = .ok (.iadd, 1) := by decide +kernel
theorem dX12_redo_48 : decode cX12_redo 48 = .ok (.putfield 161, 3) := by decide +kernel
theorem dX12_redo_51 : decode cX12_redo 51 = .ok (.aload_n 0, 1) := by decide +kernel
theorem dX12_redo_52 : decode cX12_redo 52 = .ok (.dup, 1) := by decide +kernel
theorem dX12_redo_53 : decode cX12_redo 53 = .ok (.getfield 158, 3) := by decide +kernel
theorem dX12_redo_56 : decode cX12_redo 56 = .ok (.iconst 1, 1) := by decide +kernel
theorem dX12_redo_57 : decode cX12_redo 57 = .ok (.isub, 1) := by decide +kernel
theorem dX12_redo_58 : decode cX12_redo 58 = .ok (.putfield 158, 3) := by decide +kernel
theorem dX12_redo_61 : decode cX12_redo 61 = .ok (.aload_n 0, 1) := by decide +kernel
theorem dX12_redo_62 : decode cX12_redo 62 = .ok (.getfield 158, 3) := by decide +kernel
theorem dX12_redo_65 : decode cX12_redo 65 = .ok (.ireturn, 1) := by decide +kernel
theorem dX12_isPlace_0 : decode cX12_isPlace 0 = .ok (.iload_n 2, 1) := by decide +kernel
theorem dX12_isPlace_1 : decode cX12_isPlace 1 = .ok (.ifCond .ne 11, 3) := by decide +kernel
theorem dX12_isPlace_4 : decode cX12_isPlace 4 = .ok (.aload_n 0, 1) := by decide +kernel
theorem dX12_isPlace_5 : decode cX12_isPlace 5 = .ok (.iload_n 1, 1) := by decide +kernel
theorem dX12_isPlace_6 : decode cX12_isPlace 6 = .ok (.invokevirtual 142, 3) := by decide +kernel
theorem dX12_isPlace_9 : decode cX12_isPlace 9 = .ok (.goto 41, 3) := by decide +kernel
theorem dX12_isPlace_12 : decode cX12_isPlace 12 = .ok (.iload_n 2, 1) := by decide +kernel
theorem dX12_isPlace_13 : decode cX12_isPlace 13 = .ok (.iconst 1, 1) := by decide +kernel
theorem dX12_isPlace_14 : decode cX12_isPlace 14 = .ok (.bipush 7, 2) := by decide +kernel
theorem dX12_isPlace_16 : decode cX12_isPlace 16 = .ok (.invokestatic 131, 3) := by decide +kernel
theorem dX12_isPlace_19 : decode cX12_isPlace 19 = .ok (.ifCond .eq 11, 3) := by decide +kernel
theorem dX12_isPlace_22 : decode cX12_isPlace 22 = .ok (.aload_n 0, 1) := by decide +kernel
theorem dX12_isPlace_23 : decode cX12_isPlace 23 = .ok (.iload_n 1, 1) := by decide +kernel
theorem dX12_isPlace_24 : decode cX12_isPlace 24 = .ok (.invokevirtual 168, 3) := by decide +kernel
theorem dX12_isPlace_27 : decode cX12_isPlace 27 = .ok (.goto 23, 3) := by decide +kernel
theorem dX12_isPlace_30 : decode cX12_isPlace 30 = .ok (.iload_n 2, 1) := by decide +kernel
theorem dX12_isPlace_31 : decode cX12_isPlace 31 = .ok (.bipush 8, 2) := by decide +kernel
theorem dX12_isPlace_33 : decode cX12_isPlace 33 = .ok (.bipush 11, 2) := by decide +kernel
theorem dX12_isPlace_35 : decode cX12_isPlace 35 = .ok (.invokestatic 131, 3) := by decide +kernel
theorem dX12_isPlace_38 : decode cX12_isPlace 38 = .ok (.ifCond .eq 11, 3) := by decide +kernel
theorem dX12_isPlace_41 : decode cX12_isPlace 41 = .ok (.iload_n 1, 1) := by decide +kernel
theorem dX12_isPlace_42 : decode cX12_isPlace 42 = .ok (.ifCond .ne 7, 3) := by decide +kernel
theorem dX12_isPlace_45 : decode cX12_isPlace 45 = .ok (.iconst 1, 1) := by decide +kernel
theorem dX12_isPlace_46 : decode cX12_isPlace 46 = .ok (.goto 4, 3) := by decide +kernel
theorem dX12_isPlace_49 : decode cX12_isPlace 49 = .ok (.iconst 0, 1) := by decide +kernel
theorem dX12_isPlace_50 : decode cX12_isPlace 50 = .ok (.ireturn, 1) := by decide +kernel
theorem dX12_mayHave_0 : decode cX12_mayHave 0 = .ok (.iload_n 0, 1) := by decide +kernel
theorem dX12_mayHave_1 : decode cX12_mayHave 1 = .ok (.tableswitch 121 0 11 #[63, 68, 76, 84, 121, 92, 121, 99, 99, 104, 76, 112], 63) := by decide +kernel
theorem dX12_mayHave_64 : decode cX12_mayHave 64 = .ok (.iload_n 1, 1) := by decide +kernel
theorem dX12_mayHave_65 : decode cX12_mayHave 65 = .ok (.invokestatic 138, 3) := by decide +kernel
theorem dX12_mayHave_68 : decode cX12_mayHave 68 = .ok (.ireturn, 1) := by decide +kernel
theorem dX12_mayHave_69 : decode cX12_mayHave 69 = .ok (.iload_n 1, 1) := by decide +kernel
theorem dX12_mayHave_70 : decode cX12_mayHave 70 = .ok (.iconst 0, 1) := by decide +kernel
theorem dX12_mayHave_71 : decode cX12_mayHave 71 = .ok (.bipush 99, 2) := by decide +kernel
theorem dX12_mayHave_73 : decode cX12_mayHave 73 = .ok (.invokestatic 131, 3) := by decide +kernel
theorem dX12_mayHave_76 : decode cX12_mayHave 76 = .ok (.ireturn, 1) := by decide +kernel
theorem dX12_mayHave_77 : decode cX12_mayHave 77 = .ok (.iload_n 1, 1) := by decide +kernel
theorem dX12_mayHave_78 : decode cX12_mayHave 78 = .ok (.iconst 1, 1) := by decide +kernel
theorem dX12_mayHave_79 : decode cX12_mayHave 79 = .ok (.bipush 9, 2) := by decide +kernel
theorem dX12_mayHave_81 : decode cX12_mayHave 81 = .ok (.invokestatic 131, 3) := by decide +kernel
theorem dX12_mayHave_84 : decode cX12_mayHave 84 = .ok (.ireturn, 1) := by decide +kernel
theorem dX12_mayHave_85 : decode cX12_mayHave 85 = .ok (.iload_n 1, 1) := by decide +kernel
theorem dX12_mayHave_86 : decode cX12_mayHave 86 = .ok (.iconst 0, 1) := by decide +kernel
theorem dX12_mayHave_87 : decode cX12_mayHave 87 = .ok (.bipush 40, 2) := by decide +kernel
theorem dX12_mayHave_89 : decode cX12_mayHave 89 = .ok (.invokestatic 131, 3) := by decide +kernel
theorem dX12_mayHave_92 : decode cX12_mayHave 92 = .ok (.ireturn, 1) := by decide +kernel
theorem dX12_mayHave_93 : decode cX12_mayHave 93 = .ok (.iload_n 1, 1) := by decide +kernel
theorem dX12_mayHave_94 : decode cX12_mayHave 94 = .ok (.iconst 0, 1) := by decide +kernel
theorem dX12_mayHave_95 : decode cX12_mayHave 95 = .ok (.iconst 3, 1) := by decide +kernel
theorem dX12_mayHave_96 : decode cX12_mayHave 96 = .ok (.invokestatic 131, 3) := by decide +kernel
theorem dX12_mayHave_99 : decode cX12_mayHave 99 = .ok (.ireturn, 1) := by decide +kernel
theorem dX12_mayHave_100 : decode cX12_mayHave 100 = .ok (.iload_n 1, 1) := by decide +kernel
theorem dX12_mayHave_101 : decode cX12_mayHave 101 = .ok (.invokestatic 171, 3) := by decide +kernel
theorem dX12_mayHave_104 : decode cX12_mayHave 104 = .ok (.ireturn, 1) := by decide +kernel
theorem dX12_mayHave_105 : decode cX12_mayHave 105 = .ok (.iload_n 1, 1) := by decide +kernel
theorem dX12_mayHave_106 : decode cX12_mayHave 106 = .ok (.iconst 2, 1) := by decide +kernel
theorem dX12_mayHave_107 : decode cX12_mayHave 107 = .ok (.bipush 30, 2) := by decide +kernel
theorem dX12_mayHave_109 : decode cX12_mayHave 109 = .ok (.invokestatic 131, 3) := by decide +kernel
theorem dX12_mayHave_112 : decode cX12_mayHave 112 = .ok (.ireturn, 1) := by decide +kernel
theorem dX12_mayHave_113 : decode cX12_mayHave 113 = .ok (.iload_n 1, 1) := by decide +kernel
theorem dX12_mayHave_114 : decode cX12_mayHave 114 = .ok (.iconst 0, 1) := by decide +kernel
theorem dX12_mayHave_115 : decode cX12_mayHave 115 = .ok (.sipush 199, 3) := by decide +kernel
theorem dX12_mayHave_118 : decode cX12_mayHave 118 = .ok (.invokestatic 131, 3) := by decide +kernel
theorem dX12_mayHave_121 : decode cX12_mayHave 121 = .ok (.ireturn, 1) := by decide +kernel
theorem dX12_mayHave_122 : decode cX12_mayHave 122 = .ok (.iload_n 1, 1) := by decide +kernel
theorem dX12_mayHave_123 : decode cX12_mayHave 123 = .ok (.iconst 0, 1) := by decide +kernel
theorem dX12_mayHave_124 : decode cX12_mayHave 124 = .ok (.bipush 9, 2) := by decide +kernel
theorem dX12_mayHave_126 : decode cX12_mayHave 126 = .ok (.invokestatic 131, 3) := by decide +kernel
theorem dX12_mayHave_129 : decode cX12_mayHave 129 = .ok (.ireturn, 1) := by decide +kernel
theorem dX12_mend_0 : decode cX12_mend 0 = .ok (.aload_n 0, 1) := by decide +kernel
theorem dX12_mend_1 : decode cX12_mend 1 = .ok (.iload_n 1, 1) := by decide +kernel
theorem dX12_mend_2 : decode cX12_mend 2 = .ok (.iload_n 2, 1) := by decide +kernel
theorem dX12_mend_3 : decode cX12_mend 3 = .ok (.invokevirtual 174, 3) := by decide +kernel
theorem dX12_mend_6 : decode cX12_mend 6 = .ok (.ifCond .eq 21, 3) := by decide +kernel
theorem dX12_mend_9 : decode cX12_mend 9 = .ok (.iload_n 2, 1) := by decide +kernel
theorem dX12_mend_10 : decode cX12_mend 10 = .ok (.iload_n 3, 1) := by decide +kernel
theorem dX12_mend_11 : decode cX12_mend 11 = .ok (.invokestatic 178, 3) := by decide +kernel
theorem dX12_mend_14 : decode cX12_mend 14 = .ok (.ifCond .eq 13, 3) := by decide +kernel
theorem dX12_mend_17 : decode cX12_mend 17 = .ok (.aload_n 0, 1) := by decide +kernel
theorem dX12_mend_18 : decode cX12_mend 18 = .ok (.iload_n 2, 1) := by decide +kernel
theorem dX12_mend_19 : decode cX12_mend 19 = .ok (.iload_n 1, 1) := by decide +kernel
theorem dX12_mend_20 : decode cX12_mend 20 = .ok (.iload_n 3, 1) := by decide +kernel
theorem dX12_mend_21 : decode cX12_mend 21 = .ok (.invokevirtual 181, 3) := by decide +kernel
theorem dX12_mend_24 : decode cX12_mend 24 = .ok (.goto 4, 3) := by decide +kernel
theorem dX12_mend_27 : decode cX12_mend 27 = .ok (.iconst (-1), 1) := by decide +kernel
theorem dX12_mend_28 : decode cX12_mend 28 = .ok (.ireturn, 1) := by decide +kernel
theorem dX12_of_0 : decode cX12_of 0 = .ok (.iload_n 2, 1) := by decide +kernel
theorem dX12_of_1 : decode cX12_of 1 = .ok (.bipush 12, 2) := by decide +kernel
theorem dX12_of_3 : decode cX12_of 3 = .ok (.if_icmp .ne 22, 3) := by decide +kernel
theorem dX12_of_6 : decode cX12_of 6 = .ok (.aload_n 0, 1) := by decide +kernel
theorem dX12_of_7 : decode cX12_of 7 = .ok (.iload_n 1, 1) := by decide +kernel
theorem dX12_of_8 : decode cX12_of 8 = .ok (.invokevirtual 168, 3) := by decide +kernel
theorem dX12_of_11 : decode cX12_of 11 = .ok (.ifCond .eq 12, 3) := by decide +kernel
theorem dX12_of_14 : decode cX12_of 14 = .ok (.aload_n 0, 1) := by decide +kernel
theorem dX12_of_15 : decode cX12_of 15 = .ok (.getfield 13, 3) := by decide +kernel
theorem dX12_of_18 : decode cX12_of 18 = .ok (.iload_n 1, 1) := by decide +kernel
theorem dX12_of_19 : decode cX12_of 19 = .ok (.iaload, 1) := by decide +kernel
theorem dX12_of_20 : decode cX12_of 20 = .ok (.goto 4, 3) := by decide +kernel
theorem dX12_of_23 : decode cX12_of 23 = .ok (.iconst (-1), 1) := by decide +kernel
theorem dX12_of_24 : decode cX12_of 24 = .ok (.ireturn, 1) := by decide +kernel
theorem dX12_of_25 : decode cX12_of 25 = .ok (.aload_n 0, 1) := by decide +kernel
theorem dX12_of_26 : decode cX12_of 26 = .ok (.iload_n 1, 1) := by decide +kernel
theorem dX12_of_27 : decode cX12_of 27 = .ok (.iload_n 2, 1) := by decide +kernel
theorem dX12_of_28 : decode cX12_of 28 = .ok (.invokevirtual 174, 3) := by decide +kernel
theorem dX12_of_31 : decode cX12_of 31 = .ok (.ifCond .eq 12, 3) := by decide +kernel
theorem dX12_of_34 : decode cX12_of 34 = .ok (.aload_n 0, 1) := by decide +kernel
theorem dX12_of_35 : decode cX12_of 35 = .ok (.iload_n 2, 1) := by decide +kernel
theorem dX12_of_36 : decode cX12_of 36 = .ok (.iload_n 1, 1) := by decide +kernel
theorem dX12_of_37 : decode cX12_of 37 = .ok (.invokevirtual 154, 3) := by decide +kernel
theorem dX12_of_40 : decode cX12_of 40 = .ok (.goto 4, 3) := by decide +kernel
theorem dX12_of_43 : decode cX12_of 43 = .ok (.iconst (-1), 1) := by decide +kernel
theorem dX12_of_44 : decode cX12_of 44 = .ok (.ireturn, 1) := by decide +kernel
theorem dX12_feed_0 : decode cX12_feed 0 = .ok (.iload_n 1, 1) := by decide +kernel
theorem dX12_feed_1 : decode cX12_feed 1 = .ok (.iconst 0, 1) := by decide +kernel
theorem dX12_feed_2 : decode cX12_feed 2 = .ok (.sipush 255, 3) := by decide +kernel
theorem dX12_feed_5 : decode cX12_feed 5 = .ok (.invokestatic 131, 3) := by decide +kernel
theorem dX12_feed_8 : decode cX12_feed 8 = .ok (.ifCond .ne 5, 3) := by decide +kernel
theorem dX12_feed_11 : decode cX12_feed 11 = .ok (.iconst (-1), 1) := by decide +kernel
theorem dX12_feed_12 : decode cX12_feed 12 = .ok (.ireturn, 1) := by decide +kernel
theorem dX12_feed_13 : decode cX12_feed 13 = .ok (.aload_n 0, 1) := by decide +kernel
theorem dX12_feed_14 : decode cX12_feed 14 = .ok (.getfield 184, 3) := by decide +kernel
theorem dX12_feed_17 : decode cX12_feed 17 = .ok (.bipush 120, 2) := by decide +kernel
theorem dX12_feed_19 : decode cX12_feed 19 = .ok (.if_icmp .ne 6, 3) := by decide +kernel
theorem dX12_feed_22 : decode cX12_feed 22 = .ok (.bipush (-3), 2) := by decide +kernel
theorem dX12_feed_24 : decode cX12_feed 24 = .ok (.ireturn, 1) := by decide +kernel
theorem dX12_feed_25 : decode cX12_feed 25 = .ok (.aload_n 0, 1) := by decide +kernel
theorem dX12_feed_26 : decode cX12_feed 26 = .ok (.getfield 52, 3) := by decide +kernel
theorem dX12_feed_29 : decode cX12_feed 29 = .ok (.aload_n 0, 1) := by decide +kernel
theorem dX12_feed_30 : decode cX12_feed 30 = .ok (.getfield 184, 3) := by decide +kernel
theorem dX12_feed_33 : decode cX12_feed 33 = .ok (.iload_n 1, 1) := by decide +kernel
theorem dX12_feed_34 : decode cX12_feed 34 = .ok (.i2b, 1) := by decide +kernel
theorem dX12_feed_35 : decode cX12_feed 35 = .ok (.bastore, 1) := by decide +kernel
theorem dX12_feed_36 : decode cX12_feed 36 = .ok (.aload_n 0, 1) := by decide +kernel
theorem dX12_feed_37 : decode cX12_feed 37 = .ok (.dup, 1) := by decide +kernel
theorem dX12_feed_38 : decode cX12_feed 38 = .ok (.getfield 184, 3) := by decide +kernel
theorem dX12_feed_41 : decode cX12_feed 41 = .ok (.iconst 1, 1) := by decide +kernel
theorem dX12_feed_42 : decode cX12_feed 42 = .ok (.iadd, 1) := by decide +kernel
theorem dX12_feed_43 : decode cX12_feed 43 = .ok (.putfield 184, 3) := by decide +kernel
theorem dX12_feed_46 : decode cX12_feed 46 = .ok (.aload_n 0, 1) := by decide +kernel
theorem dX12_feed_47 : decode cX12_feed 47 = .ok (.getfield 184, 3) := by decide +kernel
theorem dX12_feed_50 : decode cX12_feed 50 = .ok (.ireturn, 1) := by decide +kernel
theorem dX12_look_0 : decode cX12_look 0 = .ok (.aload_n 0, 1) := by decide +kernel
theorem dX12_look_1 : decode cX12_look 1 = .ok (.getfield 187, 3) := by decide +kernel
theorem dX12_look_4 : decode cX12_look 4 = .ok (.aload_n 0, 1) := by decide +kernel
theorem dX12_look_5 : decode cX12_look 5 = .ok (.getfield 184, 3) := by decide +kernel
theorem dX12_look_8 : decode cX12_look 8 = .ok (.if_icmp .ge 15, 3) := by decide +kernel
theorem dX12_look_11 : decode cX12_look 11 = .ok (.aload_n 0, 1) := by decide +kernel
theorem dX12_look_12 : decode cX12_look 12 = .ok (.getfield 52, 3) := by decide +kernel
theorem dX12_look_15 : decode cX12_look 15 = .ok (.aload_n 0, 1) := by decide +kernel
theorem dX12_look_16 : decode cX12_look 16 = .ok (.getfield 187, 3) := by decide +kernel
theorem dX12_look_19 : decode cX12_look 19 = .ok (.baload, 1) := by decide +kernel
theorem dX12_look_20 : decode cX12_look 20 = .ok (.goto 4, 3) := by decide +kernel
theorem dX12_look_23 : decode cX12_look 23 = .ok (.iconst (-1), 1) := by decide +kernel
theorem dX12_look_24 : decode cX12_look 24 = .ok (.ireturn, 1) := by decide +kernel
theorem dX12_wrong_0 : decode cX12_wrong 0 = .ok (.aload_n 0, 1) := by decide +kernel
theorem dX12_wrong_1 : decode cX12_wrong 1 = .ok (.getfield 190, 3) := by decide +kernel
theorem dX12_wrong_4 : decode cX12_wrong 4 = .ok (.ifCond .ge 11, 3) := by decide +kernel
theorem dX12_wrong_7 : decode cX12_wrong 7 = .ok (.aload_n 0, 1) := by decide +kernel
theorem dX12_wrong_8 : decode cX12_wrong 8 = .ok (.aload_n 0, 1) := by decide +kernel
theorem dX12_wrong_9 : decode cX12_wrong 9 = .ok (.getfield 187, 3) := by decide +kernel
theorem dX12_wrong_12 : decode cX12_wrong 12 = .ok (.putfield 190, 3) := by decide +kernel
theorem dX12_wrong_15 : decode cX12_wrong 15 = .ok (.return_, 1) := by decide +kernel
theorem dX12_addStep_0 : decode cX12_addStep 0 = .ok (.aload_n 0, 1) := by decide +kernel
theorem dX12_addStep_1 : decode cX12_addStep 1 = .ok (.getfield 56, 3) := by decide +kernel
theorem dX12_addStep_4 : decode cX12_addStep 4 = .ok (.sipush 130, 3) := by decide +kernel
theorem dX12_addStep_7 : decode cX12_addStep 7 = .ok (.aload_n 0, 1) := by decide +kernel
theorem dX12_addStep_8 : decode cX12_addStep 8 = .ok (.getfield 193, 3) := by decide +kernel
theorem dX12_addStep_11 : decode cX12_addStep 11 = .ok (.iadd, 1) := by decide +kernel
theorem dX12_addStep_12 : decode cX12_addStep 12 = .ok (.iload_n 1, 1) := by decide +kernel
theorem dX12_addStep_13 : decode cX12_addStep 13 = .ok (.i2b, 1) := by decide +kernel
theorem dX12_addStep_14 : decode cX12_addStep 14 = .ok (.bastore, 1) := by decide +kernel
theorem dX12_addStep_15 : decode cX12_addStep 15 = .ok (.aload_n 0, 1) := by decide +kernel
theorem dX12_addStep_16 : decode cX12_addStep 16 = .ok (.getfield 59, 3) := by decide +kernel
theorem dX12_addStep_19 : decode cX12_addStep 19 = .ok (.sipush 130, 3) := by decide +kernel
theorem dX12_addStep_22 : decode cX12_addStep 22 = .ok (.aload_n 0, 1) := by decide +kernel
theorem dX12_addStep_23 : decode cX12_addStep 23 = .ok (.getfield 193, 3) := by decide +kernel
theorem dX12_addStep_26 : decode cX12_addStep 26 = .ok (.iadd, 1) := by decide +kernel
theorem dX12_addStep_27 : decode cX12_addStep 27 = .ok (.iload_n 2, 1) := by decide +kernel
theorem dX12_addStep_28 : decode cX12_addStep 28 = .ok (.iastore, 1) := by decide +kernel
theorem dX12_addStep_29 : decode cX12_addStep 29 = .ok (.aload_n 0, 1) := by decide +kernel
theorem dX12_addStep_30 : decode cX12_addStep 30 = .ok (.dup, 1) := by decide +kernel
theorem dX12_addStep_31 : decode cX12_addStep 31 = .ok (.getfield 193, 3) := by decide +kernel
theorem dX12_addStep_34 : decode cX12_addStep 34 = .ok (.iconst 1, 1) := by decide +kernel
theorem dX12_addStep_35 : decode cX12_addStep 35 = .ok (.iadd, 1) := by decide +kernel
theorem dX12_addStep_36 : decode cX12_addStep 36 = .ok (.putfield 193, 3) := by decide +kernel
theorem dX12_addStep_39 : decode cX12_addStep 39 = .ok (.return_, 1) := by decide +kernel
theorem dX12_nameOf_0 : decode cX12_nameOf 0 = .ok (.iload_n 0, 1) := by decide +kernel
theorem dX12_nameOf_1 : decode cX12_nameOf 1 = .ok (.tableswitch 103 103 121 #[93, 103, 103, 103, 99, 95, 103, 103, 97, 103, 103, 103, 103, 103, 103, 103, 91, 103, 101], 91) := by decide +kernel
theorem dX12_nameOf_92 : decode cX12_nameOf 92 = .ok (.iconst 0, 1) := by decide +kernel
theorem dX12_nameOf_93 : decode cX12_nameOf 93 = .ok (.ireturn, 1) := by decide +kernel
theorem dX12_nameOf_94 : decode cX12_nameOf 94 = .ok (.iconst 1, 1) := by decide +kernel
theorem dX12_nameOf_95 : decode cX12_nameOf 95 = .ok (.ireturn, 1) := by decide +kernel
theorem dX12_nameOf_96 : decode cX12_nameOf 96 = .ok (.iconst 2, 1) := by decide +kernel
theorem dX12_nameOf_97 : decode cX12_nameOf 97 = .ok (.ireturn, 1) := by decide +kernel
theorem dX12_nameOf_98 : decode cX12_nameOf 98 = .ok (.iconst 3, 1) := by decide +kernel
theorem dX12_nameOf_99 : decode cX12_nameOf 99 = .ok (.ireturn, 1) := by decide +kernel
theorem dX12_nameOf_100 : decode cX12_nameOf 100 = .ok (.iconst 4, 1) := by decide +kernel
theorem dX12_nameOf_101 : decode cX12_nameOf 101 = .ok (.ireturn, 1) := by decide +kernel
theorem dX12_nameOf_102 : decode cX12_nameOf 102 = .ok (.iconst 5, 1) := by decide +kernel
theorem dX12_nameOf_103 : decode cX12_nameOf 103 = .ok (.ireturn, 1) := by decide +kernel
theorem dX12_nameOf_104 : decode cX12_nameOf 104 = .ok (.iconst (-1), 1) := by decide +kernel
theorem dX12_nameOf_105 : decode cX12_nameOf 105 = .ok (.ireturn, 1) := by decide +kernel
theorem dX12_opens_0 : decode cX12_opens 0 = .ok (.aload_n 0, 1) := by decide +kernel
theorem dX12_opens_1 : decode cX12_opens 1 = .ok (.getfield 196, 3) := by decide +kernel
theorem dX12_opens_4 : decode cX12_opens 4 = .ok (.bipush 6, 2) := by decide +kernel
theorem dX12_opens_6 : decode cX12_opens 6 = .ok (.if_icmp .ne 9, 3) := by decide +kernel
theorem dX12_opens_9 : decode cX12_opens 9 = .ok (.aload_n 0, 1) := by decide +kernel
theorem dX12_opens_10 : decode cX12_opens 10 = .ok (.invokevirtual 199, 3) := by decide +kernel
theorem dX12_opens_13 : decode cX12_opens 13 = .ok (.iconst 0, 1) := by decide +kernel
theorem dX12_opens_14 : decode cX12_opens 14 = .ok (.ireturn, 1) := by decide +kernel
theorem dX12_opens_15 : decode cX12_opens 15 = .ok (.aload_n 0, 1) := by decide +kernel
theorem dX12_opens_16 : decode cX12_opens 16 = .ok (.dup, 1) := by decide +kernel
theorem dX12_opens_17 : decode cX12_opens 17 = .ok (.getfield 196, 3) := by decide +kernel
theorem dX12_opens_20 : decode cX12_opens 20 = .ok (.iconst 1, 1) := by decide +kernel
theorem dX12_opens_21 : decode cX12_opens 21 = .ok (.iadd, 1) := by decide +kernel
theorem dX12_opens_22 : decode cX12_opens 22 = .ok (.putfield 196, 3) := by decide +kernel
theorem dX12_opens_25 : decode cX12_opens 25 = .ok (.aload_n 0, 1) := by decide +kernel
theorem dX12_opens_26 : decode cX12_opens 26 = .ok (.dup, 1) := by decide +kernel
theorem dX12_opens_27 : decode cX12_opens 27 = .ok (.getfield 187, 3) := by decide +kernel
theorem dX12_opens_30 : decode cX12_opens 30 = .ok (.iconst 1, 1) := by decide +kernel
theorem dX12_opens_31 : decode cX12_opens 31 = .ok (.iadd, 1) := by decide +kernel
theorem dX12_opens_32 : decode cX12_opens 32 = .ok (.putfield 187, 3) := by decide +kernel
theorem dX12_opens_35 : decode cX12_opens 35 = .ok (.iconst 1, 1) := by decide +kernel
theorem dX12_opens_36 : decode cX12_opens 36 = .ok (.ireturn, 1) := by decide +kernel
theorem dX12_figure_0 : decode cX12_figure 0 = .ok (.iconst 0, 1) := by decide +kernel
theorem dX12_figure_1 : decode cX12_figure 1 = .ok (.istore_n 1, 1) := by decide +kernel
theorem dX12_figure_2 : decode cX12_figure 2 = .ok (.iconst 0, 1) := by decide +kernel
theorem dX12_figure_3 : decode cX12_figure 3 = .ok (.istore_n 2, 1) := by decide +kernel
theorem dX12_figure_4 : decode cX12_figure 4 = .ok (.iload_n 2, 1) := by decide +kernel
theorem dX12_figure_5 : decode cX12_figure 5 = .ok (.iconst 4, 1) := by decide +kernel
theorem dX12_figure_6 : decode cX12_figure 6 = .ok (.if_icmp .ge 46, 3) := by decide +kernel
theorem dX12_figure_9 : decode cX12_figure 9 = .ok (.aload_n 0, 1) := by decide +kernel
theorem dX12_figure_10 : decode cX12_figure 10 = .ok (.invokevirtual 202, 3) := by decide +kernel
theorem dX12_figure_13 : decode cX12_figure 13 = .ok (.bipush 48, 2) := by decide +kernel
theorem dX12_figure_15 : decode cX12_figure 15 = .ok (.bipush 57, 2) := by decide +kernel
theorem dX12_figure_17 : decode cX12_figure 17 = .ok (.invokestatic 131, 3) := by decide +kernel
theorem dX12_figure_20 : decode cX12_figure 20 = .ok (.ifCond .eq 32, 3) := by decide +kernel
theorem dX12_figure_23 : decode cX12_figure 23 = .ok (.bipush 10, 2) := by decide +kernel
theorem dX12_figure_25 : decode cX12_figure 25 = .ok (.iload_n 1, 1) := by decide +kernel
theorem dX12_figure_26 : decode cX12_figure 26 = .ok (.imul, 1) := by decide +kernel
theorem dX12_figure_27 : decode cX12_figure 27 = .ok (.aload_n 0, 1) := by decide +kernel
theorem dX12_figure_28 : decode cX12_figure 28 = .ok (.invokevirtual 202, 3) := by decide +kernel
theorem dX12_figure_31 : decode cX12_figure 31 = .ok (.iadd, 1) := by decide +kernel
theorem dX12_figure_32 : decode cX12_figure 32 = .ok (.bipush 48, 2) := by decide +kernel
theorem dX12_figure_34 : decode cX12_figure 34 = .ok (.isub, 1) := by decide +kernel
theorem dX12_figure_35 : decode cX12_figure 35 = .ok (.istore_n 1, 1) := by decide +kernel
theorem dX12_figure_36 : decode cX12_figure 36 = .ok (.iinc 2 1, 3) := by decide +kernel
theorem dX12_figure_39 : decode cX12_figure 39 = .ok (.aload_n 0, 1) := by decide +kernel
theorem dX12_figure_40 : decode cX12_figure 40 = .ok (.dup, 1) := by decide +kernel
theorem dX12_figure_41 : decode cX12_figure 41 = .ok (.getfield 187, 3) := by decide +kernel
theorem dX12_figure_44 : decode cX12_figure 44 = .ok (.iconst 1, 1) := by decide +kernel
theorem dX12_figure_45 : decode cX12_figure 45 = .ok (.iadd, 1) := by decide +kernel
theorem dX12_figure_46 : decode cX12_figure 46 = .ok (.putfield 187, 3) := by decide +kernel
theorem dX12_figure_49 : decode cX12_figure 49 = .ok (.goto (-45), 3) := by decide +kernel
theorem dX12_figure_52 : decode cX12_figure 52 = .ok (.iload_n 2, 1) := by decide +kernel
theorem dX12_figure_53 : decode cX12_figure 53 = .ok (.ifCond .eq 17, 3) := by decide +kernel
theorem dX12_figure_56 : decode cX12_figure 56 = .ok (.aload_n 0, 1) := by decide +kernel
theorem dX12_figure_57 : decode cX12_figure 57 = .ok (.invokevirtual 202, 3) := by decide +kernel
theorem dX12_figure_60 : decode cX12_figure 60 = .ok (.bipush 48, 2) := by decide +kernel
theorem dX12_figure_62 : decode cX12_figure 62 = .ok (.bipush 57, 2) := by decide +kernel
theorem dX12_figure_64 : decode cX12_figure 64 = .ok (.invokestatic 131, 3) := by decide +kernel
theorem dX12_figure_67 : decode cX12_figure 67 = .ok (.ifCond .eq 7, 3) := by decide +kernel
theorem dX12_figure_70 : decode cX12_figure 70 = .ok (.aload_n 0, 1) := by decide +kernel
theorem dX12_figure_71 : decode cX12_figure 71 = .ok (.invokevirtual 199, 3) := by decide +kernel
theorem dX12_figure_74 : decode cX12_figure 74 = .ok (.aload_n 0, 1) := by decide +kernel
theorem dX12_figure_75 : decode cX12_figure 75 = .ok (.iconst 1, 1) := by decide +kernel
theorem dX12_figure_76 : decode cX12_figure 76 = .ok (.iload_n 1, 1) := by decide +kernel
theorem dX12_figure_77 : decode cX12_figure 77 = .ok (.invokevirtual 206, 3) := by decide +kernel
theorem dX12_figure_80 : decode cX12_figure 80 = .ok (.return_, 1) := by decide +kernel
theorem dX12_operand_0 : decode cX12_operand 0 = .ok (.aload_n 0, 1) := by decide +kernel
theorem dX12_operand_1 : decode cX12_operand 1 = .ok (.invokevirtual 202, 3) := by decide +kernel
theorem dX12_operand_4 : decode cX12_operand 4 = .ok (.istore_n 1, 1) := by decide +kernel
theorem dX12_operand_5 : decode cX12_operand 5 = .ok (.iload_n 1, 1) := by decide +kernel
theorem dX12_operand_6 : decode cX12_operand 6 = .ok (.invokestatic 210, 3) := by decide +kernel
theorem dX12_operand_9 : decode cX12_operand 9 = .ok (.ifCond .lt 25, 3) := by decide +kernel
theorem dX12_operand_12 : decode cX12_operand 12 = .ok (.aload_n 0, 1) := by decide +kernel
theorem dX12_operand_13 : decode cX12_operand 13 = .ok (.iconst 2, 1) := by decide +kernel
theorem dX12_operand_14 : decode cX12_operand 14 = .ok (.iload_n 1, 1) := by decide +kernel
theorem dX12_operand_15 : decode cX12_operand 15 = .ok (.invokestatic 210, 3) := by decide +kernel
theorem dX12_operand_18 : decode cX12_operand 18 = .ok (.invokevirtual 206, 3) := by decide +kernel
theorem dX12_operand_21 : decode cX12_operand 21 = .ok (.aload_n 0, 1) := by decide +kernel
theorem dX12_operand_22 : decode cX12_operand 22 = .ok (.dup, 1) := by decide +kernel
theorem dX12_operand_23 : decode cX12_operand 23 = .ok (.getfield 187, 3) := by decide +kernel
theorem dX12_operand_26 : decode cX12_operand 26 = .ok (.iconst 1, 1) := by decide +kernel
theorem dX12_operand_27 : decode cX12_operand 27 = .ok (.iadd, 1) := by decide +kernel
theorem dX12_operand_28 : decode cX12_operand 28 = .ok (.putfield 187, 3) := by decide +kernel
theorem dX12_operand_31 : decode cX12_operand 31 = .ok (.goto 123, 3) := by decide +kernel
theorem dX12_operand_34 : decode cX12_operand 34 = .ok (.iload_n 1, 1) := by decide +kernel
theorem dX12_operand_35 : decode cX12_operand 35 = .ok (.bipush 33, 2) := by decide +kernel
theorem dX12_operand_37 : decode cX12_operand 37 = .ok (.if_icmp .eq 9, 3) := by decide +kernel
theorem dX12_operand_40 : decode cX12_operand 40 = .ok (.iload_n 1, 1) := by decide +kernel
theorem dX12_operand_41 : decode cX12_operand 41 = .ok (.bipush 45, 2) := by decide +kernel
theorem dX12_operand_43 : decode cX12_operand 43 = .ok (.if_icmp .ne 44, 3) := by decide +kernel
theorem dX12_operand_46 : decode cX12_operand 46 = .ok (.aload_n 0, 1) := by decide +kernel
theorem dX12_operand_47 : decode cX12_operand 47 = .ok (.invokevirtual 214, 3) := by decide +kernel
theorem dX12_operand_50 : decode cX12_operand 50 = .ok (.ifCond .ne 4, 3) := by decide +kernel
theorem dX12_operand_53 : decode cX12_operand 53 = .ok (.return_, 1) := by decide +kernel
theorem dX12_operand_54 : decode cX12_operand 54 = .ok (.aload_n 0, 1) := by decide +kernel
theorem dX12_operand_55 : decode cX12_operand 55 = .ok (.invokevirtual 218, 3) := by decide +kernel
theorem dX12_operand_58 : decode cX12_operand 58 = .ok (.aload_n 0, 1) := by decide +kernel
theorem dX12_operand_59 : decode cX12_operand 59 = .ok (.dup, 1) := by decide +kernel
theorem dX12_operand_60 : decode cX12_operand 60 = .ok (.getfield 196, 3) := by decide +kernel
theorem dX12_operand_63 : decode cX12_operand 63 = .ok (.iconst 1, 1) := by decide +kernel
theorem dX12_operand_64 : decode cX12_operand 64 = .ok (.isub, 1) := by decide +kernel
theorem dX12_operand_65 : decode cX12_operand 65 = .ok (.putfield 196, 3) := by decide +kernel
theorem dX12_operand_68 : decode cX12_operand 68 = .ok (.aload_n 0, 1) := by decide +kernel
theorem dX12_operand_69 : decode cX12_operand 69 = .ok (.iload_n 1, 1) := by decide +kernel
theorem dX12_operand_70 : decode cX12_operand 70 = .ok (.bipush 33, 2) := by decide +kernel
theorem dX12_operand_72 : decode cX12_operand 72 = .ok (.if_icmp .ne 7, 3) := by decide +kernel
theorem dX12_operand_75 : decode cX12_operand 75 = .ok (.iconst 3, 1) := by decide +kernel
theorem dX12_operand_76 : decode cX12_operand 76 = .ok (.goto 4, 3) := by decide +kernel
theorem dX12_operand_79 : decode cX12_operand 79 = .ok (.iconst 4, 1) := by decide +kernel
theorem dX12_operand_80 : decode cX12_operand 80 = .ok (.iconst 0, 1) := by decide +kernel
theorem dX12_operand_81 : decode cX12_operand 81 = .ok (.invokevirtual 206, 3) := by decide +kernel
theorem dX12_operand_84 : decode cX12_operand 84 = .ok (.goto 70, 3) := by decide +kernel
theorem dX12_operand_87 : decode cX12_operand 87 = .ok (.iload_n 1, 1) := by decide +kernel
theorem dX12_operand_88 : decode cX12_operand 88 = .ok (.bipush 40, 2) := by decide +kernel
theorem dX12_operand_90 : decode cX12_operand 90 = .ok (.if_icmp .ne 60, 3) := by decide +kernel
theorem dX12_operand_93 : decode cX12_operand 93 = .ok (.aload_n 0, 1) := by decide +kernel
theorem dX12_operand_94 : decode cX12_operand 94 = .ok (.invokevirtual 214, 3) := by decide +kernel
theorem dX12_operand_97 : decode cX12_operand 97 = .ok (.ifCond .ne 4, 3) := by decide +kernel
theorem dX12_operand_100 : decode cX12_operand 100 = .ok (.return_, 1) := by decide +kernel
theorem dX12_operand_101 : decode cX12_operand 101 = .ok (.aload_n 0, 1) := by decide +kernel
theorem dX12_operand_102 : decode cX12_operand 102 = .ok (.invokevirtual 221, 3) := by decide +kernel
theorem dX12_operand_105 : decode cX12_operand 105 = .ok (.aload_n 0, 1) := by decide +kernel
theorem dX12_operand_106 : decode cX12_operand 106 = .ok (.getfield 190, 3) := by decide +kernel
theorem dX12_operand_109 : decode cX12_operand 109 = .ok (.ifCond .lt 4, 3) := by decide +kernel
theorem dX12_operand_112 : decode cX12_operand 112 = .ok (.return_, 1) := by decide +kernel
theorem dX12_operand_113 : decode cX12_operand 113 = .ok (.aload_n 0, 1) := by decide +kernel
theorem dX12_operand_114 : decode cX12_operand 114 = .ok (.invokevirtual 202, 3) := by decide +kernel
theorem dX12_operand_117 : decode cX12_operand 117 = .ok (.bipush 41, 2) := by decide +kernel
theorem dX12_operand_119 : decode cX12_operand 119 = .ok (.if_icmp .eq 8, 3) := by decide +kernel
theorem dX12_operand_122 : decode cX12_operand 122 = .ok (.aload_n 0, 1) := by decide +kernel
theorem dX12_operand_123 : decode cX12_operand 123 = .ok (.invokevirtual 199, 3) := by decide +kernel
theorem dX12_operand_126 : decode cX12_operand 126 = .ok (.return_, 1) := by decide +kernel
theorem dX12_operand_127 : decode cX12_operand 127 = .ok (.aload_n 0, 1) := by decide +kernel
theorem dX12_operand_128 : decode cX12_operand 128 = .ok (.dup, 1) := by decide +kernel
theorem dX12_operand_129 : decode cX12_operand 129 = .ok (.getfield 187, 3) := by decide +kernel
theorem dX12_operand_132 : decode cX12_operand 132 = .ok (.iconst 1, 1) := by decide +kernel
theorem dX12_operand_133 : decode cX12_operand 133 = .ok (.iadd, 1) := by decide +kernel
theorem dX12_operand_134 : decode cX12_operand 134 = .ok (.putfield 187, 3) := by decide +kernel
theorem dX12_operand_137 : decode cX12_operand 137 = .ok (.aload_n 0, 1) := by decide +kernel
theorem dX12_operand_138 : decode cX12_operand 138 = .ok (.dup, 1) := by decide +kernel
theorem dX12_operand_139 : decode cX12_operand 139 = .ok (.getfield 196, 3) := by decide +kernel
theorem dX12_operand_142 : decode cX12_operand 142 = .ok (.iconst 1, 1) := by decide +kernel
theorem dX12_operand_143 : decode cX12_operand 143 = .ok (.isub, 1) := by decide +kernel
theorem dX12_operand_144 : decode cX12_operand 144 = .ok (.putfield 196, 3) := by decide +kernel
theorem dX12_operand_147 : decode cX12_operand 147 = .ok (.goto 7, 3) := by decide +kernel
theorem dX12_operand_150 : decode cX12_operand 150 = .ok (.aload_n 0, 1) := by decide +kernel
theorem dX12_operand_151 : decode cX12_operand 151 = .ok (.invokevirtual 224, 3) := by decide +kernel
theorem dX12_operand_154 : decode cX12_operand 154 = .ok (.return_, 1) := by decide +kernel
theorem dX12_product_0 : decode cX12_product 0 = .ok (.aload_n 0, 1) := by decide +kernel
theorem dX12_product_1 : decode cX12_product 1 = .ok (.invokevirtual 218, 3) := by decide +kernel
theorem dX12_product_4 : decode cX12_product 4 = .ok (.aload_n 0, 1) := by decide +kernel
theorem dX12_product_5 : decode cX12_product 5 = .ok (.getfield 190, 3) := by decide +kernel
theorem dX12_product_8 : decode cX12_product 8 = .ok (.ifCond .ge 58, 3) := by decide +kernel
theorem dX12_product_11 : decode cX12_product 11 = .ok (.aload_n 0, 1) := by decide +kernel
theorem dX12_product_12 : decode cX12_product 12 = .ok (.invokevirtual 202, 3) := by decide +kernel
theorem dX12_product_15 : decode cX12_product 15 = .ok (.bipush 42, 2) := by decide +kernel
theorem dX12_product_17 : decode cX12_product 17 = .ok (.if_icmp .eq 21, 3) := by decide +kernel
theorem dX12_product_20 : decode cX12_product 20 = .ok (.aload_n 0, 1) := by decide +kernel
theorem dX12_product_21 : decode cX12_product 21 = .ok (.invokevirtual 202, 3) := by decide +kernel
theorem dX12_product_24 : decode cX12_product 24 = .ok (.bipush 47, 2) := by decide +kernel
theorem dX12_product_26 : decode cX12_product 26 = .ok (.if_icmp .eq 12, 3) := by decide +kernel
theorem dX12_product_29 : decode cX12_product 29 = .ok (.aload_n 0, 1) := by decide +kernel
theorem dX12_product_30 : decode cX12_product 30 = .ok (.invokevirtual 202, 3) := by decide +kernel
theorem dX12_product_33 : decode cX12_product 33 = .ok (.bipush 37, 2) := by decide +kernel
theorem dX12_product_35 : decode cX12_product 35 = .ok (.if_icmp .ne 31, 3) := by decide +kernel
theorem dX12_product_38 : decode cX12_product 38 = .ok (.aload_n 0, 1) := by decide +kernel
theorem dX12_product_39 : decode cX12_product 39 = .ok (.invokevirtual 202, 3) := by decide +kernel
theorem dX12_product_42 : decode cX12_product 42 = .ok (.istore_n 1, 1) := by decide +kernel
theorem dX12_product_43 : decode cX12_product 43 = .ok (.aload_n 0, 1) := by decide +kernel
theorem dX12_product_44 : decode cX12_product 44 = .ok (.dup, 1) := by decide +kernel
theorem dX12_product_45 : decode cX12_product 45 = .ok (.getfield 187, 3) := by decide +kernel
theorem dX12_product_48 : decode cX12_product 48 = .ok (.iconst 1, 1) := by decide +kernel
theorem dX12_product_49 : decode cX12_product 49 = .ok (.iadd, 1) := by decide +kernel
theorem dX12_product_50 : decode cX12_product 50 = .ok (.putfield 187, 3) := by decide +kernel
theorem dX12_product_53 : decode cX12_product 53 = .ok (.aload_n 0, 1) := by decide +kernel
theorem dX12_product_54 : decode cX12_product 54 = .ok (.invokevirtual 218, 3) := by decide +kernel
theorem dX12_product_57 : decode cX12_product 57 = .ok (.aload_n 0, 1) := by decide +kernel
theorem dX12_product_58 : decode cX12_product 58 = .ok (.iload_n 1, 1) := by decide +kernel
theorem dX12_product_59 : decode cX12_product 59 = .ok (.iconst 0, 1) := by decide +kernel
theorem dX12_product_60 : decode cX12_product 60 = .ok (.invokevirtual 206, 3) := by decide +kernel
theorem dX12_product_63 : decode cX12_product 63 = .ok (.goto (-59), 3) := by decide +kernel
theorem dX12_product_66 : decode cX12_product 66 = .ok (.return_, 1) := by decide +kernel
theorem dX12_sum_0 : decode cX12_sum 0 = .ok (.aload_n 0, 1) := by decide +kernel
theorem dX12_sum_1 : decode cX12_sum 1 = .ok (.invokevirtual 227, 3) := by decide +kernel
theorem dX12_sum_4 : decode cX12_sum 4 = .ok (.aload_n 0, 1) := by decide +kernel
theorem dX12_sum_5 : decode cX12_sum 5 = .ok (.getfield 190, 3) := by decide +kernel
theorem dX12_sum_8 : decode cX12_sum 8 = .ok (.ifCond .ge 49, 3) := by decide +kernel
theorem dX12_sum_11 : decode cX12_sum 11 = .ok (.aload_n 0, 1) := by decide +kernel
theorem dX12_sum_12 : decode cX12_sum 12 = .ok (.invokevirtual 202, 3) := by decide +kernel
theorem dX12_sum_15 : decode cX12_sum 15 = .ok (.bipush 43, 2) := by decide +kernel
theorem dX12_sum_17 : decode cX12_sum 17 = .ok (.if_icmp .eq 12, 3) := by decide +kernel
theorem dX12_sum_20 : decode cX12_sum 20 = .ok (.aload_n 0, 1) := by decide +kernel
theorem dX12_sum_21 : decode cX12_sum 21 = .ok (.invokevirtual 202, 3) := by decide +kernel
theorem dX12_sum_24 : decode cX12_sum 24 = .ok (.bipush 45, 2) := by decide +kernel
theorem dX12_sum_26 : decode cX12_sum 26 = .ok (.if_icmp .ne 31, 3) := by decide +kernel
theorem dX12_sum_29 : decode cX12_sum 29 = .ok (.aload_n 0, 1) := by decide +kernel
theorem dX12_sum_30 : decode cX12_sum 30 = .ok (.invokevirtual 202, 3) := by decide +kernel
theorem dX12_sum_33 : decode cX12_sum 33 = .ok (.istore_n 1, 1) := by decide +kernel
theorem dX12_sum_34 : decode cX12_sum 34 = .ok (.aload_n 0, 1) := by decide +kernel
theorem dX12_sum_35 : decode cX12_sum 35 = .ok (.dup, 1) := by decide +kernel
theorem dX12_sum_36 : decode cX12_sum 36 = .ok (.getfield 187, 3) := by decide +kernel
theorem dX12_sum_39 : decode cX12_sum 39 = .ok (.iconst 1, 1) := by decide +kernel
theorem dX12_sum_40 : decode cX12_sum 40 = .ok (.iadd, 1) := by decide +kernel
theorem dX12_sum_41 : decode cX12_sum 41 = .ok (.putfield 187, 3) := by decide +kernel
theorem dX12_sum_44 : decode cX12_sum 44 = .ok (.aload_n 0, 1) := by decide +kernel
theorem dX12_sum_45 : decode cX12_sum 45 = .ok (.invokevirtual 227, 3) := by decide +kernel
theorem dX12_sum_48 : decode cX12_sum 48 = .ok (.aload_n 0, 1) := by decide +kernel
theorem dX12_sum_49 : decode cX12_sum 49 = .ok (.iload_n 1, 1) := by decide +kernel
theorem dX12_sum_50 : decode cX12_sum 50 = .ok (.iconst 0, 1) := by decide +kernel
theorem dX12_sum_51 : decode cX12_sum 51 = .ok (.invokevirtual 206, 3) := by decide +kernel
theorem dX12_sum_54 : decode cX12_sum 54 = .ok (.goto (-50), 3) := by decide +kernel
theorem dX12_sum_57 : decode cX12_sum 57 = .ok (.return_, 1) := by decide +kernel
theorem dX12_compared_0 : decode cX12_compared 0 = .ok (.aload_n 0, 1) := by decide +kernel
theorem dX12_compared_1 : decode cX12_compared 1 = .ok (.invokevirtual 230, 3) := by decide +kernel
theorem dX12_compared_4 : decode cX12_compared 4 = .ok (.aload_n 0, 1) := by decide +kernel
theorem dX12_compared_5 : decode cX12_compared 5 = .ok (.invokevirtual 202, 3) := by decide +kernel
theorem dX12_compared_8 : decode cX12_compared 8 = .ok (.istore_n 1, 1) := by decide +kernel
theorem dX12_compared_9 : decode cX12_compared 9 = .ok (.aload_n 0, 1) := by decide +kernel
theorem dX12_compared_10 : decode cX12_compared 10 = .ok (.getfield 190, 3) := by decide +kernel
theorem dX12_compared_13 : decode cX12_compared 13 = .ok (.ifCond .ge 21, 3) := by decide +kernel
theorem dX12_compared_16 : decode cX12_compared 16 = .ok (.iload_n 1, 1) := by decide +kernel
theorem dX12_compared_17 : decode cX12_compared 17 = .ok (.bipush 60, 2) := by decide +kernel
theorem dX12_compared_19 : decode cX12_compared 19 = .ok (.if_icmp .eq 16, 3) := by decide +kernel
theorem dX12_compared_22 : decode cX12_compared 22 = .ok (.iload_n 1, 1) := by decide +kernel
theorem dX12_compared_23 : decode cX12_compared 23 = .ok (.bipush 61, 2) := by decide +kernel
theorem dX12_compared_25 : decode cX12_compared 25 = .ok (.if_icmp .eq 10, 3) := by decide +kernel
theorem dX12_compared_28 : decode cX12_compared 28 = .ok (.iload_n 1, 1) := by decide +kernel
theorem dX12_compared_29 : decode cX12_compared 29 = .ok (.bipush 62, 2) := by decide +kernel
theorem dX12_compared_31 : decode cX12_compared 31 = .ok (.if_icmp .eq 4, 3) := by decide +kernel
theorem dX12_compared_34 : decode cX12_compared 34 = .ok (.return_, 1) := by decide +kernel
theorem dX12_compared_35 : decode cX12_compared 35 = .ok (.aload_n 0, 1) := by decide +kernel
theorem dX12_compared_36 : decode cX12_compared 36 = .ok (.dup, 1) := by decide +kernel
theorem dX12_compared_37 : decode cX12_compared 37 = .ok (.getfield 187, 3) := by decide +kernel
theorem dX12_compared_40 : decode cX12_compared 40 = .ok (.iconst 1, 1) := by decide +kernel
theorem dX12_compared_41 : decode cX12_compared 41 = .ok (.iadd, 1) := by decide +kernel
theorem dX12_compared_42 : decode cX12_compared 42 = .ok (.putfield 187, 3) := by decide +kernel
theorem dX12_compared_45 : decode cX12_compared 45 = .ok (.aload_n 0, 1) := by decide +kernel
theorem dX12_compared_46 : decode cX12_compared 46 = .ok (.invokevirtual 230, 3) := by decide +kernel
theorem dX12_compared_49 : decode cX12_compared 49 = .ok (.aload_n 0, 1) := by decide +kernel
theorem dX12_compared_50 : decode cX12_compared 50 = .ok (.iload_n 1, 1) := by decide +kernel
theorem dX12_compared_51 : decode cX12_compared 51 = .ok (.iconst 0, 1) := by decide +kernel
theorem dX12_compared_52 : decode cX12_compared 52 = .ok (.invokevirtual 206, 3) := by decide +kernel
theorem dX12_compared_55 : decode cX12_compared 55 = .ok (.return_, 1) := by decide +kernel
theorem dX12_both_0 : decode cX12_both 0 = .ok (.aload_n 0, 1) := by decide +kernel
theorem dX12_both_1 : decode cX12_both 1 = .ok (.invokevirtual 233, 3) := by decide +kernel
theorem dX12_both_4 : decode cX12_both 4 = .ok (.aload_n 0, 1) := by decide +kernel
theorem dX12_both_5 : decode cX12_both 5 = .ok (.getfield 190, 3) := by decide +kernel
theorem dX12_both_8 : decode cX12_both 8 = .ok (.ifCond .ge 36, 3) := by decide +kernel
theorem dX12_both_11 : decode cX12_both 11 = .ok (.aload_n 0, 1) := by decide +kernel
theorem dX12_both_12 : decode cX12_both 12 = .ok (.invokevirtual 202, 3) := by decide +kernel
theorem dX12_both_15 : decode cX12_both 15 = .ok (.bipush 38, 2) := by decide +kernel
theorem dX12_both_17 : decode cX12_both 17 = .ok (.if_icmp .ne 27, 3) := by decide +kernel
theorem dX12_both_20 : decode cX12_both 20 = .ok (.aload_n 0, 1) := by decide +kernel
theorem dX12_both_21 : decode cX12_both 21 = .ok (.dup, 1) := by decide +kernel
theorem dX12_both_22 : decode cX12_both 22 = .ok (.getfield 187, 3) := by decide +kernel
theorem dX12_both_25 : decode cX12_both 25 = .ok (.iconst 1, 1) := by decide +kernel
theorem dX12_both_26 : decode cX12_both 26 = .ok (.iadd, 1) := by decide +kernel
theorem dX12_both_27 : decode cX12_both 27 = .ok (.putfield 187, 3) := by decide +kernel
theorem dX12_both_30 : decode cX12_both 30 = .ok (.aload_n 0, 1) := by decide +kernel
theorem dX12_both_31 : decode cX12_both 31 = .ok (.invokevirtual 233, 3) := by decide +kernel
theorem dX12_both_34 : decode cX12_both 34 = .ok (.aload_n 0, 1) := by decide +kernel
theorem dX12_both_35 : decode cX12_both 35 = .ok (.bipush 38, 2) := by decide +kernel
theorem dX12_both_37 : decode cX12_both 37 = .ok (.iconst 0, 1) := by decide +kernel
theorem dX12_both_38 : decode cX12_both 38 = .ok (.invokevirtual 206, 3) := by decide +kernel
theorem dX12_both_41 : decode cX12_both 41 = .ok (.goto (-37), 3) := by decide +kernel
theorem dX12_both_44 : decode cX12_both 44 = .ok (.return_, 1) := by decide +kernel
theorem dX12_either_0 : decode cX12_either 0 = .ok (.aload_n 0, 1) := by decide +kernel
theorem dX12_either_1 : decode cX12_either 1 = .ok (.invokevirtual 236, 3) := by decide +kernel
theorem dX12_either_4 : decode cX12_either 4 = .ok (.aload_n 0, 1) := by decide +kernel
theorem dX12_either_5 : decode cX12_either 5 = .ok (.getfield 190, 3) := by decide +kernel
theorem dX12_either_8 : decode cX12_either 8 = .ok (.ifCond .ge 36, 3) := by decide +kernel
theorem dX12_either_11 : decode cX12_either 11 = .ok (.aload_n 0, 1) := by decide +kernel
theorem dX12_either_12 : decode cX12_either 12 = .ok (.invokevirtual 202, 3) := by decide +kernel
theorem dX12_either_15 : decode cX12_either 15 = .ok (.bipush 124, 2) := by decide +kernel
theorem dX12_either_17 : decode cX12_either 17 = .ok (.if_icmp .ne 27, 3) := by decide +kernel
theorem dX12_either_20 : decode cX12_either 20 = .ok (.aload_n 0, 1) := by decide +kernel
theorem dX12_either_21 : decode cX12_either 21 = .ok (.dup, 1) := by decide +kernel
theorem dX12_either_22 : decode cX12_either 22 = .ok (.getfield 187, 3) := by decide +kernel
theorem dX12_either_25 : decode cX12_either 25 = .ok (.iconst 1, 1) := by decide +kernel
theorem dX12_either_26 : decode cX12_either 26 = .ok (.iadd, 1) := by decide +kernel
theorem dX12_either_27 : decode cX12_either 27 = .ok (.putfield 187, 3) := by decide +kernel
theorem dX12_either_30 : decode cX12_either 30 = .ok (.aload_n 0, 1) := by decide +kernel
theorem dX12_either_31 : decode cX12_either 31 = .ok (.invokevirtual 236, 3) := by decide +kernel
theorem dX12_either_34 : decode cX12_either 34 = .ok (.aload_n 0, 1) := by decide +kernel
theorem dX12_either_35 : decode cX12_either 35 = .ok (.bipush 124, 2) := by decide +kernel
theorem dX12_either_37 : decode cX12_either 37 = .ok (.iconst 0, 1) := by decide +kernel
theorem dX12_either_38 : decode cX12_either 38 = .ok (.invokevirtual 206, 3) := by decide +kernel
theorem dX12_either_41 : decode cX12_either 41 = .ok (.goto (-37), 3) := by decide +kernel
theorem dX12_either_44 : decode cX12_either 44 = .ok (.return_, 1) := by decide +kernel
theorem dX12_line_0 : decode cX12_line 0 = .ok (.bipush 61, 2) := by decide +kernel
theorem dX12_line_2 : decode cX12_line 2 = .ok (.aload_n 0, 1) := by decide +kernel
theorem dX12_line_3 : decode cX12_line 3 = .ok (.getfield 62, 3) := by decide +kernel
theorem dX12_line_6 : decode cX12_line 6 = .ok (.iconst 1, 1) := by decide +kernel
theorem dX12_line_7 : decode cX12_line 7 = .ok (.iaload, 1) := by decide +kernel
theorem dX12_line_8 : decode cX12_line 8 = .ok (.iadd, 1) := by decide +kernel
theorem dX12_line_9 : decode cX12_line 9 = .ok (.istore_n 1, 1) := by decide +kernel
theorem dX12_line_10 : decode cX12_line 10 = .ok (.aload_n 0, 1) := by decide +kernel
theorem dX12_line_11 : decode cX12_line 11 = .ok (.getfield 65, 3) := by decide +kernel
theorem dX12_line_14 : decode cX12_line 14 = .ok (.iload_n 1, 1) := by decide +kernel
theorem dX12_line_15 : decode cX12_line 15 = .ok (.aload_n 0, 1) := by decide +kernel
theorem dX12_line_16 : decode cX12_line 16 = .ok (.getfield 193, 3) := by decide +kernel
theorem dX12_line_19 : decode cX12_line 19 = .ok (.i2s, 1) := by decide +kernel
theorem dX12_line_20 : decode cX12_line 20 = .ok (.sastore, 1) := by decide +kernel
theorem dX12_line_21 : decode cX12_line 21 = .ok (.aload_n 0, 1) := by decide +kernel
theorem dX12_line_22 : decode cX12_line 22 = .ok (.invokevirtual 221, 3) := by decide +kernel
theorem dX12_line_25 : decode cX12_line 25 = .ok (.aload_n 0, 1) := by decide +kernel
theorem dX12_line_26 : decode cX12_line 26 = .ok (.getfield 190, 3) := by decide +kernel
theorem dX12_line_29 : decode cX12_line 29 = .ok (.ifCond .ge 37, 3) := by decide +kernel
theorem dX12_line_32 : decode cX12_line 32 = .ok (.aload_n 0, 1) := by decide +kernel
theorem dX12_line_33 : decode cX12_line 33 = .ok (.invokevirtual 202, 3) := by decide +kernel
theorem dX12_line_36 : decode cX12_line 36 = .ok (.bipush 63, 2) := by decide +kernel
theorem dX12_line_38 : decode cX12_line 38 = .ok (.if_icmp .ne 28, 3) := by decide +kernel
theorem dX12_line_41 : decode cX12_line 41 = .ok (.aload_n 0, 1) := by decide +kernel
theorem dX12_line_42 : decode cX12_line 42 = .ok (.dup, 1) := by decide +kernel
theorem dX12_line_43 : decode cX12_line 43 = .ok (.getfield 187, 3) := by decide +kernel
theorem dX12_line_46 : decode cX12_line 46 = .ok (.iconst 1, 1) := by decide +kernel
theorem dX12_line_47 : decode cX12_line 47 = .ok (.iadd, 1) := by decide +kernel
theorem dX12_line_48 : decode cX12_line 48 = .ok (.putfield 187, 3) := by decide +kernel
theorem dX12_line_51 : decode cX12_line 51 = .ok (.aload_n 0, 1) := by decide +kernel
theorem dX12_line_52 : decode cX12_line 52 = .ok (.getfield 65, 3) := by decide +kernel
theorem dX12_line_55 : decode cX12_line 55 = .ok (.iload_n 1, 1) := by decide +kernel
theorem dX12_line_56 : decode cX12_line 56 = .ok (.aload_n 0, 1) := by decide +kernel
theorem dX12_line_57 : decode cX12_line 57 = .ok (.getfield 193, 3) := by decide +kernel
theorem dX12_line_60 : decode cX12_line 60 = .ok (.i2s, 1) := by decide +kernel
theorem dX12_line_61 : decode cX12_line 61 = .ok (.sastore, 1) := by decide +kernel
theorem dX12_line_62 : decode cX12_line 62 = .ok (.aload_n 0, 1) := by decide +kernel
theorem dX12_line_63 : decode cX12_line 63 = .ok (.invokevirtual 221, 3) := by decide +kernel
theorem dX12_line_66 : decode cX12_line 66 = .ok (.aload_n 0, 1) := by decide +kernel
theorem dX12_line_67 : decode cX12_line 67 = .ok (.getfield 69, 3) := by decide +kernel
theorem dX12_line_70 : decode cX12_line 70 = .ok (.iload_n 1, 1) := by decide +kernel
theorem dX12_line_71 : decode cX12_line 71 = .ok (.aload_n 0, 1) := by decide +kernel
theorem dX12_line_72 : decode cX12_line 72 = .ok (.getfield 193, 3) := by decide +kernel
theorem dX12_line_75 : decode cX12_line 75 = .ok (.i2s, 1) := by decide +kernel
theorem dX12_line_76 : decode cX12_line 76 = .ok (.sastore, 1) := by decide +kernel
theorem dX12_line_77 : decode cX12_line 77 = .ok (.aload_n 0, 1) := by decide +kernel
theorem dX12_line_78 : decode cX12_line 78 = .ok (.getfield 62, 3) := by decide +kernel
theorem dX12_line_81 : decode cX12_line 81 = .ok (.iconst 1, 1) := by decide +kernel
theorem dX12_line_82 : decode cX12_line 82 = .ok (.dup2, 1) := by decide +kernel
theorem dX12_line_83 : decode cX12_line 83 = .ok (.iaload, 1) := by decide +kernel
theorem dX12_line_84 : decode cX12_line 84 = .ok (.iconst 1, 1) := by decide +kernel
theorem dX12_line_85 : decode cX12_line 85 = .ok (.iadd, 1) := by decide +kernel
theorem dX12_line_86 : decode cX12_line 86 = .ok (.iastore, 1) := by decide +kernel
theorem dX12_line_87 : decode cX12_line 87 = .ok (.return_, 1) := by decide +kernel
theorem dX12_readText_0 : decode cX12_readText 0 = .ok (.aload_n 0, 1) := by decide +kernel
theorem dX12_readText_1 : decode cX12_readText 1 = .ok (.iconst 0, 1) := by decide +kernel
theorem dX12_readText_2 : decode cX12_readText 2 = .ok (.putfield 187, 3) := by decide +kernel
theorem dX12_readText_5 : decode cX12_readText 5 = .ok (.aload_n 0, 1) := by decide +kernel
theorem dX12_readText_6 : decode cX12_readText 6 = .ok (.iconst (-1), 1) := by decide +kernel
theorem dX12_readText_7 : decode cX12_readText 7 = .ok (.putfield 190, 3) := by decide +kernel
theorem dX12_readText_10 : decode cX12_readText 10 = .ok (.aload_n 0, 1) := by decide +kernel
theorem dX12_readText_11 : decode cX12_readText 11 = .ok (.iconst 0, 1) := by decide +kernel
theorem dX12_readText_12 : decode cX12_readText 12 = .ok (.putfield 196, 3) := by decide +kernel
theorem dX12_readText_15 : decode cX12_readText 15 = .ok (.aload_n 0, 1) := by decide +kernel
theorem dX12_readText_16 : decode cX12_readText 16 = .ok (.iconst 0, 1) := by decide +kernel
theorem dX12_readText_17 : decode cX12_readText 17 = .ok (.putfield 193, 3) := by decide +kernel
theorem dX12_readText_20 : decode cX12_readText 20 = .ok (.aload_n 0, 1) := by decide +kernel
theorem dX12_readText_21 : decode cX12_readText 21 = .ok (.getfield 62, 3) := by decide +kernel
theorem dX12_readText_24 : decode cX12_readText 24 = .ok (.iconst 1, 1) := by decide +kernel
theorem dX12_readText_25 : decode cX12_readText 25 = .ok (.iconst 0, 1) := by decide +kernel
theorem dX12_readText_26 : decode cX12_readText 26 = .ok (.iastore, 1) := by decide +kernel
theorem dX12_readText_27 : decode cX12_readText 27 = .ok (.aload_n 0, 1) := by decide +kernel
theorem dX12_readText_28 : decode cX12_readText 28 = .ok (.invokevirtual 239, 3) := by decide +kernel
theorem dX12_readText_31 : decode cX12_readText 31 = .ok (.aload_n 0, 1) := by decide +kernel
theorem dX12_readText_32 : decode cX12_readText 32 = .ok (.getfield 190, 3) := by decide +kernel
theorem dX12_readText_35 : decode cX12_readText 35 = .ok (.ifCond .ge 29, 3) := by decide +kernel
theorem dX12_readText_38 : decode cX12_readText 38 = .ok (.aload_n 0, 1) := by decide +kernel
theorem dX12_readText_39 : decode cX12_readText 39 = .ok (.invokevirtual 202, 3) := by decide +kernel
theorem dX12_readText_42 : decode cX12_readText 42 = .ok (.bipush 59, 2) := by decide +kernel
theorem dX12_readText_44 : decode cX12_readText 44 = .ok (.if_icmp .ne 20, 3) := by decide +kernel
theorem dX12_readText_47 : decode cX12_readText 47 = .ok (.aload_n 0, 1) := by decide +kernel
theorem dX12_readText_48 : decode cX12_readText 48 = .ok (.dup, 1) := by decide +kernel
theorem dX12_readText_49 : decode cX12_readText 49 = .ok (.getfield 187, 3) := by decide +kernel
theorem dX12_readText_52 : decode cX12_readText 52 = .ok (.iconst 1, 1) := by decide +kernel
theorem dX12_readText_53 : decode cX12_readText 53 = .ok (.iadd, 1) := by decide +kernel
theorem dX12_readText_54 : decode cX12_readText 54 = .ok (.putfield 187, 3) := by decide +kernel
theorem dX12_readText_57 : decode cX12_readText 57 = .ok (.aload_n 0, 1) := by decide +kernel
theorem dX12_readText_58 : decode cX12_readText 58 = .ok (.invokevirtual 239, 3) := by decide +kernel
theorem dX12_readText_61 : decode cX12_readText 61 = .ok (.goto (-30), 3) := by decide +kernel
theorem dX12_readText_64 : decode cX12_readText 64 = .ok (.aload_n 0, 1) := by decide +kernel
theorem dX12_readText_65 : decode cX12_readText 65 = .ok (.getfield 190, 3) := by decide +kernel
theorem dX12_readText_68 : decode cX12_readText 68 = .ok (.ifCond .ge 18, 3) := by decide +kernel
theorem dX12_readText_71 : decode cX12_readText 71 = .ok (.aload_n 0, 1) := by decide +kernel
theorem dX12_readText_72 : decode cX12_readText 72 = .ok (.getfield 187, 3) := by decide +kernel
theorem dX12_readText_75 : decode cX12_readText 75 = .ok (.aload_n 0, 1) := by decide +kernel
theorem dX12_readText_76 : decode cX12_readText 76 = .ok (.getfield 184, 3) := by decide +kernel
theorem dX12_readText_79 : decode cX12_readText 79 = .ok (.if_icmp .ge 7, 3) := by decide +kernel
theorem dX12_readText_82 : decode cX12_readText 82 = .ok (.aload_n 0, 1) := by decide +kernel
theorem dX12_readText_83 : decode cX12_readText 83 = .ok (.invokevirtual 199, 3) := by decide +kernel
theorem dX12_readText_86 : decode cX12_readText 86 = .ok (.aload_n 0, 1) := by decide +kernel
theorem dX12_readText_87 : decode cX12_readText 87 = .ok (.iconst 0, 1) := by decide +kernel
theorem dX12_readText_88 : decode cX12_readText 88 = .ok (.putfield 184, 3) := by decide +kernel
theorem dX12_readText_91 : decode cX12_readText 91 = .ok (.aload_n 0, 1) := by decide +kernel
theorem dX12_readText_92 : decode cX12_readText 92 = .ok (.getfield 190, 3) := by decide +kernel
theorem dX12_readText_95 : decode cX12_readText 95 = .ok (.ifCond .lt 8, 3) := by decide +kernel
theorem dX12_readText_98 : decode cX12_readText 98 = .ok (.aload_n 0, 1) := by decide +kernel
theorem dX12_readText_99 : decode cX12_readText 99 = .ok (.getfield 190, 3) := by decide +kernel
theorem dX12_readText_102 : decode cX12_readText 102 = .ok (.ireturn, 1) := by decide +kernel
theorem dX12_readText_103 : decode cX12_readText 103 = .ok (.iconst 0, 1) := by decide +kernel
theorem dX12_readText_104 : decode cX12_readText 104 = .ok (.istore_n 2, 1) := by decide +kernel
theorem dX12_readText_105 : decode cX12_readText 105 = .ok (.iload_n 2, 1) := by decide +kernel
theorem dX12_readText_106 : decode cX12_readText 106 = .ok (.aload_n 0, 1) := by decide +kernel
theorem dX12_readText_107 : decode cX12_readText 107 = .ok (.getfield 193, 3) := by decide +kernel
theorem dX12_readText_110 : decode cX12_readText 110 = .ok (.if_icmp .ge 53, 3) := by decide +kernel
theorem dX12_readText_113 : decode cX12_readText 113 = .ok (.aload_n 0, 1) := by decide +kernel
theorem dX12_readText_114 : decode cX12_readText 114 = .ok (.getfield 56, 3) := by decide +kernel
theorem dX12_readText_117 : decode cX12_readText 117 = .ok (.sipush 130, 3) := by decide +kernel
theorem dX12_readText_120 : decode cX12_readText 120 = .ok (.iload_n 1, 1) := by decide +kernel
theorem dX12_readText_121 : decode cX12_readText 121 = .ok (.imul, 1) := by decide +kernel
theorem dX12_readText_122 : decode cX12_readText 122 = .ok (.iload_n 2, 1) := by decide +kernel
theorem dX12_readText_123 : decode cX12_readText 123 = .ok (.iadd, 1) := by decide +kernel
theorem dX12_readText_124 : decode cX12_readText 124 = .ok (.aload_n 0, 1) := by decide +kernel
theorem dX12_readText_125 : decode cX12_readText 125 = .ok (.getfield 56, 3) := by decide +kernel
theorem dX12_readText_128 : decode cX12_readText 128 = .ok (.sipush 130, 3) := by decide +kernel
theorem dX12_readText_131 : decode cX12_readText 131 = .ok (.iload_n 2, 1) := by decide +kernel
theorem dX12_readText_132 : decode cX12_readText 132 = .ok (.iadd, 1) := by decide +kernel
theorem dX12_readText_133 : decode cX12_readText 133 = .ok (.baload, 1) := by decide +kernel
theorem dX12_readText_134 : decode cX12_readText 134 = .ok (.bastore, 1) := by decide +kernel
theorem dX12_readText_135 : decode cX12_readText 135 = .ok (.aload_n 0, 1) := by decide +kernel
theorem dX12_readText_136 : decode cX12_readText 136 = .ok (.getfield 59, 3) := by decide +kernel
theorem dX12_readText_139 : decode cX12_readText 139 = .ok (.sipush 130, 3) := by decide +kernel
theorem dX12_readText_142 : decode cX12_readText 142 = .ok (.iload_n 1, 1) := by decide +kernel
theorem dX12_readText_143 : decode cX12_readText 143 = .ok (.imul, 1) := by decide +kernel
theorem dX12_readText_144 : decode cX12_readText 144 = .ok (.iload_n 2, 1) := by decide +kernel
theorem dX12_readText_145 : decode cX12_readText 145 = .ok (.iadd, 1) := by decide +kernel
theorem dX12_readText_146 : decode cX12_readText 146 = .ok (.aload_n 0, 1) := by decide +kernel
theorem dX12_readText_147 : decode cX12_readText 147 = .ok (.getfield 59, 3) := by decide +kernel
theorem dX12_readText_150 : decode cX12_readText 150 = .ok (.sipush 130, 3) := by decide +kernel
theorem dX12_readText_153 : decode cX12_readText 153 = .ok (.iload_n 2, 1) := by decide +kernel
theorem dX12_readText_154 : decode cX12_readText 154 = .ok (.iadd, 1) := by decide +kernel
theorem dX12_readText_155 : decode cX12_readText 155 = .ok (.iaload, 1) := by decide +kernel
theorem dX12_readText_156 : decode cX12_readText 156 = .ok (.iastore, 1) := by decide +kernel
theorem dX12_readText_157 : decode cX12_readText 157 = .ok (.iinc 2 1, 3) := by decide +kernel
theorem dX12_readText_160 : decode cX12_readText 160 = .ok (.goto (-55), 3) := by decide +kernel
theorem dX12_readText_163 : decode cX12_readText 163 = .ok (.aload_n 0, 1) := by decide +kernel
theorem dX12_readText_164 : decode cX12_readText 164 = .ok (.getfield 62, 3) := by decide +kernel
theorem dX12_readText_167 : decode cX12_readText 167 = .ok (.iload_n 1, 1) := by decide +kernel
theorem dX12_readText_168 : decode cX12_readText 168 = .ok (.aload_n 0, 1) := by decide +kernel
theorem dX12_readText_169 : decode cX12_readText 169 = .ok (.getfield 62, 3) := by decide +kernel
theorem dX12_readText_172 : decode cX12_readText 172 = .ok (.iconst 1, 1) := by decide +kernel
theorem dX12_readText_173 : decode cX12_readText 173 = .ok (.iaload, 1) := by decide +kernel
theorem dX12_readText_174 : decode cX12_readText 174 = .ok (.iastore, 1) := by decide +kernel
theorem dX12_readText_175 : decode cX12_readText 175 = .ok (.iconst 0, 1) := by decide +kernel
theorem dX12_readText_176 : decode cX12_readText 176 = .ok (.istore_n 2, 1) := by decide +kernel
theorem dX12_readText_177 : decode cX12_readText 177 = .ok (.iload_n 2, 1) := by decide +kernel
theorem dX12_readText_178 : decode cX12_readText 178 = .ok (.aload_n 0, 1) := by decide +kernel
theorem dX12_readText_179 : decode cX12_readText 179 = .ok (.getfield 62, 3) := by decide +kernel
theorem dX12_readText_182 : decode cX12_readText 182 = .ok (.iload_n 1, 1) := by decide +kernel
theorem dX12_readText_183 : decode cX12_readText 183 = .ok (.iaload, 1) := by decide +kernel
theorem dX12_readText_184 : decode cX12_readText 184 = .ok (.if_icmp .ge 49, 3) := by decide +kernel
theorem dX12_readText_187 : decode cX12_readText 187 = .ok (.aload_n 0, 1) := by decide +kernel
theorem dX12_readText_188 : decode cX12_readText 188 = .ok (.getfield 65, 3) := by decide +kernel
theorem dX12_readText_191 : decode cX12_readText 191 = .ok (.bipush 61, 2) := by decide +kernel
theorem dX12_readText_193 : decode cX12_readText 193 = .ok (.iload_n 1, 1) := by decide +kernel
theorem dX12_readText_194 : decode cX12_readText 194 = .ok (.imul, 1) := by decide +kernel
theorem dX12_readText_195 : decode cX12_readText 195 = .ok (.iload_n 2, 1) := by decide +kernel
theorem dX12_readText_196 : decode cX12_readText 196 = .ok (.iadd, 1) := by decide +kernel
theorem dX12_readText_197 : decode cX12_readText 197 = .ok (.aload_n 0, 1) := by decide +kernel
theorem dX12_readText_198 : decode cX12_readText 198 = .ok (.getfield 65, 3) := by decide +kernel
theorem dX12_readText_201 : decode cX12_readText 201 = .ok (.bipush 61, 2) := by decide +kernel
theorem dX12_readText_203 : decode cX12_readText 203 = .ok (.iload_n 2, 1) := by decide +kernel
theorem dX12_readText_204 : decode cX12_readText 204 = .ok (.iadd, 1) := by decide +kernel
theorem dX12_readText_205 : decode cX12_readText 205 = .ok (.saload, 1) := by decide +kernel
theorem dX12_readText_206 : decode cX12_readText 206 = .ok (.sastore, 1) := by decide +kernel
theorem dX12_readText_207 : decode cX12_readText 207 = .ok (.aload_n 0, 1) := by decide +kernel
theorem dX12_readText_208 : decode cX12_readText 208 = .ok (.getfield 69, 3) := by decide +kernel
theorem dX12_readText_211 : decode cX12_readText 211 = .ok (.bipush 61, 2) := by decide +kernel
theorem dX12_readText_213 : decode cX12_readText 213 = .ok (.iload_n 1, 1) := by decide +kernel
theorem dX12_readText_214 : decode cX12_readText 214 = .ok (.imul, 1) := by decide +kernel
theorem dX12_readText_215 : decode cX12_readText 215 = .ok (.iload_n 2, 1) := by decide +kernel
theorem dX12_readText_216 : decode cX12_readText 216 = .ok (.iadd, 1) := by decide +kernel
theorem dX12_readText_217 : decode cX12_readText 217 = .ok (.aload_n 0, 1) := by decide +kernel
theorem dX12_readText_218 : decode cX12_readText 218 = .ok (.getfield 69, 3) := by decide +kernel
theorem dX12_readText_221 : decode cX12_readText 221 = .ok (.bipush 61, 2) := by decide +kernel
theorem dX12_readText_223 : decode cX12_readText 223 = .ok (.iload_n 2, 1) := by decide +kernel
theorem dX12_readText_224 : decode cX12_readText 224 = .ok (.iadd, 1) := by decide +kernel
theorem dX12_readText_225 : decode cX12_readText 225 = .ok (.saload, 1) := by decide +kernel
theorem dX12_readText_226 : decode cX12_readText 226 = .ok (.sastore, 1) := by decide +kernel
theorem dX12_readText_227 : decode cX12_readText 227 = .ok (.iinc 2 1, 3) := by decide +kernel
theorem dX12_readText_230 : decode cX12_readText 230 = .ok (.goto (-53), 3) := by decide +kernel
theorem dX12_readText_233 : decode cX12_readText 233 = .ok (.iconst (-1), 1) := by decide +kernel
theorem dX12_readText_234 : decode cX12_readText 234 = .ok (.ireturn, 1) := by decide +kernel
theorem dX12_twoOf_0 : decode cX12_twoOf 0 = .ok (.iload_n 0, 1) := by decide +kernel
theorem dX12_twoOf_1 : decode cX12_twoOf 1 = .ok (.tableswitch 217 37 62 #[153, 203, 217, 217, 217, 127, 119, 217, 123, 217, 131, 217, 217, 217, 217, 217, 217, 217, 217, 217, 217, 217, 217, 170, 181, 192], 119) := by decide +kernel
theorem dX12_twoOf_120 : decode cX12_twoOf 120 = .ok (.iload_n 1, 1) := by decide +kernel
theorem dX12_twoOf_121 : decode cX12_twoOf 121 = .ok (.iload_n 2, 1) := by decide +kernel
theorem dX12_twoOf_122 : decode cX12_twoOf 122 = .ok (.iadd, 1) := by decide +kernel
theorem dX12_twoOf_123 : decode cX12_twoOf 123 = .ok (.ireturn, 1) := by decide +kernel
theorem dX12_twoOf_124 : decode cX12_twoOf 124 = .ok (.iload_n 1, 1) := by decide +kernel
theorem dX12_twoOf_125 : decode cX12_twoOf 125 = .ok (.iload_n 2, 1) := by decide +kernel
theorem dX12_twoOf_126 : decode cX12_twoOf 126 = .ok (.isub, 1) := by decide +kernel
theorem dX12_twoOf_127 : decode cX12_twoOf 127 = .ok (.ireturn, 1) := by decide +kernel
theorem dX12_twoOf_128 : decode cX12_twoOf 128 = .ok (.iload_n 1, 1) := by decide +kernel
theorem dX12_twoOf_129 : decode cX12_twoOf 129 = .ok (.iload_n 2, 1) := by decide +kernel
theorem dX12_twoOf_130 : decode cX12_twoOf 130 = .ok (.imul, 1) := by decide +kernel
theorem dX12_twoOf_131 : decode cX12_twoOf 131 = .ok (.ireturn, 1) := by decide +kernel
theorem dX12_twoOf_132 : decode cX12_twoOf 132 = .ok (.iload_n 2, 1) := by decide +kernel
theorem dX12_twoOf_133 : decode cX12_twoOf 133 = .ok (.ifCond .ne 7, 3) := by decide +kernel
theorem dX12_twoOf_136 : decode cX12_twoOf 136 = .ok (.iconst 0, 1) := by decide +kernel
theorem dX12_twoOf_137 : decode cX12_twoOf 137 = .ok (.goto 16, 3) := by decide +kernel
theorem dX12_twoOf_140 : decode cX12_twoOf 140 = .ok (.iload_n 2, 1) := by decide +kernel
theorem dX12_twoOf_141 : decode cX12_twoOf 141 = .ok (.iconst (-1), 1) := by decide +kernel
theorem dX12_twoOf_142 : decode cX12_twoOf 142 = .ok (.if_icmp .ne 8, 3) := by decide +kernel
theorem dX12_twoOf_145 : decode cX12_twoOf 145 = .ok (.iload_n 1, 1) := by decide +kernel
theorem dX12_twoOf_146 : decode cX12_twoOf 146 = .ok (.ineg, 1) := by decide +kernel
theorem dX12_twoOf_147 : decode cX12_twoOf 147 = .ok (.goto 6, 3) := by decide +kernel
theorem dX12_twoOf_150 : decode cX12_twoOf 150 = .ok (.iload_n 1, 1) := by decide +kernel
theorem dX12_twoOf_151 : decode cX12_twoOf 151 = .ok (.iload_n 2, 1) := by decide +kernel
theorem dX12_twoOf_152 : decode cX12_twoOf 152 = .ok (.idiv, 1) := by decide +kernel
theorem dX12_twoOf_153 : decode cX12_twoOf 153 = .ok (.ireturn, 1) := by decide +kernel
theorem dX12_twoOf_154 : decode cX12_twoOf 154 = .ok (.iload_n 2, 1) := by decide +kernel
theorem dX12_twoOf_155 : decode cX12_twoOf 155 = .ok (.ifCond .eq 8, 3) := by decide +kernel
theorem dX12_twoOf_158 : decode cX12_twoOf 158 = .ok (.iload_n 2, 1) := by decide +kernel
theorem dX12_twoOf_159 : decode cX12_twoOf 159 = .ok (.iconst (-1), 1) := by decide +kernel
theorem dX12_twoOf_160 : decode cX12_twoOf 160 = .ok (.if_icmp .ne 7, 3) := by decide +kernel
theorem dX12_twoOf_163 : decode cX12_twoOf 163 = .ok (.iconst 0, 1) := by decide +kernel
theorem dX12_twoOf_164 : decode cX12_twoOf 164 = .ok (.goto 6, 3) := by decide +kernel
theorem dX12_twoOf_167 : decode cX12_twoOf 167 = .ok (.iload_n 1, 1) := by decide +kernel
theorem dX12_twoOf_168 : decode cX12_twoOf 168 = .ok (.iload_n 2, 1) := by decide +kernel
theorem dX12_twoOf_169 : decode cX12_twoOf 169 = .ok (.irem, 1) := by decide +kernel
theorem dX12_twoOf_170 : decode cX12_twoOf 170 = .ok (.ireturn, 1) := by decide +kernel
theorem dX12_twoOf_171 : decode cX12_twoOf 171 = .ok (.iload_n 1, 1) := by decide +kernel
theorem dX12_twoOf_172 : decode cX12_twoOf 172 = .ok (.iload_n 2, 1) := by decide +kernel
theorem dX12_twoOf_173 : decode cX12_twoOf 173 = .ok (.if_icmp .ge 7, 3) := by decide +kernel
theorem dX12_twoOf_176 : decode cX12_twoOf 176 = .ok (.iconst 1, 1) := by decide +kernel
theorem dX12_twoOf_177 : decode cX12_twoOf 177 = .ok (.goto 4, 3) := by decide +kernel
theorem dX12_twoOf_180 : decode cX12_twoOf 180 = .ok (.iconst 0, 1) := by decide +kernel
theorem dX12_twoOf_181 : decode cX12_twoOf 181 = .ok (.ireturn, 1) := by decide +kernel
theorem dX12_twoOf_182 : decode cX12_twoOf 182 = .ok (.iload_n 1, 1) := by decide +kernel
theorem dX12_twoOf_183 : decode cX12_twoOf 183 = .ok (.iload_n 2, 1) := by decide +kernel
theorem dX12_twoOf_184 : decode cX12_twoOf 184 = .ok (.if_icmp .ne 7, 3) := by decide +kernel
theorem dX12_twoOf_187 : decode cX12_twoOf 187 = .ok (.iconst 1, 1) := by decide +kernel
theorem dX12_twoOf_188 : decode cX12_twoOf 188 = .ok (.goto 4, 3) := by decide +kernel
theorem dX12_twoOf_191 : decode cX12_twoOf 191 = .ok (.iconst 0, 1) := by decide +kernel
theorem dX12_twoOf_192 : decode cX12_twoOf 192 = .ok (.ireturn, 1) := by decide +kernel
theorem dX12_twoOf_193 : decode cX12_twoOf 193 = .ok (.iload_n 1, 1) := by decide +kernel
theorem dX12_twoOf_194 : decode cX12_twoOf 194 = .ok (.iload_n 2, 1) := by decide +kernel
theorem dX12_twoOf_195 : decode cX12_twoOf 195 = .ok (.if_icmp .le 7, 3) := by decide +kernel
theorem dX12_twoOf_198 : decode cX12_twoOf 198 = .ok (.iconst 1, 1) := by decide +kernel
theorem dX12_twoOf_199 : decode cX12_twoOf 199 = .ok (.goto 4, 3) := by decide +kernel
theorem dX12_twoOf_202 : decode cX12_twoOf 202 = .ok (.iconst 0, 1) := by decide +kernel
theorem dX12_twoOf_203 : decode cX12_twoOf 203 = .ok (.ireturn, 1) := by decide +kernel
theorem dX12_twoOf_204 : decode cX12_twoOf 204 = .ok (.iload_n 1, 1) := by decide +kernel
theorem dX12_twoOf_205 : decode cX12_twoOf 205 = .ok (.ifCond .eq 11, 3) := by decide +kernel
theorem dX12_twoOf_208 : decode cX12_twoOf 208 = .ok (.iload_n 2, 1) := by decide +kernel
theorem dX12_twoOf_209 : decode cX12_twoOf 209 = .ok (.ifCond .eq 7, 3) := by decide +kernel
theorem dX12_twoOf_212 : decode cX12_twoOf 212 = .ok (.iconst 1, 1) := by decide +kernel
theorem dX12_twoOf_213 : decode cX12_twoOf 213 = .ok (.goto 4, 3) := by decide +kernel
theorem dX12_twoOf_216 : decode cX12_twoOf 216 = .ok (.iconst 0, 1) := by decide +kernel
theorem dX12_twoOf_217 : decode cX12_twoOf 217 = .ok (.ireturn, 1) := by decide +kernel
theorem dX12_twoOf_218 : decode cX12_twoOf 218 = .ok (.iload_n 1, 1) := by decide +kernel
theorem dX12_twoOf_219 : decode cX12_twoOf 219 = .ok (.ifCond .ne 7, 3) := by decide +kernel
theorem dX12_twoOf_222 : decode cX12_twoOf 222 = .ok (.iload_n 2, 1) := by decide +kernel
theorem dX12_twoOf_223 : decode cX12_twoOf 223 = .ok (.ifCond .eq 7, 3) := by decide +kernel
theorem dX12_twoOf_226 : decode cX12_twoOf 226 = .ok (.iconst 1, 1) := by decide +kernel
theorem dX12_twoOf_227 : decode cX12_twoOf 227 = .ok (.goto 4, 3) := by decide +kernel
theorem dX12_twoOf_230 : decode cX12_twoOf 230 = .ok (.iconst 0, 1) := by decide +kernel
theorem dX12_twoOf_231 : decode cX12_twoOf 231 = .ok (.ireturn, 1) := by decide +kernel
theorem dX12_worked_0 : decode cX12_worked 0 = .ok (.iconst 0, 1) := by decide +kernel
theorem dX12_worked_1 : decode cX12_worked 1 = .ok (.istore 4, 2) := by decide +kernel
theorem dX12_worked_3 : decode cX12_worked 3 = .ok (.sipush 130, 3) := by decide +kernel
theorem dX12_worked_6 : decode cX12_worked 6 = .ok (.iload_n 1, 1) := by decide +kernel
theorem dX12_worked_7 : decode cX12_worked 7 = .ok (.imul, 1) := by decide +kernel
theorem dX12_worked_8 : decode cX12_worked 8 = .ok (.iload_n 2, 1) := by decide +kernel
theorem dX12_worked_9 : decode cX12_worked 9 = .ok (.iadd, 1) := by decide +kernel
theorem dX12_worked_10 : decode cX12_worked 10 = .ok (.istore 5, 2) := by decide +kernel
theorem dX12_worked_12 : decode cX12_worked 12 = .ok (.iload 5, 2) := by decide +kernel
theorem dX12_worked_14 : decode cX12_worked 14 = .ok (.sipush 130, 3) := by decide +kernel
theorem dX12_worked_17 : decode cX12_worked 17 = .ok (.iload_n 1, 1) := by decide +kernel
theorem dX12_worked_18 : decode cX12_worked 18 = .ok (.imul, 1) := by decide +kernel
theorem dX12_worked_19 : decode cX12_worked 19 = .ok (.iload_n 3, 1) := by decide +kernel
theorem dX12_worked_20 : decode cX12_worked 20 = .ok (.iadd, 1) := by decide +kernel
theorem dX12_worked_21 : decode cX12_worked 21 = .ok (.if_icmp .ge 167, 3) := by decide +kernel
theorem dX12_worked_24 : decode cX12_worked 24 = .ok (.aload_n 0, 1) := by decide +kernel
theorem dX12_worked_25 : decode cX12_worked 25 = .ok (.getfield 56, 3) := by decide +kernel
theorem dX12_worked_28 : decode cX12_worked 28 = .ok (.iload 5, 2) := by decide +kernel
theorem dX12_worked_30 : decode cX12_worked 30 = .ok (.baload, 1) := by decide +kernel
theorem dX12_worked_31 : decode cX12_worked 31 = .ok (.istore 6, 2) := by decide +kernel
theorem dX12_worked_33 : decode cX12_worked 33 = .ok (.iload 6, 2) := by decide +kernel
theorem dX12_worked_35 : decode cX12_worked 35 = .ok (.iconst 1, 1) := by decide +kernel
theorem dX12_worked_36 : decode cX12_worked 36 = .ok (.if_icmp .eq 9, 3) := by decide +kernel
theorem dX12_worked_39 : decode cX12_worked 39 = .ok (.iload 6, 2) := by decide +kernel
theorem dX12_worked_41 : decode cX12_worked 41 = .ok (.iconst 2, 1) := by decide +kernel
theorem dX12_worked_42 : decode cX12_worked 42 = .ok (.if_icmp .ne 44, 3) := by decide +kernel
theorem dX12_worked_45 : decode cX12_worked 45 = .ok (.aload_n 0, 1) := by decide +kernel
theorem dX12_worked_46 : decode cX12_worked 46 = .ok (.getfield 75, 3) := by decide +kernel
theorem dX12_worked_49 : decode cX12_worked 49 = .ok (.iload 4, 2) := by decide +kernel
theorem dX12_worked_51 : decode cX12_worked 51 = .ok (.iload 6, 2) := by decide +kernel
theorem dX12_worked_53 : decode cX12_worked 53 = .ok (.iconst 1, 1) := by decide +kernel
theorem dX12_worked_54 : decode cX12_worked 54 = .ok (.if_icmp .ne 13, 3) := by decide +kernel
theorem dX12_worked_57 : decode cX12_worked 57 = .ok (.aload_n 0, 1) := by decide +kernel
theorem dX12_worked_58 : decode cX12_worked 58 = .ok (.getfield 59, 3) := by decide +kernel
theorem dX12_worked_61 : decode cX12_worked 61 = .ok (.iload 5, 2) := by decide +kernel
theorem dX12_worked_63 : decode cX12_worked 63 = .ok (.iaload, 1) := by decide +kernel
theorem dX12_worked_64 : decode cX12_worked 64 = .ok (.goto 15, 3) := by decide +kernel
theorem dX12_worked_67 : decode cX12_worked 67 = .ok (.aload_n 0, 1) := by decide +kernel
theorem dX12_worked_68 : decode cX12_worked 68 = .ok (.getfield 72, 3) := by decide +kernel
theorem dX12_worked_71 : decode cX12_worked 71 = .ok (.aload_n 0, 1) := by decide +kernel
theorem dX12_worked_72 : decode cX12_worked 72 = .ok (.getfield 59, 3) := by decide +kernel
theorem dX12_worked_75 : decode cX12_worked 75 = .ok (.iload 5, 2) := by decide +kernel
theorem dX12_worked_77 : decode cX12_worked 77 = .ok (.iaload, 1) := by decide +kernel
theorem dX12_worked_78 : decode cX12_worked 78 = .ok (.iaload, 1) := by decide +kernel
theorem dX12_worked_79 : decode cX12_worked 79 = .ok (.iastore, 1) := by decide +kernel
theorem dX12_worked_80 : decode cX12_worked 80 = .ok (.iinc 4 1, 3) := by decide +kernel
theorem dX12_worked_83 : decode cX12_worked 83 = .ok (.goto 99, 3) := by decide +kernel
theorem dX12_worked_86 : decode cX12_worked 86 = .ok (.iload 6, 2) := by decide +kernel
theorem dX12_worked_88 : decode cX12_worked 88 = .ok (.iconst 3, 1) := by decide +kernel
theorem dX12_worked_89 : decode cX12_worked 89 = .ok (.if_icmp .ne 32, 3) := by decide +kernel
theorem dX12_worked_92 : decode cX12_worked 92 = .ok (.aload_n 0, 1) := by decide +kernel
theorem dX12_worked_93 : decode cX12_worked 93 = .ok (.getfield 75, 3) := by decide +kernel
theorem dX12_worked_96 : decode cX12_worked 96 = .ok (.iload 4, 2) := by decide +kernel
theorem dX12_worked_98 : decode cX12_worked 98 = .ok (.iconst 1, 1) := by decide +kernel
theorem dX12_worked_99 : decode cX12_worked 99 = .ok (.isub, 1) := by decide +kernel
theorem dX12_worked_100 : decode cX12_worked 100 = .ok (.aload_n 0, 1) := by decide +kernel
theorem dX12_worked_101 : decode cX12_worked 101 = .ok (.getfield 75, 3) := by decide +kernel
theorem dX12_worked_104 : decode cX12_worked 104 = .ok (.iload 4, 2) := by decide +kernel
theorem dX12_worked_106 : decode cX12_worked 106 = .ok (.iconst 1, 1) := by decide +kernel
theorem dX12_worked_107 : decode cX12_worked 107 = .ok (.isub, 1) := by decide +kernel
theorem dX12_worked_108 : decode cX12_worked 108 = .ok (.iaload, 1) := by decide +kernel
theorem dX12_worked_109 : decode cX12_worked 109 = .ok (.ifCond .ne 7, 3) := by decide +kernel
theorem dX12_worked_112 : decode cX12_worked 112 = .ok (.iconst 1, 1) := by decide +kernel
theorem dX12_worked_113 : decode cX12_worked 113 = .ok (.goto 4, 3) := by decide +kernel
theorem dX12_worked_116 : decode cX12_worked 116 = .ok (.iconst 0, 1) := by decide +kernel
theorem dX12_worked_117 : decode cX12_worked 117 = .ok (.iastore, 1) := by decide +kernel
theorem dX12_worked_118 : decode cX12_worked 118 = .ok (.goto 64, 3) := by decide +kernel
theorem dX12_worked_121 : decode cX12_worked 121 = .ok (.iload 6, 2) := by decide +kernel
theorem dX12_worked_123 : decode cX12_worked 123 = .ok (.iconst 4, 1) := by decide +kernel
theorem dX12_worked_124 : decode cX12_worked 124 = .ok (.if_icmp .ne 25, 3) := by decide +kernel
theorem dX12_worked_127 : decode cX12_worked 127 = .ok (.aload_n 0, 1) := by decide +kernel
theorem dX12_worked_128 : decode cX12_worked 128 = .ok (.getfield 75, 3) := by decide +kernel
theorem dX12_worked_131 : decode cX12_worked 131 = .ok (.iload 4, 2) := by decide +kernel
theorem dX12_worked_133 : decode cX12_worked 133 = .ok (.iconst 1, 1) := by decide +kernel
theorem dX12_worked_134 : decode cX12_worked 134 = .ok (.isub, 1) := by decide +kernel
theorem dX12_worked_135 : decode cX12_worked 135 = .ok (.aload_n 0, 1) := by decide +kernel
theorem dX12_worked_136 : decode cX12_worked 136 = .ok (.getfield 75, 3) := by decide +kernel
theorem dX12_worked_139 : decode cX12_worked 139 = .ok (.iload 4, 2) := by decide +kernel
theorem dX12_worked_141 : decode cX12_worked 141 = .ok (.iconst 1, 1) := by decide +kernel
theorem dX12_worked_142 : decode cX12_worked 142 = .ok (.isub, 1) := by decide +kernel
theorem dX12_worked_143 : decode cX12_worked 143 = .ok (.iaload, 1) := by decide +kernel
theorem dX12_worked_144 : decode cX12_worked 144 = .ok (.ineg, 1) := by decide +kernel
theorem dX12_worked_145 : decode cX12_worked 145 = .ok (.iastore, 1) := by decide +kernel
theorem dX12_worked_146 : decode cX12_worked 146 = .ok (.goto 36, 3) := by decide +kernel
theorem dX12_worked_149 : decode cX12_worked 149 = .ok (.iinc 4 (-1), 3) := by decide +kernel
theorem dX12_worked_152 : decode cX12_worked 152 = .ok (.aload_n 0, 1) := by decide +kernel
theorem dX12_worked_153 : decode cX12_worked 153 = .ok (.getfield 75, 3) := by decide +kernel
theorem dX12_worked_156 : decode cX12_worked 156 = .ok (.iload 4, 2) := by decide +kernel
theorem dX12_worked_158 : decode cX12_worked 158 = .ok (.iconst 1, 1) := by decide +kernel
theorem dX12_worked_159 : decode cX12_worked 159 = .ok (.isub, 1) := by decide +kernel
theorem dX12_worked_160 : decode cX12_worked 160 = .ok (.iload 6, 2) := by decide +kernel
theorem dX12_worked_162 : decode cX12_worked 162 = .ok (.aload_n 0, 1) := by decide +kernel
theorem dX12_worked_163 : decode cX12_worked 163 = .ok (.getfield 75, 3) := by decide +kernel
theorem dX12_worked_166 : decode cX12_worked 166 = .ok (.iload 4, 2) := by decide +kernel
theorem dX12_worked_168 : decode cX12_worked 168 = .ok (.iconst 1, 1) := by decide +kernel
theorem dX12_worked_169 : decode cX12_worked 169 = .ok (.isub, 1) := by decide +kernel
theorem dX12_worked_170 : decode cX12_worked 170 = .ok (.iaload, 1) := by decide +kernel
theorem dX12_worked_171 : decode cX12_worked 171 = .ok (.aload_n 0, 1) := by decide +kernel
theorem dX12_worked_172 : decode cX12_worked 172 = .ok (.getfield 75, 3) := by decide +kernel
theorem dX12_worked_175 : decode cX12_worked 175 = .ok (.iload 4, 2) := by decide +kernel
theorem dX12_worked_177 : decode cX12_worked 177 = .ok (.iaload, 1) := by decide +kernel
theorem dX12_worked_178 : decode cX12_worked 178 = .ok (.invokestatic 242, 3) := by decide +kernel
theorem dX12_worked_181 : decode cX12_worked 181 = .ok (.iastore, 1) := by decide +kernel
theorem dX12_worked_182 : decode cX12_worked 182 = .ok (.iinc 5 1, 3) := by decide +kernel
theorem dX12_worked_185 : decode cX12_worked 185 = .ok (.goto (-173), 3) := by decide +kernel
theorem dX12_worked_188 : decode cX12_worked 188 = .ok (.aload_n 0, 1) := by decide +kernel
theorem dX12_worked_189 : decode cX12_worked 189 = .ok (.getfield 75, 3) := by decide +kernel
theorem dX12_worked_192 : decode cX12_worked 192 = .ok (.iconst 0, 1) := by decide +kernel
theorem dX12_worked_193 : decode cX12_worked 193 = .ok (.iaload, 1) := by decide +kernel
theorem dX12_worked_194 : decode cX12_worked 194 = .ok (.ireturn, 1) := by decide +kernel
theorem dX12_gives_0 : decode cX12_gives 0 = .ok (.iconst 0, 1) := by decide +kernel
theorem dX12_gives_1 : decode cX12_gives 1 = .ok (.istore_n 2, 1) := by decide +kernel
theorem dX12_gives_2 : decode cX12_gives 2 = .ok (.bipush 61, 2) := by decide +kernel
theorem dX12_gives_4 : decode cX12_gives 4 = .ok (.iload_n 1, 1) := by decide +kernel
theorem dX12_gives_5 : decode cX12_gives 5 = .ok (.imul, 1) := by decide +kernel
theorem dX12_gives_6 : decode cX12_gives 6 = .ok (.istore_n 3, 1) := by decide +kernel
theorem dX12_gives_7 : decode cX12_gives 7 = .ok (.iload_n 3, 1) := by decide +kernel
theorem dX12_gives_8 : decode cX12_gives 8 = .ok (.bipush 61, 2) := by decide +kernel
theorem dX12_gives_10 : decode cX12_gives 10 = .ok (.iload_n 1, 1) := by decide +kernel
theorem dX12_gives_11 : decode cX12_gives 11 = .ok (.imul, 1) := by decide +kernel
theorem dX12_gives_12 : decode cX12_gives 12 = .ok (.aload_n 0, 1) := by decide +kernel
theorem dX12_gives_13 : decode cX12_gives 13 = .ok (.getfield 62, 3) := by decide +kernel
theorem dX12_gives_16 : decode cX12_gives 16 = .ok (.iload_n 1, 1) := by decide +kernel
theorem dX12_gives_17 : decode cX12_gives 17 = .ok (.iaload, 1) := by decide +kernel
theorem dX12_gives_18 : decode cX12_gives 18 = .ok (.iadd, 1) := by decide +kernel
theorem dX12_gives_19 : decode cX12_gives 19 = .ok (.if_icmp .ge 59, 3) := by decide +kernel
theorem dX12_gives_22 : decode cX12_gives 22 = .ok (.aload_n 0, 1) := by decide +kernel
theorem dX12_gives_23 : decode cX12_gives 23 = .ok (.getfield 65, 3) := by decide +kernel
theorem dX12_gives_26 : decode cX12_gives 26 = .ok (.iload_n 3, 1) := by decide +kernel
theorem dX12_gives_27 : decode cX12_gives 27 = .ok (.saload, 1) := by decide +kernel
theorem dX12_gives_28 : decode cX12_gives 28 = .ok (.iload_n 2, 1) := by decide +kernel
theorem dX12_gives_29 : decode cX12_gives 29 = .ok (.if_icmp .eq 18, 3) := by decide +kernel
theorem dX12_gives_32 : decode cX12_gives 32 = .ok (.aload_n 0, 1) := by decide +kernel
theorem dX12_gives_33 : decode cX12_gives 33 = .ok (.iload_n 1, 1) := by decide +kernel
theorem dX12_gives_34 : decode cX12_gives 34 = .ok (.iload_n 2, 1) := by decide +kernel
theorem dX12_gives_35 : decode cX12_gives 35 = .ok (.aload_n 0, 1) := by decide +kernel
theorem dX12_gives_36 : decode cX12_gives 36 = .ok (.getfield 65, 3) := by decide +kernel
theorem dX12_gives_39 : decode cX12_gives 39 = .ok (.iload_n 3, 1) := by decide +kernel
theorem dX12_gives_40 : decode cX12_gives 40 = .ok (.saload, 1) := by decide +kernel
theorem dX12_gives_41 : decode cX12_gives 41 = .ok (.invokevirtual 245, 3) := by decide +kernel
theorem dX12_gives_44 : decode cX12_gives 44 = .ok (.ifCond .eq 21, 3) := by decide +kernel
theorem dX12_gives_47 : decode cX12_gives 47 = .ok (.aload_n 0, 1) := by decide +kernel
theorem dX12_gives_48 : decode cX12_gives 48 = .ok (.iload_n 1, 1) := by decide +kernel
theorem dX12_gives_49 : decode cX12_gives 49 = .ok (.aload_n 0, 1) := by decide +kernel
theorem dX12_gives_50 : decode cX12_gives 50 = .ok (.getfield 65, 3) := by decide +kernel
theorem dX12_gives_53 : decode cX12_gives 53 = .ok (.iload_n 3, 1) := by decide +kernel
theorem dX12_gives_54 : decode cX12_gives 54 = .ok (.saload, 1) := by decide +kernel
theorem dX12_gives_55 : decode cX12_gives 55 = .ok (.aload_n 0, 1) := by decide +kernel
theorem dX12_gives_56 : decode cX12_gives 56 = .ok (.getfield 69, 3) := by decide +kernel
theorem dX12_gives_59 : decode cX12_gives 59 = .ok (.iload_n 3, 1) := by decide +kernel
theorem dX12_gives_60 : decode cX12_gives 60 = .ok (.saload, 1) := by decide +kernel
theorem dX12_gives_61 : decode cX12_gives 61 = .ok (.invokevirtual 245, 3) := by decide +kernel
theorem dX12_gives_64 : decode cX12_gives 64 = .ok (.ireturn, 1) := by decide +kernel
theorem dX12_gives_65 : decode cX12_gives 65 = .ok (.aload_n 0, 1) := by decide +kernel
theorem dX12_gives_66 : decode cX12_gives 66 = .ok (.getfield 69, 3) := by decide +kernel
theorem dX12_gives_69 : decode cX12_gives 69 = .ok (.iload_n 3, 1) := by decide +kernel
theorem dX12_gives_70 : decode cX12_gives 70 = .ok (.saload, 1) := by decide +kernel
theorem dX12_gives_71 : decode cX12_gives 71 = .ok (.istore_n 2, 1) := by decide +kernel
theorem dX12_gives_72 : decode cX12_gives 72 = .ok (.iinc 3 1, 3) := by decide +kernel
theorem dX12_gives_75 : decode cX12_gives 75 = .ok (.goto (-68), 3) := by decide +kernel
theorem dX12_gives_78 : decode cX12_gives 78 = .ok (.iconst 0, 1) := by decide +kernel
theorem dX12_gives_79 : decode cX12_gives 79 = .ok (.ireturn, 1) := by decide +kernel
theorem dX12_law_0 : decode cX12_law 0 = .ok (.aload_n 0, 1) := by decide +kernel
theorem dX12_law_1 : decode cX12_law 1 = .ok (.iconst 0, 1) := by decide +kernel
theorem dX12_law_2 : decode cX12_law 2 = .ok (.invokevirtual 248, 3) := by decide +kernel
theorem dX12_law_5 : decode cX12_law 5 = .ok (.istore_n 1, 1) := by decide +kernel
theorem dX12_law_6 : decode cX12_law 6 = .ok (.iload_n 1, 1) := by decide +kernel
theorem dX12_law_7 : decode cX12_law 7 = .ok (.ifCond .lt 8, 3) := by decide +kernel
theorem dX12_law_10 : decode cX12_law 10 = .ok (.bipush (-100), 2) := by decide +kernel
theorem dX12_law_12 : decode cX12_law 12 = .ok (.iload_n 1, 1) := by decide +kernel
theorem dX12_law_13 : decode cX12_law 13 = .ok (.isub, 1) := by decide +kernel
theorem dX12_law_14 : decode cX12_law 14 = .ok (.ireturn, 1) := by decide +kernel
theorem dX12_law_15 : decode cX12_law 15 = .ok (.aload_n 0, 1) := by decide +kernel
theorem dX12_law_16 : decode cX12_law 16 = .ok (.iconst 1, 1) := by decide +kernel
theorem dX12_law_17 : decode cX12_law 17 = .ok (.putfield 251, 3) := by decide +kernel
theorem dX12_law_20 : decode cX12_law 20 = .ok (.iconst 1, 1) := by decide +kernel
theorem dX12_law_21 : decode cX12_law 21 = .ok (.ireturn, 1) := by decide +kernel
theorem dX12_layNow_0 : decode cX12_layNow 0 = .ok (.iconst 0, 1) := by decide +kernel
theorem dX12_layNow_1 : decode cX12_layNow 1 = .ok (.istore_n 1, 1) := by decide +kernel
theorem dX12_layNow_2 : decode cX12_layNow 2 = .ok (.iload_n 1, 1) := by decide +kernel
theorem dX12_layNow_3 : decode cX12_layNow 3 = .ok (.aload_n 0, 1) := by decide +kernel
theorem dX12_layNow_4 : decode cX12_layNow 4 = .ok (.getfield 128, 3) := by decide +kernel
theorem dX12_layNow_7 : decode cX12_layNow 7 = .ok (.if_icmp .ge 21, 3) := by decide +kernel
theorem dX12_layNow_10 : decode cX12_layNow 10 = .ok (.aload_n 0, 1) := by decide +kernel
theorem dX12_layNow_11 : decode cX12_layNow 11 = .ok (.getfield 78, 3) := by decide +kernel
theorem dX12_layNow_14 : decode cX12_layNow 14 = .ok (.iload_n 1, 1) := by decide +kernel
theorem dX12_layNow_15 : decode cX12_layNow 15 = .ok (.aload_n 0, 1) := by decide +kernel
theorem dX12_layNow_16 : decode cX12_layNow 16 = .ok (.getfield 7, 3) := by decide +kernel
theorem dX12_layNow_19 : decode cX12_layNow 19 = .ok (.iload_n 1, 1) := by decide +kernel
theorem dX12_layNow_20 : decode cX12_layNow 20 = .ok (.iaload, 1) := by decide +kernel
theorem dX12_layNow_21 : decode cX12_layNow 21 = .ok (.iastore, 1) := by decide +kernel
theorem dX12_layNow_22 : decode cX12_layNow 22 = .ok (.iinc 1 1, 3) := by decide +kernel
theorem dX12_layNow_25 : decode cX12_layNow 25 = .ok (.goto (-23), 3) := by decide +kernel
theorem dX12_layNow_28 : decode cX12_layNow 28 = .ok (.iconst 0, 1) := by decide +kernel
theorem dX12_layNow_29 : decode cX12_layNow 29 = .ok (.istore_n 1, 1) := by decide +kernel
theorem dX12_layNow_30 : decode cX12_layNow 30 = .ok (.iload_n 1, 1) := by decide +kernel
theorem dX12_layNow_31 : decode cX12_layNow 31 = .ok (.aload_n 0, 1) := by decide +kernel
theorem dX12_layNow_32 : decode cX12_layNow 32 = .ok (.getfield 135, 3) := by decide +kernel
theorem dX12_layNow_35 : decode cX12_layNow 35 = .ok (.if_icmp .ge 33, 3) := by decide +kernel
theorem dX12_layNow_38 : decode cX12_layNow 38 = .ok (.aload_n 0, 1) := by decide +kernel
theorem dX12_layNow_39 : decode cX12_layNow 39 = .ok (.getfield 81, 3) := by decide +kernel
theorem dX12_layNow_42 : decode cX12_layNow 42 = .ok (.iload_n 1, 1) := by decide +kernel
theorem dX12_layNow_43 : decode cX12_layNow 43 = .ok (.aload_n 0, 1) := by decide +kernel
theorem dX12_layNow_44 : decode cX12_layNow 44 = .ok (.getfield 31, 3) := by decide +kernel
theorem dX12_layNow_47 : decode cX12_layNow 47 = .ok (.iload_n 1, 1) := by decide +kernel
theorem dX12_layNow_48 : decode cX12_layNow 48 = .ok (.iaload, 1) := by decide +kernel
theorem dX12_layNow_49 : decode cX12_layNow 49 = .ok (.iastore, 1) := by decide +kernel
theorem dX12_layNow_50 : decode cX12_layNow 50 = .ok (.aload_n 0, 1) := by decide +kernel
theorem dX12_layNow_51 : decode cX12_layNow 51 = .ok (.getfield 84, 3) := by decide +kernel
theorem dX12_layNow_54 : decode cX12_layNow 54 = .ok (.iload_n 1, 1) := by decide +kernel
theorem dX12_layNow_55 : decode cX12_layNow 55 = .ok (.aload_n 0, 1) := by decide +kernel
theorem dX12_layNow_56 : decode cX12_layNow 56 = .ok (.getfield 34, 3) := by decide +kernel
theorem dX12_layNow_59 : decode cX12_layNow 59 = .ok (.iload_n 1, 1) := by decide +kernel
theorem dX12_layNow_60 : decode cX12_layNow 60 = .ok (.iaload, 1) := by decide +kernel
theorem dX12_layNow_61 : decode cX12_layNow 61 = .ok (.iastore, 1) := by decide +kernel
theorem dX12_layNow_62 : decode cX12_layNow 62 = .ok (.iinc 1 1, 3) := by decide +kernel
theorem dX12_layNow_65 : decode cX12_layNow 65 = .ok (.goto (-35), 3) := by decide +kernel
theorem dX12_layNow_68 : decode cX12_layNow 68 = .ok (.aload_n 0, 1) := by decide +kernel
theorem dX12_layNow_69 : decode cX12_layNow 69 = .ok (.aload_n 0, 1) := by decide +kernel
theorem dX12_layNow_70 : decode cX12_layNow 70 = .ok (.getfield 37, 3) := by decide +kernel
theorem dX12_layNow_73 : decode cX12_layNow 73 = .ok (.iconst 0, 1) := by decide +kernel
theorem dX12_layNow_74 : decode cX12_layNow 74 = .ok (.iaload, 1) := by decide +kernel
theorem dX12_layNow_75 : decode cX12_layNow 75 = .ok (.putfield 255, 3) := by decide +kernel
theorem dX12_layNow_78 : decode cX12_layNow 78 = .ok (.aload_n 0, 1) := by decide +kernel
theorem dX12_layNow_79 : decode cX12_layNow 79 = .ok (.aload_n 0, 1) := by decide +kernel
theorem dX12_layNow_80 : decode cX12_layNow 80 = .ok (.getfield 37, 3) := by decide +kernel
theorem dX12_layNow_83 : decode cX12_layNow 83 = .ok (.iconst 3, 1) := by decide +kernel
theorem dX12_layNow_84 : decode cX12_layNow 84 = .ok (.iaload, 1) := by decide +kernel
theorem dX12_layNow_85 : decode cX12_layNow 85 = .ok (.putfield 258, 3) := by decide +kernel
theorem dX12_layNow_88 : decode cX12_layNow 88 = .ok (.aload_n 0, 1) := by decide +kernel
theorem dX12_layNow_89 : decode cX12_layNow 89 = .ok (.iconst 0, 1) := by decide +kernel
theorem dX12_layNow_90 : decode cX12_layNow 90 = .ok (.putfield 261, 3) := by decide +kernel
theorem dX12_layNow_93 : decode cX12_layNow 93 = .ok (.aload_n 0, 1) := by decide +kernel
theorem dX12_layNow_94 : decode cX12_layNow 94 = .ok (.iconst 0, 1) := by decide +kernel
theorem dX12_layNow_95 : decode cX12_layNow 95 = .ok (.putfield 264, 3) := by decide +kernel
theorem dX12_layNow_98 : decode cX12_layNow 98 = .ok (.return_, 1) := by decide +kernel
theorem dX12_houseOfJoy_0 : decode cX12_houseOfJoy 0 = .ok (.aload_n 0, 1) := by decide +kernel
theorem dX12_houseOfJoy_1 : decode cX12_houseOfJoy 1 = .ok (.getfield 78, 3) := by decide +kernel
theorem dX12_houseOfJoy_4 : decode cX12_houseOfJoy 4 = .ok (.aload_n 0, 1) := by decide +kernel
theorem dX12_houseOfJoy_5 : decode cX12_houseOfJoy 5 = .ok (.getfield 13, 3) := by decide +kernel
theorem dX12_houseOfJoy_8 : decode cX12_houseOfJoy 8 = .ok (.iload_n 1, 1) := by decide +kernel
theorem dX12_houseOfJoy_9 : decode cX12_houseOfJoy 9 = .ok (.iaload, 1) := by decide +kernel
theorem dX12_houseOfJoy_10 : decode cX12_houseOfJoy 10 = .ok (.iaload, 1) := by decide +kernel
theorem dX12_houseOfJoy_11 : decode cX12_houseOfJoy 11 = .ok (.ireturn, 1) := by decide +kernel
theorem dX12_waits_0 : decode cX12_waits 0 = .ok (.aload_n 0, 1) := by decide +kernel
theorem dX12_waits_1 : decode cX12_waits 1 = .ok (.getfield 84, 3) := by decide +kernel
theorem dX12_waits_4 : decode cX12_waits 4 = .ok (.iload_n 1, 1) := by decide +kernel
theorem dX12_waits_5 : decode cX12_waits 5 = .ok (.iaload, 1) := by decide +kernel
theorem dX12_waits_6 : decode cX12_waits 6 = .ok (.ifCond .ne 29, 3) := by decide +kernel
theorem dX12_waits_9 : decode cX12_waits 9 = .ok (.aload_n 0, 1) := by decide +kernel
theorem dX12_waits_10 : decode cX12_waits 10 = .ok (.getfield 81, 3) := by decide +kernel
theorem dX12_waits_13 : decode cX12_waits 13 = .ok (.iload_n 1, 1) := by decide +kernel
theorem dX12_waits_14 : decode cX12_waits 14 = .ok (.iaload, 1) := by decide +kernel
theorem dX12_waits_15 : decode cX12_waits 15 = .ok (.ifCond .ne 20, 3) := by decide +kernel
theorem dX12_waits_18 : decode cX12_waits 18 = .ok (.aload_n 0, 1) := by decide +kernel
theorem dX12_waits_19 : decode cX12_waits 19 = .ok (.getfield 258, 3) := by decide +kernel
theorem dX12_waits_22 : decode cX12_waits 22 = .ok (.aload_n 0, 1) := by decide +kernel
theorem dX12_waits_23 : decode cX12_waits 23 = .ok (.getfield 16, 3) := by decide +kernel
theorem dX12_waits_26 : decode cX12_waits 26 = .ok (.iload_n 1, 1) := by decide +kernel
theorem dX12_waits_27 : decode cX12_waits 27 = .ok (.iaload, 1) := by decide +kernel
theorem dX12_waits_28 : decode cX12_waits 28 = .ok (.if_icmp .lt 7, 3) := by decide +kernel
theorem dX12_waits_31 : decode cX12_waits 31 = .ok (.iconst 1, 1) := by decide +kernel
theorem dX12_waits_32 : decode cX12_waits 32 = .ok (.goto 4, 3) := by decide +kernel
theorem dX12_waits_35 : decode cX12_waits 35 = .ok (.iconst 0, 1) := by decide +kernel
theorem dX12_waits_36 : decode cX12_waits 36 = .ok (.ireturn, 1) := by decide +kernel
theorem dX12_runs_0 : decode cX12_runs 0 = .ok (.aload_n 0, 1) := by decide +kernel
theorem dX12_runs_1 : decode cX12_runs 1 = .ok (.getfield 84, 3) := by decide +kernel
theorem dX12_runs_4 : decode cX12_runs 4 = .ok (.iload_n 1, 1) := by decide +kernel
theorem dX12_runs_5 : decode cX12_runs 5 = .ok (.iaload, 1) := by decide +kernel
theorem dX12_runs_6 : decode cX12_runs 6 = .ok (.ifCond .ne 31, 3) := by decide +kernel
theorem dX12_runs_9 : decode cX12_runs 9 = .ok (.aload_n 0, 1) := by decide +kernel
theorem dX12_runs_10 : decode cX12_runs 10 = .ok (.getfield 81, 3) := by decide +kernel
theorem dX12_runs_13 : decode cX12_runs 13 = .ok (.iload_n 1, 1) := by decide +kernel
theorem dX12_runs_14 : decode cX12_runs 14 = .ok (.iaload, 1) := by decide +kernel
theorem dX12_runs_15 : decode cX12_runs 15 = .ok (.ifCond .le 22, 3) := by decide +kernel
theorem dX12_runs_18 : decode cX12_runs 18 = .ok (.aload_n 0, 1) := by decide +kernel
theorem dX12_runs_19 : decode cX12_runs 19 = .ok (.getfield 81, 3) := by decide +kernel
theorem dX12_runs_22 : decode cX12_runs 22 = .ok (.iload_n 1, 1) := by decide +kernel
theorem dX12_runs_23 : decode cX12_runs 23 = .ok (.iaload, 1) := by decide +kernel
theorem dX12_runs_24 : decode cX12_runs 24 = .ok (.aload_n 0, 1) := by decide +kernel
theorem dX12_runs_25 : decode cX12_runs 25 = .ok (.getfield 19, 3) := by decide +kernel
theorem dX12_runs_28 : decode cX12_runs 28 = .ok (.iload_n 1, 1) := by decide +kernel
theorem dX12_runs_29 : decode cX12_runs 29 = .ok (.iaload, 1) := by decide +kernel
theorem dX12_runs_30 : decode cX12_runs 30 = .ok (.if_icmp .ge 7, 3) := by decide +kernel
theorem dX12_runs_33 : decode cX12_runs 33 = .ok (.iconst 1, 1) := by decide +kernel
theorem dX12_runs_34 : decode cX12_runs 34 = .ok (.goto 4, 3) := by decide +kernel
theorem dX12_runs_37 : decode cX12_runs 37 = .ok (.iconst 0, 1) := by decide +kernel
theorem dX12_runs_38 : decode cX12_runs 38 = .ok (.ireturn, 1) := by decide +kernel
theorem dX12_isHad_0 : decode cX12_isHad 0 = .ok (.aload_n 0, 1) := by decide +kernel
theorem dX12_isHad_1 : decode cX12_isHad 1 = .ok (.getfield 84, 3) := by decide +kernel
theorem dX12_isHad_4 : decode cX12_isHad 4 = .ok (.iload_n 1, 1) := by decide +kernel
theorem dX12_isHad_5 : decode cX12_isHad 5 = .ok (.iaload, 1) := by decide +kernel
theorem dX12_isHad_6 : decode cX12_isHad 6 = .ok (.ifCond .ne 22, 3) := by decide +kernel
theorem dX12_isHad_9 : decode cX12_isHad 9 = .ok (.aload_n 0, 1) := by decide +kernel
theorem dX12_isHad_10 : decode cX12_isHad 10 = .ok (.getfield 81, 3) := by decide +kernel
theorem dX12_isHad_13 : decode cX12_isHad 13 = .ok (.iload_n 1, 1) := by decide +kernel
theorem dX12_isHad_14 : decode cX12_isHad 14 = .ok (.iaload, 1) := by decide +kernel
theorem dX12_isHad_15 : decode cX12_isHad 15 = .ok (.aload_n 0, 1) := by decide +kernel
theorem dX12_isHad_16 : decode cX12_isHad 16 = .ok (.getfield 19, 3) := by decide +kernel
theorem dX12_isHad_19 : decode cX12_isHad 19 = .ok (.iload_n 1, 1) := by decide +kernel
theorem dX12_isHad_20 : decode cX12_isHad 20 = .ok (.iaload, 1) := by decide +kernel
theorem dX12_isHad_21 : decode cX12_isHad 21 = .ok (.if_icmp .lt 7, 3) := by decide +kernel
theorem dX12_isHad_24 : decode cX12_isHad 24 = .ok (.iconst 1, 1) := by decide +kernel
theorem dX12_isHad_25 : decode cX12_isHad 25 = .ok (.goto 4, 3) := by decide +kernel
theorem dX12_isHad_28 : decode cX12_isHad 28 = .ok (.iconst 0, 1) := by decide +kernel
theorem dX12_isHad_29 : decode cX12_isHad 29 = .ok (.ireturn, 1) := by decide +kernel
theorem dX12_onGladSide_0 : decode cX12_onGladSide 0 = .ok (.aload_n 0, 1) := by decide +kernel
theorem dX12_onGladSide_1 : decode cX12_onGladSide 1 = .ok (.iload_n 1, 1) := by decide +kernel
theorem dX12_onGladSide_2 : decode cX12_onGladSide 2 = .ok (.invokevirtual 267, 3) := by decide +kernel
theorem dX12_onGladSide_5 : decode cX12_onGladSide 5 = .ok (.iconst 2, 1) := by decide +kernel
theorem dX12_onGladSide_6 : decode cX12_onGladSide 6 = .ok (.irem, 1) := by decide +kernel
theorem dX12_onGladSide_7 : decode cX12_onGladSide 7 = .ok (.aload_n 0, 1) := by decide +kernel
theorem dX12_onGladSide_8 : decode cX12_onGladSide 8 = .ok (.getfield 255, 3) := by decide +kernel
theorem dX12_onGladSide_11 : decode cX12_onGladSide 11 = .ok (.if_icmp .ne 7, 3) := by decide +kernel
theorem dX12_onGladSide_14 : decode cX12_onGladSide 14 = .ok (.iconst 1, 1) := by decide +kernel
theorem dX12_onGladSide_15 : decode cX12_onGladSide 15 = .ok (.goto 4, 3) := by decide +kernel
theorem dX12_onGladSide_18 : decode cX12_onGladSide 18 = .ok (.iconst 0, 1) := by decide +kernel
theorem dX12_onGladSide_19 : decode cX12_onGladSide 19 = .ok (.ireturn, 1) := by decide +kernel
theorem dX12_moreLeft_0 : decode cX12_moreLeft 0 = .ok (.iconst 0, 1) := by decide +kernel
theorem dX12_moreLeft_1 : decode cX12_moreLeft 1 = .ok (.istore_n 1, 1) := by decide +kernel
theorem dX12_moreLeft_2 : decode cX12_moreLeft 2 = .ok (.iconst 0, 1) := by decide +kernel
theorem dX12_moreLeft_3 : decode cX12_moreLeft 3 = .ok (.istore_n 2, 1) := by decide +kernel
theorem dX12_moreLeft_4 : decode cX12_moreLeft 4 = .ok (.iload_n 2, 1) := by decide +kernel
theorem dX12_moreLeft_5 : decode cX12_moreLeft 5 = .ok (.aload_n 0, 1) := by decide +kernel
theorem dX12_moreLeft_6 : decode cX12_moreLeft 6 = .ok (.getfield 128, 3) := by decide +kernel
theorem dX12_moreLeft_9 : decode cX12_moreLeft 9 = .ok (.if_icmp .ge 28, 3) := by decide +kernel
theorem dX12_moreLeft_12 : decode cX12_moreLeft 12 = .ok (.iload_n 1, 1) := by decide +kernel
theorem dX12_moreLeft_13 : decode cX12_moreLeft 13 = .ok (.aload_n 0, 1) := by decide +kernel
theorem dX12_moreLeft_14 : decode cX12_moreLeft 14 = .ok (.getfield 78, 3) := by decide +kernel
theorem dX12_moreLeft_17 : decode cX12_moreLeft 17 = .ok (.iload_n 2, 1) := by decide +kernel
theorem dX12_moreLeft_18 : decode cX12_moreLeft 18 = .ok (.iaload, 1) := by decide +kernel
theorem dX12_moreLeft_19 : decode cX12_moreLeft 19 = .ok (.iconst 2, 1) := by decide +kernel
theorem dX12_moreLeft_20 : decode cX12_moreLeft 20 = .ok (.irem, 1) := by decide +kernel
theorem dX12_moreLeft_21 : decode cX12_moreLeft 21 = .ok (.ifCond .ne 7, 3) := by decide +kernel
theorem dX12_moreLeft_24 : decode cX12_moreLeft 24 = .ok (.iconst 1, 1) := by decide +kernel
theorem dX12_moreLeft_25 : decode cX12_moreLeft 25 = .ok (.goto 4, 3) := by decide +kernel
theorem dX12_moreLeft_28 : decode cX12_moreLeft 28 = .ok (.iconst (-1), 1) := by decide +kernel
theorem dX12_moreLeft_29 : decode cX12_moreLeft 29 = .ok (.iadd, 1) := by decide +kernel
theorem dX12_moreLeft_30 : decode cX12_moreLeft 30 = .ok (.istore_n 1, 1) := by decide +kernel
theorem dX12_moreLeft_31 : decode cX12_moreLeft 31 = .ok (.iinc 2 1, 3) := by decide +kernel
theorem dX12_moreLeft_34 : decode cX12_moreLeft 34 = .ok (.goto (-30), 3) := by decide +kernel
theorem dX12_moreLeft_37 : decode cX12_moreLeft 37 = .ok (.iload_n 1, 1) := by decide +kernel
theorem dX12_moreLeft_38 : decode cX12_moreLeft 38 = .ok (.ireturn, 1) := by decide +kernel
theorem dX12_vote_0 : decode cX12_vote 0 = .ok (.aload_n 0, 1) := by decide +kernel
theorem dX12_vote_1 : decode cX12_vote 1 = .ok (.invokevirtual 270, 3) := by decide +kernel
theorem dX12_vote_4 : decode cX12_vote 4 = .ok (.istore_n 1, 1) := by decide +kernel
theorem dX12_vote_5 : decode cX12_vote 5 = .ok (.iload_n 1, 1) := by decide +kernel
theorem dX12_vote_6 : decode cX12_vote 6 = .ok (.ifCond .le 7, 3) := by decide +kernel
theorem dX12_vote_9 : decode cX12_vote 9 = .ok (.iconst 0, 1) := by decide +kernel
theorem dX12_vote_10 : decode cX12_vote 10 = .ok (.goto 15, 3) := by decide +kernel
theorem dX12_vote_13 : decode cX12_vote 13 = .ok (.iload_n 1, 1) := by decide +kernel
theorem dX12_vote_14 : decode cX12_vote 14 = .ok (.ifCond .ge 7, 3) := by decide +kernel
theorem dX12_vote_17 : decode cX12_vote 17 = .ok (.iconst 1, 1) := by decide +kernel
theorem dX12_vote_18 : decode cX12_vote 18 = .ok (.goto 7, 3) := by decide +kernel
theorem dX12_vote_21 : decode cX12_vote 21 = .ok (.aload_n 0, 1) := by decide +kernel
theorem dX12_vote_22 : decode cX12_vote 22 = .ok (.getfield 255, 3) := by decide +kernel
theorem dX12_vote_25 : decode cX12_vote 25 = .ok (.istore_n 2, 1) := by decide +kernel
theorem dX12_vote_26 : decode cX12_vote 26 = .ok (.aload_n 0, 1) := by decide +kernel
theorem dX12_vote_27 : decode cX12_vote 27 = .ok (.dup, 1) := by decide +kernel
theorem dX12_vote_28 : decode cX12_vote 28 = .ok (.getfield 264, 3) := by decide +kernel
theorem dX12_vote_31 : decode cX12_vote 31 = .ok (.iconst 1, 1) := by decide +kernel
theorem dX12_vote_32 : decode cX12_vote 32 = .ok (.iadd, 1) := by decide +kernel
theorem dX12_vote_33 : decode cX12_vote 33 = .ok (.putfield 264, 3) := by decide +kernel
theorem dX12_vote_36 : decode cX12_vote 36 = .ok (.iload_n 2, 1) := by decide +kernel
theorem dX12_vote_37 : decode cX12_vote 37 = .ok (.aload_n 0, 1) := by decide +kernel
theorem dX12_vote_38 : decode cX12_vote 38 = .ok (.getfield 255, 3) := by decide +kernel
theorem dX12_vote_41 : decode cX12_vote 41 = .ok (.if_icmp .eq 13, 3) := by decide +kernel
theorem dX12_vote_44 : decode cX12_vote 44 = .ok (.aload_n 0, 1) := by decide +kernel
theorem dX12_vote_45 : decode cX12_vote 45 = .ok (.dup, 1) := by decide +kernel
theorem dX12_vote_46 : decode cX12_vote 46 = .ok (.getfield 261, 3) := by decide +kernel
theorem dX12_vote_49 : decode cX12_vote 49 = .ok (.iconst 1, 1) := by decide +kernel
theorem dX12_vote_50 : decode cX12_vote 50 = .ok (.iadd, 1) := by decide +kernel
theorem dX12_vote_51 : decode cX12_vote 51 = .ok (.putfield 261, 3) := by decide +kernel
theorem dX12_vote_54 : decode cX12_vote 54 = .ok (.aload_n 0, 1) := by decide +kernel
theorem dX12_vote_55 : decode cX12_vote 55 = .ok (.iload_n 2, 1) := by decide +kernel
theorem dX12_vote_56 : decode cX12_vote 56 = .ok (.putfield 255, 3) := by decide +kernel
theorem dX12_vote_59 : decode cX12_vote 59 = .ok (.return_, 1) := by decide +kernel
theorem dX12_goJoy_0 : decode cX12_goJoy 0 = .ok (.aload_n 0, 1) := by decide +kernel
theorem dX12_goJoy_1 : decode cX12_goJoy 1 = .ok (.iload_n 1, 1) := by decide +kernel
theorem dX12_goJoy_2 : decode cX12_goJoy 2 = .ok (.invokevirtual 273, 3) := by decide +kernel
theorem dX12_goJoy_5 : decode cX12_goJoy 5 = .ok (.istore_n 2, 1) := by decide +kernel
theorem dX12_goJoy_6 : decode cX12_goJoy 6 = .ok (.aload_n 0, 1) := by decide +kernel
theorem dX12_goJoy_7 : decode cX12_goJoy 7 = .ok (.iload_n 1, 1) := by decide +kernel
theorem dX12_goJoy_8 : decode cX12_goJoy 8 = .ok (.invokevirtual 276, 3) := by decide +kernel
theorem dX12_goJoy_11 : decode cX12_goJoy 11 = .ok (.ifCond .eq 20, 3) := by decide +kernel
theorem dX12_goJoy_14 : decode cX12_goJoy 14 = .ok (.iload_n 2, 1) := by decide +kernel
theorem dX12_goJoy_15 : decode cX12_goJoy 15 = .ok (.ifCond .eq 65, 3) := by decide +kernel
theorem dX12_goJoy_18 : decode cX12_goJoy 18 = .ok (.aload_n 0, 1) := by decide +kernel
theorem dX12_goJoy_19 : decode cX12_goJoy 19 = .ok (.getfield 81, 3) := by decide +kernel
theorem dX12_goJoy_22 : decode cX12_goJoy 22 = .ok (.iload_n 1, 1) := by decide +kernel
theorem dX12_goJoy_23 : decode cX12_goJoy 23 = .ok (.dup2, 1) := by decide +kernel
theorem dX12_goJoy_24 : decode cX12_goJoy 24 = .ok (.iaload, 1) := by decide +kernel
theorem dX12_goJoy_25 : decode cX12_goJoy 25 = .ok (.iconst 1, 1) := by decide +kernel
theorem dX12_goJoy_26 : decode cX12_goJoy 26 = .ok (.iadd, 1) := by decide +kernel
theorem dX12_goJoy_27 : decode cX12_goJoy 27 = .ok (.iastore, 1) := by decide +kernel
theorem dX12_goJoy_28 : decode cX12_goJoy 28 = .ok (.goto 52, 3) := by decide +kernel
theorem dX12_goJoy_31 : decode cX12_goJoy 31 = .ok (.aload_n 0, 1) := by decide +kernel
theorem dX12_goJoy_32 : decode cX12_goJoy 32 = .ok (.iload_n 1, 1) := by decide +kernel
theorem dX12_goJoy_33 : decode cX12_goJoy 33 = .ok (.invokevirtual 279, 3) := by decide +kernel
theorem dX12_goJoy_36 : decode cX12_goJoy 36 = .ok (.ifCond .eq 44, 3) := by decide +kernel
theorem dX12_goJoy_39 : decode cX12_goJoy 39 = .ok (.iload_n 2, 1) := by decide +kernel
theorem dX12_goJoy_40 : decode cX12_goJoy 40 = .ok (.ifCond .eq 13, 3) := by decide +kernel
theorem dX12_goJoy_43 : decode cX12_goJoy 43 = .ok (.aload_n 0, 1) := by decide +kernel
theorem dX12_goJoy_44 : decode cX12_goJoy 44 = .ok (.getfield 81, 3) := by decide +kernel
theorem dX12_goJoy_47 : decode cX12_goJoy 47 = .ok (.iload_n 1, 1) := by decide +kernel
theorem dX12_goJoy_48 : decode cX12_goJoy 48 = .ok (.iconst 1, 1) := by decide +kernel
theorem dX12_goJoy_49 : decode cX12_goJoy 49 = .ok (.iastore, 1) := by decide +kernel
theorem dX12_goJoy_50 : decode cX12_goJoy 50 = .ok (.goto 30, 3) := by decide +kernel
theorem dX12_goJoy_53 : decode cX12_goJoy 53 = .ok (.aload_n 0, 1) := by decide +kernel
theorem dX12_goJoy_54 : decode cX12_goJoy 54 = .ok (.getfield 258, 3) := by decide +kernel
theorem dX12_goJoy_57 : decode cX12_goJoy 57 = .ok (.aload_n 0, 1) := by decide +kernel
theorem dX12_goJoy_58 : decode cX12_goJoy 58 = .ok (.getfield 16, 3) := by decide +kernel
theorem dX12_goJoy_61 : decode cX12_goJoy 61 = .ok (.iload_n 1, 1) := by decide +kernel
theorem dX12_goJoy_62 : decode cX12_goJoy 62 = .ok (.iaload, 1) := by decide +kernel
theorem dX12_goJoy_63 : decode cX12_goJoy 63 = .ok (.aload_n 0, 1) := by decide +kernel
theorem dX12_goJoy_64 : decode cX12_goJoy 64 = .ok (.getfield 22, 3) := by decide +kernel
theorem dX12_goJoy_67 : decode cX12_goJoy 67 = .ok (.iload_n 1, 1) := by decide +kernel
theorem dX12_goJoy_68 : decode cX12_goJoy 68 = .ok (.iaload, 1) := by decide +kernel
theorem dX12_goJoy_69 : decode cX12_goJoy 69 = .ok (.iadd, 1) := by decide +kernel
theorem dX12_goJoy_70 : decode cX12_goJoy 70 = .ok (.if_icmp .lt 10, 3) := by decide +kernel
theorem dX12_goJoy_73 : decode cX12_goJoy 73 = .ok (.aload_n 0, 1) := by decide +kernel
theorem dX12_goJoy_74 : decode cX12_goJoy 74 = .ok (.getfield 84, 3) := by decide +kernel
theorem dX12_goJoy_77 : decode cX12_goJoy 77 = .ok (.iload_n 1, 1) := by decide +kernel
theorem dX12_goJoy_78 : decode cX12_goJoy 78 = .ok (.iconst 1, 1) := by decide +kernel
theorem dX12_goJoy_79 : decode cX12_goJoy 79 = .ok (.iastore, 1) := by decide +kernel
theorem dX12_goJoy_80 : decode cX12_goJoy 80 = .ok (.return_, 1) := by decide +kernel
theorem dX12_goDay_0 : decode cX12_goDay 0 = .ok (.aload_n 0, 1) := by decide +kernel
theorem dX12_goDay_1 : decode cX12_goDay 1 = .ok (.getfield 258, 3) := by decide +kernel
theorem dX12_goDay_4 : decode cX12_goDay 4 = .ok (.ifCond .le 21, 3) := by decide +kernel
theorem dX12_goDay_7 : decode cX12_goDay 7 = .ok (.aload_n 0, 1) := by decide +kernel
theorem dX12_goDay_8 : decode cX12_goDay 8 = .ok (.getfield 258, 3) := by decide +kernel
theorem dX12_goDay_11 : decode cX12_goDay 11 = .ok (.aload_n 0, 1) := by decide +kernel
theorem dX12_goDay_12 : decode cX12_goDay 12 = .ok (.getfield 37, 3) := by decide +kernel
theorem dX12_goDay_15 : decode cX12_goDay 15 = .ok (.iconst 1, 1) := by decide +kernel
theorem dX12_goDay_16 : decode cX12_goDay 16 = .ok (.iaload, 1) := by decide +kernel
theorem dX12_goDay_17 : decode cX12_goDay 17 = .ok (.irem, 1) := by decide +kernel
theorem dX12_goDay_18 : decode cX12_goDay 18 = .ok (.ifCond .ne 7, 3) := by decide +kernel
theorem dX12_goDay_21 : decode cX12_goDay 21 = .ok (.aload_n 0, 1) := by decide +kernel
theorem dX12_goDay_22 : decode cX12_goDay 22 = .ok (.invokevirtual 282, 3) := by decide +kernel
theorem dX12_goDay_25 : decode cX12_goDay 25 = .ok (.iconst 0, 1) := by decide +kernel
theorem dX12_goDay_26 : decode cX12_goDay 26 = .ok (.istore_n 1, 1) := by decide +kernel
theorem dX12_goDay_27 : decode cX12_goDay 27 = .ok (.iload_n 1, 1) := by decide +kernel
theorem dX12_goDay_28 : decode cX12_goDay 28 = .ok (.aload_n 0, 1) := by decide +kernel
theorem dX12_goDay_29 : decode cX12_goDay 29 = .ok (.getfield 135, 3) := by decide +kernel
theorem dX12_goDay_32 : decode cX12_goDay 32 = .ok (.if_icmp .ge 14, 3) := by decide +kernel
theorem dX12_goDay_35 : decode cX12_goDay 35 = .ok (.aload_n 0, 1) := by decide +kernel
theorem dX12_goDay_36 : decode cX12_goDay 36 = .ok (.iload_n 1, 1) := by decide +kernel
theorem dX12_goDay_37 : decode cX12_goDay 37 = .ok (.invokevirtual 285, 3) := by decide +kernel
theorem dX12_goDay_40 : decode cX12_goDay 40 = .ok (.iinc 1 1, 3) := by decide +kernel
theorem dX12_goDay_43 : decode cX12_goDay 43 = .ok (.goto (-16), 3) := by decide +kernel
theorem dX12_goDay_46 : decode cX12_goDay 46 = .ok (.aload_n 0, 1) := by decide +kernel
theorem dX12_goDay_47 : decode cX12_goDay 47 = .ok (.getfield 258, 3) := by decide +kernel
theorem dX12_goDay_50 : decode cX12_goDay 50 = .ok (.sipush 199, 3) := by decide +kernel
theorem dX12_goDay_53 : decode cX12_goDay 53 = .ok (.if_icmp .ge 13, 3) := by decide +kernel
theorem dX12_goDay_56 : decode cX12_goDay 56 = .ok (.aload_n 0, 1) := by decide +kernel
theorem dX12_goDay_57 : decode cX12_goDay 57 = .ok (.dup, 1) := by decide +kernel
theorem dX12_goDay_58 : decode cX12_goDay 58 = .ok (.getfield 258, 3) := by decide +kernel
theorem dX12_goDay_61 : decode cX12_goDay 61 = .ok (.iconst 1, 1) := by decide +kernel
theorem dX12_goDay_62 : decode cX12_goDay 62 = .ok (.iadd, 1) := by decide +kernel
theorem dX12_goDay_63 : decode cX12_goDay 63 = .ok (.putfield 258, 3) := by decide +kernel
theorem dX12_goDay_66 : decode cX12_goDay 66 = .ok (.return_, 1) := by decide +kernel
theorem dX12_joysBy_0 : decode cX12_joysBy 0 = .ok (.iconst 0, 1) := by decide +kernel
theorem dX12_joysBy_1 : decode cX12_joysBy 1 = .ok (.istore_n 2, 1) := by decide +kernel
theorem dX12_joysBy_2 : decode cX12_joysBy 2 = .ok (.iconst 0, 1) := by decide +kernel
theorem dX12_joysBy_3 : decode cX12_joysBy 3 = .ok (.istore_n 3, 1) := by decide +kernel
theorem dX12_joysBy_4 : decode cX12_joysBy 4 = .ok (.iload_n 3, 1) := by decide +kernel
theorem dX12_joysBy_5 : decode cX12_joysBy 5 = .ok (.aload_n 0, 1) := by decide +kernel
theorem dX12_joysBy_6 : decode cX12_joysBy 6 = .ok (.getfield 135, 3) := by decide +kernel
theorem dX12_joysBy_9 : decode cX12_joysBy 9 = .ok (.if_icmp .ge 72, 3) := by decide +kernel
theorem dX12_joysBy_12 : decode cX12_joysBy 12 = .ok (.iload_n 1, 1) := by decide +kernel
theorem dX12_joysBy_13 : decode cX12_joysBy 13 = .ok (.ifCond .ne 14, 3) := by decide +kernel
theorem dX12_joysBy_16 : decode cX12_joysBy 16 = .ok (.aload_n 0, 1) := by decide +kernel
theorem dX12_joysBy_17 : decode cX12_joysBy 17 = .ok (.iload_n 3, 1) := by decide +kernel
theorem dX12_joysBy_18 : decode cX12_joysBy 18 = .ok (.invokevirtual 279, 3) := by decide +kernel
theorem dX12_joysBy_21 : decode cX12_joysBy 21 = .ok (.ifCond .eq 54, 3) := by decide +kernel
theorem dX12_joysBy_24 : decode cX12_joysBy 24 = .ok (.goto 45, 3) := by decide +kernel
theorem dX12_joysBy_27 : decode cX12_joysBy 27 = .ok (.iload_n 1, 1) := by decide +kernel
theorem dX12_joysBy_28 : decode cX12_joysBy 28 = .ok (.iconst 1, 1) := by decide +kernel
theorem dX12_joysBy_29 : decode cX12_joysBy 29 = .ok (.if_icmp .ne 14, 3) := by decide +kernel
theorem dX12_joysBy_32 : decode cX12_joysBy 32 = .ok (.aload_n 0, 1) := by decide +kernel
theorem dX12_joysBy_33 : decode cX12_joysBy 33 = .ok (.iload_n 3, 1) := by decide +kernel
theorem dX12_joysBy_34 : decode cX12_joysBy 34 = .ok (.invokevirtual 276, 3) := by decide +kernel
theorem dX12_joysBy_37 : decode cX12_joysBy 37 = .ok (.ifCond .eq 38, 3) := by decide +kernel
theorem dX12_joysBy_40 : decode cX12_joysBy 40 = .ok (.goto 29, 3) := by decide +kernel
theorem dX12_joysBy_43 : decode cX12_joysBy 43 = .ok (.iload_n 1, 1) := by decide +kernel
theorem dX12_joysBy_44 : decode cX12_joysBy 44 = .ok (.iconst 2, 1) := by decide +kernel
theorem dX12_joysBy_45 : decode cX12_joysBy 45 = .ok (.if_icmp .ne 14, 3) := by decide +kernel
theorem dX12_joysBy_48 : decode cX12_joysBy 48 = .ok (.aload_n 0, 1) := by decide +kernel
theorem dX12_joysBy_49 : decode cX12_joysBy 49 = .ok (.iload_n 3, 1) := by decide +kernel
theorem dX12_joysBy_50 : decode cX12_joysBy 50 = .ok (.invokevirtual 289, 3) := by decide +kernel
theorem dX12_joysBy_53 : decode cX12_joysBy 53 = .ok (.ifCond .eq 22, 3) := by decide +kernel
theorem dX12_joysBy_56 : decode cX12_joysBy 56 = .ok (.goto 13, 3) := by decide +kernel
theorem dX12_joysBy_59 : decode cX12_joysBy 59 = .ok (.aload_n 0, 1) := by decide +kernel
theorem dX12_joysBy_60 : decode cX12_joysBy 60 = .ok (.getfield 84, 3) := by decide +kernel
theorem dX12_joysBy_63 : decode cX12_joysBy 63 = .ok (.iload_n 3, 1) := by decide +kernel
theorem dX12_joysBy_64 : decode cX12_joysBy 64 = .ok (.iaload, 1) := by decide +kernel
theorem dX12_joysBy_65 : decode cX12_joysBy 65 = .ok (.iconst 1, 1) := by decide +kernel
theorem dX12_joysBy_66 : decode cX12_joysBy 66 = .ok (.if_icmp .ne 9, 3) := by decide +kernel
theorem dX12_joysBy_69 : decode cX12_joysBy 69 = .ok (.iload_n 2, 1) := by decide +kernel
theorem dX12_joysBy_70 : decode cX12_joysBy 70 = .ok (.iconst 1, 1) := by decide +kernel
theorem dX12_joysBy_71 : decode cX12_joysBy 71 = .ok (.iload_n 3, 1) := by decide +kernel
theorem dX12_joysBy_72 : decode cX12_joysBy 72 = .ok (.ishl, 1) := by decide +kernel
theorem dX12_joysBy_73 : decode cX12_joysBy 73 = .ok (.ior, 1) := by decide +kernel
theorem dX12_joysBy_74 : decode cX12_joysBy 74 = .ok (.istore_n 2, 1) := by decide +kernel
theorem dX12_joysBy_75 : decode cX12_joysBy 75 = .ok (.iinc 3 1, 3) := by decide +kernel
theorem dX12_joysBy_78 : decode cX12_joysBy 78 = .ok (.goto (-74), 3) := by decide +kernel
theorem dX12_joysBy_81 : decode cX12_joysBy 81 = .ok (.iload_n 2, 1) := by decide +kernel
theorem dX12_joysBy_82 : decode cX12_joysBy 82 = .ok (.ireturn, 1) := by decide +kernel
theorem dX12_gladPeople_0 : decode cX12_gladPeople 0 = .ok (.iconst 0, 1) := by decide +kernel
theorem dX12_gladPeople_1 : decode cX12_gladPeople 1 = .ok (.istore_n 1, 1) := by decide +kernel
theorem dX12_gladPeople_2 : decode cX12_gladPeople 2 = .ok (.iconst 0, 1) := by decide +kernel
theorem dX12_gladPeople_3 : decode cX12_gladPeople 3 = .ok (.istore_n 2, 1) := by decide +kernel
theorem dX12_gladPeople_4 : decode cX12_gladPeople 4 = .ok (.iload_n 2, 1) := by decide +kernel
theorem dX12_gladPeople_5 : decode cX12_gladPeople 5 = .ok (.aload_n 0, 1) := by decide +kernel
theorem dX12_gladPeople_6 : decode cX12_gladPeople 6 = .ok (.getfield 135, 3) := by decide +kernel
theorem dX12_gladPeople_9 : decode cX12_gladPeople 9 = .ok (.if_icmp .ge 36, 3) := by decide +kernel
theorem dX12_gladPeople_12 : decode cX12_gladPeople 12 = .ok (.aload_n 0, 1) := by decide +kernel
theorem dX12_gladPeople_13 : decode cX12_gladPeople 13 = .ok (.iload_n 2, 1) := by decide +kernel
theorem dX12_gladPeople_14 : decode cX12_gladPeople 14 = .ok (.invokevirtual 276, 3) := by decide +kernel
theorem dX12_gladPeople_17 : decode cX12_gladPeople 17 = .ok (.ifCond .eq 22, 3) := by decide +kernel
theorem dX12_gladPeople_20 : decode cX12_gladPeople 20 = .ok (.aload_n 0, 1) := by decide +kernel
theorem dX12_gladPeople_21 : decode cX12_gladPeople 21 = .ok (.iload_n 2, 1) := by decide +kernel
theorem dX12_gladPeople_22 : decode cX12_gladPeople 22 = .ok (.invokevirtual 273, 3) := by decide +kernel
theorem dX12_gladPeople_25 : decode cX12_gladPeople 25 = .ok (.ifCond .eq 14, 3) := by decide +kernel
theorem dX12_gladPeople_28 : decode cX12_gladPeople 28 = .ok (.iload_n 1, 1) := by decide +kernel
theorem dX12_gladPeople_29 : decode cX12_gladPeople 29 = .ok (.iconst 1, 1) := by decide +kernel
theorem dX12_gladPeople_30 : decode cX12_gladPeople 30 = .ok (.aload_n 0, 1) := by decide +kernel
theorem dX12_gladPeople_31 : decode cX12_gladPeople 31 = .ok (.getfield 13, 3) := by decide +kernel
theorem dX12_gladPeople_34 : decode cX12_gladPeople 34 = .ok (.iload_n 2, 1) := by decide +kernel
theorem dX12_gladPeople_35 : decode cX12_gladPeople 35 = .ok (.iaload, 1) := by decide +kernel
theorem dX12_gladPeople_36 : decode cX12_gladPeople 36 = .ok (.ishl, 1) := by decide +kernel
theorem dX12_gladPeople_37 : decode cX12_gladPeople 37 = .ok (.ior, 1) := by decide +kernel
theorem dX12_gladPeople_38 : decode cX12_gladPeople 38 = .ok (.istore_n 1, 1) := by decide +kernel
theorem dX12_gladPeople_39 : decode cX12_gladPeople 39 = .ok (.iinc 2 1, 3) := by decide +kernel
theorem dX12_gladPeople_42 : decode cX12_gladPeople 42 = .ok (.goto (-38), 3) := by decide +kernel
theorem dX12_gladPeople_45 : decode cX12_gladPeople 45 = .ok (.iload_n 1, 1) := by decide +kernel
theorem dX12_gladPeople_46 : decode cX12_gladPeople 46 = .ok (.ireturn, 1) := by decide +kernel
theorem dX12_worthsOf_0 : decode cX12_worthsOf 0 = .ok (.iconst 0, 1) := by decide +kernel
theorem dX12_worthsOf_1 : decode cX12_worthsOf 1 = .ok (.istore_n 2, 1) := by decide +kernel
theorem dX12_worthsOf_2 : decode cX12_worthsOf 2 = .ok (.iconst 0, 1) := by decide +kernel
theorem dX12_worthsOf_3 : decode cX12_worthsOf 3 = .ok (.istore_n 3, 1) := by decide +kernel
theorem dX12_worthsOf_4 : decode cX12_worthsOf 4 = .ok (.iload_n 3, 1) := by decide +kernel
theorem dX12_worthsOf_5 : decode cX12_worthsOf 5 = .ok (.aload_n 0, 1) := by decide +kernel
theorem dX12_worthsOf_6 : decode cX12_worthsOf 6 = .ok (.getfield 135, 3) := by decide +kernel
theorem dX12_worthsOf_9 : decode cX12_worthsOf 9 = .ok (.if_icmp .ge 26, 3) := by decide +kernel
theorem dX12_worthsOf_12 : decode cX12_worthsOf 12 = .ok (.iload_n 1, 1) := by decide +kernel
theorem dX12_worthsOf_13 : decode cX12_worthsOf 13 = .ok (.iload_n 3, 1) := by decide +kernel
theorem dX12_worthsOf_14 : decode cX12_worthsOf 14 = .ok (.invokestatic 292, 3) := by decide +kernel
theorem dX12_worthsOf_17 : decode cX12_worthsOf 17 = .ok (.ifCond .eq 12, 3) := by decide +kernel
theorem dX12_worthsOf_20 : decode cX12_worthsOf 20 = .ok (.iload_n 2, 1) := by decide +kernel
theorem dX12_worthsOf_21 : decode cX12_worthsOf 21 = .ok (.aload_n 0, 1) := by decide +kernel
theorem dX12_worthsOf_22 : decode cX12_worthsOf 22 = .ok (.getfield 25, 3) := by decide +kernel
theorem dX12_worthsOf_25 : decode cX12_worthsOf 25 = .ok (.iload_n 3, 1) := by decide +kernel
theorem dX12_worthsOf_26 : decode cX12_worthsOf 26 = .ok (.iaload, 1) := by decide +kernel
theorem dX12_worthsOf_27 : decode cX12_worthsOf 27 = .ok (.iadd, 1) := by decide +kernel
theorem dX12_worthsOf_28 : decode cX12_worthsOf 28 = .ok (.istore_n 2, 1) := by decide +kernel
theorem dX12_worthsOf_29 : decode cX12_worthsOf 29 = .ok (.iinc 3 1, 3) := by decide +kernel
theorem dX12_worthsOf_32 : decode cX12_worthsOf 32 = .ok (.goto (-28), 3) := by decide +kernel
theorem dX12_worthsOf_35 : decode cX12_worthsOf 35 = .ok (.iload_n 2, 1) := by decide +kernel
theorem dX12_worthsOf_36 : decode cX12_worthsOf 36 = .ok (.ireturn, 1) := by decide +kernel
theorem dX12_othersRun_0 : decode cX12_othersRun 0 = .ok (.iconst 0, 1) := by decide +kernel
theorem dX12_othersRun_1 : decode cX12_othersRun 1 = .ok (.istore_n 2, 1) := by decide +kernel
theorem dX12_othersRun_2 : decode cX12_othersRun 2 = .ok (.iconst 0, 1) := by decide +kernel
theorem dX12_othersRun_3 : decode cX12_othersRun 3 = .ok (.istore_n 3, 1) := by decide +kernel
theorem dX12_othersRun_4 : decode cX12_othersRun 4 = .ok (.iload_n 3, 1) := by decide +kernel
theorem dX12_othersRun_5 : decode cX12_othersRun 5 = .ok (.aload_n 0, 1) := by decide +kernel
theorem dX12_othersRun_6 : decode cX12_othersRun 6 = .ok (.getfield 135, 3) := by decide +kernel
theorem dX12_othersRun_9 : decode cX12_othersRun 9 = .ok (.if_icmp .ge 38, 3) := by decide +kernel
theorem dX12_othersRun_12 : decode cX12_othersRun 12 = .ok (.iload_n 3, 1) := by decide +kernel
theorem dX12_othersRun_13 : decode cX12_othersRun 13 = .ok (.iload_n 1, 1) := by decide +kernel
theorem dX12_othersRun_14 : decode cX12_othersRun 14 = .ok (.if_icmp .eq 27, 3) := by decide +kernel
theorem dX12_othersRun_17 : decode cX12_othersRun 17 = .ok (.aload_n 0, 1) := by decide +kernel
theorem dX12_othersRun_18 : decode cX12_othersRun 18 = .ok (.iload_n 3, 1) := by decide +kernel
theorem dX12_othersRun_19 : decode cX12_othersRun 19 = .ok (.invokevirtual 276, 3) := by decide +kernel
theorem dX12_othersRun_22 : decode cX12_othersRun 22 = .ok (.ifCond .eq 19, 3) := by decide +kernel
theorem dX12_othersRun_25 : decode cX12_othersRun 25 = .ok (.aload_n 0, 1) := by decide +kernel
theorem dX12_othersRun_26 : decode cX12_othersRun 26 = .ok (.iload_n 3, 1) := by decide +kernel
theorem dX12_othersRun_27 : decode cX12_othersRun 27 = .ok (.invokevirtual 267, 3) := by decide +kernel
theorem dX12_othersRun_30 : decode cX12_othersRun 30 = .ok (.aload_n 0, 1) := by decide +kernel
theorem dX12_othersRun_31 : decode cX12_othersRun 31 = .ok (.iload_n 1, 1) := by decide +kernel
theorem dX12_othersRun_32 : decode cX12_othersRun 32 = .ok (.invokevirtual 267, 3) := by decide +kernel
theorem dX12_othersRun_35 : decode cX12_othersRun 35 = .ok (.if_icmp .ne 6, 3) := by decide +kernel
theorem dX12_othersRun_38 : decode cX12_othersRun 38 = .ok (.iinc 2 1, 3) := by decide +kernel
theorem dX12_othersRun_41 : decode cX12_othersRun 41 = .ok (.iinc 3 1, 3) := by decide +kernel
theorem dX12_othersRun_44 : decode cX12_othersRun 44 = .ok (.goto (-40), 3) := by decide +kernel
theorem dX12_othersRun_47 : decode cX12_othersRun 47 = .ok (.iload_n 2, 1) := by decide +kernel
theorem dX12_othersRun_48 : decode cX12_othersRun 48 = .ok (.ireturn, 1) := by decide +kernel
theorem dX12_apartBy_0 : decode cX12_apartBy 0 = .ok (.iload_n 0, 1) := by decide +kernel
theorem dX12_apartBy_1 : decode cX12_apartBy 1 = .ok (.iconst 2, 1) := by decide +kernel
theorem dX12_apartBy_2 : decode cX12_apartBy 2 = .ok (.idiv, 1) := by decide +kernel
theorem dX12_apartBy_3 : decode cX12_apartBy 3 = .ok (.iload_n 1, 1) := by decide +kernel
theorem dX12_apartBy_4 : decode cX12_apartBy 4 = .ok (.iconst 2, 1) := by decide +kernel
theorem dX12_apartBy_5 : decode cX12_apartBy 5 = .ok (.idiv, 1) := by decide +kernel
theorem dX12_apartBy_6 : decode cX12_apartBy 6 = .ok (.if_icmp .le 13, 3) := by decide +kernel
theorem dX12_apartBy_9 : decode cX12_apartBy 9 = .ok (.iload_n 0, 1) := by decide +kernel
theorem dX12_apartBy_10 : decode cX12_apartBy 10 = .ok (.iconst 2, 1) := by decide +kernel
theorem dX12_apartBy_11 : decode cX12_apartBy 11 = .ok (.idiv, 1) := by decide +kernel
theorem dX12_apartBy_12 : decode cX12_apartBy 12 = .ok (.iload_n 1, 1) := by decide +kernel
theorem dX12_apartBy_13 : decode cX12_apartBy 13 = .ok (.iconst 2, 1) := by decide +kernel
theorem dX12_apartBy_14 : decode cX12_apartBy 14 = .ok (.idiv, 1) := by decide +kernel
theorem dX12_apartBy_15 : decode cX12_apartBy 15 = .ok (.isub, 1) := by decide +kernel
theorem dX12_apartBy_16 : decode cX12_apartBy 16 = .ok (.goto 10, 3) := by decide +kernel
theorem dX12_apartBy_19 : decode cX12_apartBy 19 = .ok (.iload_n 1, 1) := by decide +kernel
theorem dX12_apartBy_20 : decode cX12_apartBy 20 = .ok (.iconst 2, 1) := by decide +kernel
theorem dX12_apartBy_21 : decode cX12_apartBy 21 = .ok (.idiv, 1) := by decide +kernel
theorem dX12_apartBy_22 : decode cX12_apartBy 22 = .ok (.iload_n 0, 1) := by decide +kernel
theorem dX12_apartBy_23 : decode cX12_apartBy 23 = .ok (.iconst 2, 1) := by decide +kernel
theorem dX12_apartBy_24 : decode cX12_apartBy 24 = .ok (.idiv, 1) := by decide +kernel
theorem dX12_apartBy_25 : decode cX12_apartBy 25 = .ok (.isub, 1) := by decide +kernel
theorem dX12_apartBy_26 : decode cX12_apartBy 26 = .ok (.ireturn, 1) := by decide +kernel
theorem dX12_overBy_0 : decode cX12_overBy 0 = .ok (.aload_n 0, 1) := by decide +kernel
theorem dX12_overBy_1 : decode cX12_overBy 1 = .ok (.iload_n 1, 1) := by decide +kernel
theorem dX12_overBy_2 : decode cX12_overBy 2 = .ok (.invokevirtual 267, 3) := by decide +kernel
theorem dX12_overBy_5 : decode cX12_overBy 5 = .ok (.iload_n 2, 1) := by decide +kernel
theorem dX12_overBy_6 : decode cX12_overBy 6 = .ok (.invokestatic 295, 3) := by decide +kernel
theorem dX12_overBy_9 : decode cX12_overBy 9 = .ok (.istore_n 3, 1) := by decide +kernel
theorem dX12_overBy_10 : decode cX12_overBy 10 = .ok (.aload_n 0, 1) := by decide +kernel
theorem dX12_overBy_11 : decode cX12_overBy 11 = .ok (.getfield 25, 3) := by decide +kernel
theorem dX12_overBy_14 : decode cX12_overBy 14 = .ok (.iload_n 1, 1) := by decide +kernel
theorem dX12_overBy_15 : decode cX12_overBy 15 = .ok (.iaload, 1) := by decide +kernel
theorem dX12_overBy_16 : decode cX12_overBy 16 = .ok (.aload_n 0, 1) := by decide +kernel
theorem dX12_overBy_17 : decode cX12_overBy 17 = .ok (.iload_n 1, 1) := by decide +kernel
theorem dX12_overBy_18 : decode cX12_overBy 18 = .ok (.invokevirtual 298, 3) := by decide +kernel
theorem dX12_overBy_21 : decode cX12_overBy 21 = .ok (.iadd, 1) := by decide +kernel
theorem dX12_overBy_22 : decode cX12_overBy 22 = .ok (.iconst 2, 1) := by decide +kernel
theorem dX12_overBy_23 : decode cX12_overBy 23 = .ok (.iload_n 3, 1) := by decide +kernel
theorem dX12_overBy_24 : decode cX12_overBy 24 = .ok (.imul, 1) := by decide +kernel
theorem dX12_overBy_25 : decode cX12_overBy 25 = .ok (.isub, 1) := by decide +kernel
theorem dX12_overBy_26 : decode cX12_overBy 26 = .ok (.istore 4, 2) := by decide +kernel
theorem dX12_overBy_28 : decode cX12_overBy 28 = .ok (.aload_n 0, 1) := by decide +kernel
theorem dX12_overBy_29 : decode cX12_overBy 29 = .ok (.getfield 251, 3) := by decide +kernel
theorem dX12_overBy_32 : decode cX12_overBy 32 = .ok (.ifCond .eq 74, 3) := by decide +kernel
theorem dX12_overBy_35 : decode cX12_overBy 35 = .ok (.aload_n 0, 1) := by decide +kernel
theorem dX12_overBy_36 : decode cX12_overBy 36 = .ok (.getfield 72, 3) := by decide +kernel
theorem dX12_overBy_39 : decode cX12_overBy 39 = .ok (.iconst 0, 1) := by decide +kernel
theorem dX12_overBy_40 : decode cX12_overBy 40 = .ok (.aload_n 0, 1) := by decide +kernel
theorem dX12_overBy_41 : decode cX12_overBy 41 = .ok (.getfield 25, 3) := by decide +kernel
theorem dX12_overBy_44 : decode cX12_overBy 44 = .ok (.iload_n 1, 1) := by decide +kernel
theorem dX12_overBy_45 : decode cX12_overBy 45 = .ok (.iaload, 1) := by decide +kernel
theorem dX12_overBy_46 : decode cX12_overBy 46 = .ok (.iastore, 1) := by decide +kernel
theorem dX12_overBy_47 : decode cX12_overBy 47 = .ok (.aload_n 0, 1) := by decide +kernel
theorem dX12_overBy_48 : decode cX12_overBy 48 = .ok (.getfield 72, 3) := by decide +kernel
theorem dX12_overBy_51 : decode cX12_overBy 51 = .ok (.iconst 1, 1) := by decide +kernel
theorem dX12_overBy_52 : decode cX12_overBy 52 = .ok (.iload_n 3, 1) := by decide +kernel
theorem dX12_overBy_53 : decode cX12_overBy 53 = .ok (.iastore, 1) := by decide +kernel
theorem dX12_overBy_54 : decode cX12_overBy 54 = .ok (.aload_n 0, 1) := by decide +kernel
theorem dX12_overBy_55 : decode cX12_overBy 55 = .ok (.getfield 72, 3) := by decide +kernel
theorem dX12_overBy_58 : decode cX12_overBy 58 = .ok (.iconst 2, 1) := by decide +kernel
theorem dX12_overBy_59 : decode cX12_overBy 59 = .ok (.aload_n 0, 1) := by decide +kernel
theorem dX12_overBy_60 : decode cX12_overBy 60 = .ok (.getfield 19, 3) := by decide +kernel
theorem dX12_overBy_63 : decode cX12_overBy 63 = .ok (.iload_n 1, 1) := by decide +kernel
theorem dX12_overBy_64 : decode cX12_overBy 64 = .ok (.iaload, 1) := by decide +kernel
theorem dX12_overBy_65 : decode cX12_overBy 65 = .ok (.iastore, 1) := by decide +kernel
theorem dX12_overBy_66 : decode cX12_overBy 66 = .ok (.aload_n 0, 1) := by decide +kernel
theorem dX12_overBy_67 : decode cX12_overBy 67 = .ok (.getfield 72, 3) := by decide +kernel
theorem dX12_overBy_70 : decode cX12_overBy 70 = .ok (.iconst 3, 1) := by decide +kernel
theorem dX12_overBy_71 : decode cX12_overBy 71 = .ok (.aload_n 0, 1) := by decide +kernel
theorem dX12_overBy_72 : decode cX12_overBy 72 = .ok (.iload_n 1, 1) := by decide +kernel
theorem dX12_overBy_73 : decode cX12_overBy 73 = .ok (.invokevirtual 298, 3) := by decide +kernel
theorem dX12_overBy_76 : decode cX12_overBy 76 = .ok (.iastore, 1) := by decide +kernel
theorem dX12_overBy_77 : decode cX12_overBy 77 = .ok (.aload_n 0, 1) := by decide +kernel
theorem dX12_overBy_78 : decode cX12_overBy 78 = .ok (.getfield 72, 3) := by decide +kernel
theorem dX12_overBy_81 : decode cX12_overBy 81 = .ok (.iconst 4, 1) := by decide +kernel
theorem dX12_overBy_82 : decode cX12_overBy 82 = .ok (.aload_n 0, 1) := by decide +kernel
theorem dX12_overBy_83 : decode cX12_overBy 83 = .ok (.getfield 28, 3) := by decide +kernel
theorem dX12_overBy_86 : decode cX12_overBy 86 = .ok (.iload_n 1, 1) := by decide +kernel
theorem dX12_overBy_87 : decode cX12_overBy 87 = .ok (.iaload, 1) := by decide +kernel
theorem dX12_overBy_88 : decode cX12_overBy 88 = .ok (.iastore, 1) := by decide +kernel
theorem dX12_overBy_89 : decode cX12_overBy 89 = .ok (.aload_n 0, 1) := by decide +kernel
theorem dX12_overBy_90 : decode cX12_overBy 90 = .ok (.getfield 72, 3) := by decide +kernel
theorem dX12_overBy_93 : decode cX12_overBy 93 = .ok (.iconst 5, 1) := by decide +kernel
theorem dX12_overBy_94 : decode cX12_overBy 94 = .ok (.aload_n 0, 1) := by decide +kernel
theorem dX12_overBy_95 : decode cX12_overBy 95 = .ok (.getfield 258, 3) := by decide +kernel
theorem dX12_overBy_98 : decode cX12_overBy 98 = .ok (.iastore, 1) := by decide +kernel
theorem dX12_overBy_99 : decode cX12_overBy 99 = .ok (.aload_n 0, 1) := by decide +kernel
theorem dX12_overBy_100 : decode cX12_overBy 100 = .ok (.iconst 0, 1) := by decide +kernel
theorem dX12_overBy_101 : decode cX12_overBy 101 = .ok (.invokevirtual 301, 3) := by decide +kernel
theorem dX12_overBy_104 : decode cX12_overBy 104 = .ok (.istore 4, 2) := by decide +kernel
theorem dX12_overBy_106 : decode cX12_overBy 106 = .ok (.iload 4, 2) := by decide +kernel
theorem dX12_overBy_108 : decode cX12_overBy 108 = .ok (.ifCond .ge 7, 3) := by decide +kernel
theorem dX12_overBy_111 : decode cX12_overBy 111 = .ok (.iconst 0, 1) := by decide +kernel
theorem dX12_overBy_112 : decode cX12_overBy 112 = .ok (.goto 17, 3) := by decide +kernel
theorem dX12_overBy_115 : decode cX12_overBy 115 = .ok (.iload 4, 2) := by decide +kernel
theorem dX12_overBy_117 : decode cX12_overBy 117 = .ok (.bipush 9, 2) := by decide +kernel
theorem dX12_overBy_119 : decode cX12_overBy 119 = .ok (.if_icmp .le 8, 3) := by decide +kernel
theorem dX12_overBy_122 : decode cX12_overBy 122 = .ok (.bipush 9, 2) := by decide +kernel
theorem dX12_overBy_124 : decode cX12_overBy 124 = .ok (.goto 5, 3) := by decide +kernel
theorem dX12_overBy_127 : decode cX12_overBy 127 = .ok (.iload 4, 2) := by decide +kernel
theorem dX12_overBy_129 : decode cX12_overBy 129 = .ok (.ireturn, 1) := by decide +kernel
theorem dX12_smell_0 : decode cX12_smell 0 = .ok (.aload_n 0, 1) := by decide +kernel
theorem dX12_smell_1 : decode cX12_smell 1 = .ok (.iload_n 1, 1) := by decide +kernel
theorem dX12_smell_2 : decode cX12_smell 2 = .ok (.invokevirtual 168, 3) := by decide +kernel
theorem dX12_smell_5 : decode cX12_smell 5 = .ok (.ifCond .eq 10, 3) := by decide +kernel
theorem dX12_smell_8 : decode cX12_smell 8 = .ok (.iload_n 2, 1) := by decide +kernel
theorem dX12_smell_9 : decode cX12_smell 9 = .ok (.invokestatic 138, 3) := by decide +kernel
theorem dX12_smell_12 : decode cX12_smell 12 = .ok (.ifCond .ne 5, 3) := by decide +kernel
theorem dX12_smell_15 : decode cX12_smell 15 = .ok (.iconst (-1), 1) := by decide +kernel
theorem dX12_smell_16 : decode cX12_smell 16 = .ok (.ireturn, 1) := by decide +kernel
theorem dX12_smell_17 : decode cX12_smell 17 = .ok (.aload_n 0, 1) := by decide +kernel
theorem dX12_smell_18 : decode cX12_smell 18 = .ok (.invokevirtual 304, 3) := by decide +kernel
theorem dX12_smell_21 : decode cX12_smell 21 = .ok (.aload_n 0, 1) := by decide +kernel
theorem dX12_smell_22 : decode cX12_smell 22 = .ok (.iload_n 1, 1) := by decide +kernel
theorem dX12_smell_23 : decode cX12_smell 23 = .ok (.invokevirtual 267, 3) := by decide +kernel
theorem dX12_smell_26 : decode cX12_smell 26 = .ok (.iconst 2, 1) := by decide +kernel
theorem dX12_smell_27 : decode cX12_smell 27 = .ok (.irem, 1) := by decide +kernel
theorem dX12_smell_28 : decode cX12_smell 28 = .ok (.iload_n 2, 1) := by decide +kernel
theorem dX12_smell_29 : decode cX12_smell 29 = .ok (.iconst 2, 1) := by decide +kernel
theorem dX12_smell_30 : decode cX12_smell 30 = .ok (.irem, 1) := by decide +kernel
theorem dX12_smell_31 : decode cX12_smell 31 = .ok (.if_icmp .ne 7, 3) := by decide +kernel
theorem dX12_smell_34 : decode cX12_smell 34 = .ok (.iconst (-1), 1) := by decide +kernel
theorem dX12_smell_35 : decode cX12_smell 35 = .ok (.goto 9, 3) := by decide +kernel
theorem dX12_smell_38 : decode cX12_smell 38 = .ok (.aload_n 0, 1) := by decide +kernel
theorem dX12_smell_39 : decode cX12_smell 39 = .ok (.iload_n 1, 1) := by decide +kernel
theorem dX12_smell_40 : decode cX12_smell 40 = .ok (.iload_n 2, 1) := by decide +kernel
theorem dX12_smell_41 : decode cX12_smell 41 = .ok (.invokevirtual 307, 3) := by decide +kernel
theorem dX12_smell_44 : decode cX12_smell 44 = .ok (.ireturn, 1) := by decide +kernel
theorem dX12_smeltBy_0 : decode cX12_smeltBy 0 = .ok (.iconst 0, 1) := by decide +kernel
theorem dX12_smeltBy_1 : decode cX12_smeltBy 1 = .ok (.istore_n 2, 1) := by decide +kernel
theorem dX12_smeltBy_2 : decode cX12_smeltBy 2 = .ok (.aload_n 0, 1) := by decide +kernel
theorem dX12_smeltBy_3 : decode cX12_smeltBy 3 = .ok (.iload_n 1, 1) := by decide +kernel
theorem dX12_smeltBy_4 : decode cX12_smeltBy 4 = .ok (.invokevirtual 276, 3) := by decide +kernel
theorem dX12_smeltBy_7 : decode cX12_smeltBy 7 = .ok (.ifCond .ne 5, 3) := by decide +kernel
theorem dX12_smeltBy_10 : decode cX12_smeltBy 10 = .ok (.iconst 0, 1) := by decide +kernel
theorem dX12_smeltBy_11 : decode cX12_smeltBy 11 = .ok (.ireturn, 1) := by decide +kernel
theorem dX12_smeltBy_12 : decode cX12_smeltBy 12 = .ok (.iconst 0, 1) := by decide +kernel
theorem dX12_smeltBy_13 : decode cX12_smeltBy 13 = .ok (.istore_n 3, 1) := by decide +kernel
theorem dX12_smeltBy_14 : decode cX12_smeltBy 14 = .ok (.iload_n 3, 1) := by decide +kernel
theorem dX12_smeltBy_15 : decode cX12_smeltBy 15 = .ok (.bipush 12, 2) := by decide +kernel
theorem dX12_smeltBy_17 : decode cX12_smeltBy 17 = .ok (.if_icmp .ge 43, 3) := by decide +kernel
theorem dX12_smeltBy_20 : decode cX12_smeltBy 20 = .ok (.iload_n 3, 1) := by decide +kernel
theorem dX12_smeltBy_21 : decode cX12_smeltBy 21 = .ok (.iconst 2, 1) := by decide +kernel
theorem dX12_smeltBy_22 : decode cX12_smeltBy 22 = .ok (.irem, 1) := by decide +kernel
theorem dX12_smeltBy_23 : decode cX12_smeltBy 23 = .ok (.aload_n 0, 1) := by decide +kernel
theorem dX12_smeltBy_24 : decode cX12_smeltBy 24 = .ok (.iload_n 1, 1) := by decide +kernel
theorem dX12_smeltBy_25 : decode cX12_smeltBy 25 = .ok (.invokevirtual 267, 3) := by decide +kernel
theorem dX12_smeltBy_28 : decode cX12_smeltBy 28 = .ok (.iconst 2, 1) := by decide +kernel
theorem dX12_smeltBy_29 : decode cX12_smeltBy 29 = .ok (.irem, 1) := by decide +kernel
theorem dX12_smeltBy_30 : decode cX12_smeltBy 30 = .ok (.if_icmp .eq 24, 3) := by decide +kernel
theorem dX12_smeltBy_33 : decode cX12_smeltBy 33 = .ok (.aload_n 0, 1) := by decide +kernel
theorem dX12_smeltBy_34 : decode cX12_smeltBy 34 = .ok (.iload_n 1, 1) := by decide +kernel
theorem dX12_smeltBy_35 : decode cX12_smeltBy 35 = .ok (.iload_n 3, 1) := by decide +kernel
theorem dX12_smeltBy_36 : decode cX12_smeltBy 36 = .ok (.invokevirtual 307, 3) := by decide +kernel
theorem dX12_smeltBy_39 : decode cX12_smeltBy 39 = .ok (.aload_n 0, 1) := by decide +kernel
theorem dX12_smeltBy_40 : decode cX12_smeltBy 40 = .ok (.getfield 37, 3) := by decide +kernel
theorem dX12_smeltBy_43 : decode cX12_smeltBy 43 = .ok (.iconst 2, 1) := by decide +kernel
theorem dX12_smeltBy_44 : decode cX12_smeltBy 44 = .ok (.iaload, 1) := by decide +kernel
theorem dX12_smeltBy_45 : decode cX12_smeltBy 45 = .ok (.if_icmp .lt 9, 3) := by decide +kernel
theorem dX12_smeltBy_48 : decode cX12_smeltBy 48 = .ok (.iload_n 2, 1) := by decide +kernel
theorem dX12_smeltBy_49 : decode cX12_smeltBy 49 = .ok (.iconst 1, 1) := by decide +kernel
theorem dX12_smeltBy_50 : decode cX12_smeltBy 50 = .ok (.iload_n 3, 1) := by decide +kernel
theorem dX12_smeltBy_51 : decode cX12_smeltBy 51 = .ok (.ishl, 1) := by decide +kernel
theorem dX12_smeltBy_52 : decode cX12_smeltBy 52 = .ok (.ior, 1) := by decide +kernel
theorem dX12_smeltBy_53 : decode cX12_smeltBy 53 = .ok (.istore_n 2, 1) := by decide +kernel
theorem dX12_smeltBy_54 : decode cX12_smeltBy 54 = .ok (.iinc 3 1, 3) := by decide +kernel
theorem dX12_smeltBy_57 : decode cX12_smeltBy 57 = .ok (.goto (-43), 3) := by decide +kernel
theorem dX12_smeltBy_60 : decode cX12_smeltBy 60 = .ok (.iload_n 2, 1) := by decide +kernel
theorem dX12_smeltBy_61 : decode cX12_smeltBy 61 = .ok (.ireturn, 1) := by decide +kernel
theorem dX12_smelt_0 : decode cX12_smelt 0 = .ok (.aload_n 0, 1) := by decide +kernel
theorem dX12_smelt_1 : decode cX12_smelt 1 = .ok (.iload_n 1, 1) := by decide +kernel
theorem dX12_smelt_2 : decode cX12_smelt 2 = .ok (.invokevirtual 168, 3) := by decide +kernel
theorem dX12_smelt_5 : decode cX12_smelt 5 = .ok (.ifCond .ne 5, 3) := by decide +kernel
theorem dX12_smelt_8 : decode cX12_smelt 8 = .ok (.iconst (-1), 1) := by decide +kernel
theorem dX12_smelt_9 : decode cX12_smelt 9 = .ok (.ireturn, 1) := by decide +kernel
theorem dX12_smelt_10 : decode cX12_smelt 10 = .ok (.aload_n 0, 1) := by decide +kernel
theorem dX12_smelt_11 : decode cX12_smelt 11 = .ok (.invokevirtual 304, 3) := by decide +kernel
theorem dX12_smelt_14 : decode cX12_smelt 14 = .ok (.aload_n 0, 1) := by decide +kernel
theorem dX12_smelt_15 : decode cX12_smelt 15 = .ok (.iload_n 1, 1) := by decide +kernel
theorem dX12_smelt_16 : decode cX12_smelt 16 = .ok (.invokevirtual 310, 3) := by decide +kernel
theorem dX12_smelt_19 : decode cX12_smelt 19 = .ok (.ireturn, 1) := by decide +kernel
theorem dX12_noneSmelt_0 : decode cX12_noneSmelt 0 = .ok (.iconst 0, 1) := by decide +kernel
theorem dX12_noneSmelt_1 : decode cX12_noneSmelt 1 = .ok (.istore_n 2, 1) := by decide +kernel
theorem dX12_noneSmelt_2 : decode cX12_noneSmelt 2 = .ok (.iload_n 2, 1) := by decide +kernel
theorem dX12_noneSmelt_3 : decode cX12_noneSmelt 3 = .ok (.aload_n 0, 1) := by decide +kernel
theorem dX12_noneSmelt_4 : decode cX12_noneSmelt 4 = .ok (.getfield 135, 3) := by decide +kernel
theorem dX12_noneSmelt_7 : decode cX12_noneSmelt 7 = .ok (.if_icmp .ge 45, 3) := by decide +kernel
theorem dX12_noneSmelt_10 : decode cX12_noneSmelt 10 = .ok (.aload_n 0, 1) := by decide +kernel
theorem dX12_noneSmelt_11 : decode cX12_noneSmelt 11 = .ok (.getfield 87, 3) := by decide +kernel
theorem dX12_noneSmelt_14 : decode cX12_noneSmelt 14 = .ok (.iload_n 2, 1) := by decide +kernel
theorem dX12_noneSmelt_15 : decode cX12_noneSmelt 15 = .ok (.iaload, 1) := by decide +kernel
theorem dX12_noneSmelt_16 : decode cX12_noneSmelt 16 = .ok (.ifCond .eq 30, 3) := by decide +kernel
theorem dX12_noneSmelt_19 : decode cX12_noneSmelt 19 = .ok (.iload_n 1, 1) := by decide +kernel
theorem dX12_noneSmelt_20 : decode cX12_noneSmelt 20 = .ok (.aload_n 0, 1) := by decide +kernel
theorem dX12_noneSmelt_21 : decode cX12_noneSmelt 21 = .ok (.iload_n 2, 1) := by decide +kernel
theorem dX12_noneSmelt_22 : decode cX12_noneSmelt 22 = .ok (.invokevirtual 267, 3) := by decide +kernel
theorem dX12_noneSmelt_25 : decode cX12_noneSmelt 25 = .ok (.invokestatic 292, 3) := by decide +kernel
theorem dX12_noneSmelt_28 : decode cX12_noneSmelt 28 = .ok (.ifCond .ne 18, 3) := by decide +kernel
theorem dX12_noneSmelt_31 : decode cX12_noneSmelt 31 = .ok (.aload_n 0, 1) := by decide +kernel
theorem dX12_noneSmelt_32 : decode cX12_noneSmelt 32 = .ok (.getfield 87, 3) := by decide +kernel
theorem dX12_noneSmelt_35 : decode cX12_noneSmelt 35 = .ok (.iload_n 2, 1) := by decide +kernel
theorem dX12_noneSmelt_36 : decode cX12_noneSmelt 36 = .ok (.iaload, 1) := by decide +kernel
theorem dX12_noneSmelt_37 : decode cX12_noneSmelt 37 = .ok (.iload_n 1, 1) := by decide +kernel
theorem dX12_noneSmelt_38 : decode cX12_noneSmelt 38 = .ok (.iconst (-1), 1) := by decide +kernel
theorem dX12_noneSmelt_39 : decode cX12_noneSmelt 39 = .ok (.ixor, 1) := by decide +kernel
theorem dX12_noneSmelt_40 : decode cX12_noneSmelt 40 = .ok (.iand, 1) := by decide +kernel
theorem dX12_noneSmelt_41 : decode cX12_noneSmelt 41 = .ok (.ifCond .eq 5, 3) := by decide +kernel
theorem dX12_noneSmelt_44 : decode cX12_noneSmelt 44 = .ok (.iconst 0, 1) := by decide +kernel
theorem dX12_noneSmelt_45 : decode cX12_noneSmelt 45 = .ok (.ireturn, 1) := by decide +kernel
theorem dX12_noneSmelt_46 : decode cX12_noneSmelt 46 = .ok (.iinc 2 1, 3) := by decide +kernel
theorem dX12_noneSmelt_49 : decode cX12_noneSmelt 49 = .ok (.goto (-47), 3) := by decide +kernel
theorem dX12_noneSmelt_52 : decode cX12_noneSmelt 52 = .ok (.iconst 1, 1) := by decide +kernel
theorem dX12_noneSmelt_53 : decode cX12_noneSmelt 53 = .ok (.ireturn, 1) := by decide +kernel
theorem dX12_shut_0 : decode cX12_shut 0 = .ok (.iload_n 1, 1) := by decide +kernel
theorem dX12_shut_1 : decode cX12_shut 1 = .ok (.iconst 0, 1) := by decide +kernel
theorem dX12_shut_2 : decode cX12_shut 2 = .ok (.iconst 1, 1) := by decide +kernel
theorem dX12_shut_3 : decode cX12_shut 3 = .ok (.invokestatic 131, 3) := by decide +kernel
theorem dX12_shut_6 : decode cX12_shut 6 = .ok (.ifCond .ne 5, 3) := by decide +kernel
theorem dX12_shut_9 : decode cX12_shut 9 = .ok (.iconst (-1), 1) := by decide +kernel
theorem dX12_shut_10 : decode cX12_shut 10 = .ok (.ireturn, 1) := by decide +kernel
theorem dX12_shut_11 : decode cX12_shut 11 = .ok (.aload_n 0, 1) := by decide +kernel
theorem dX12_shut_12 : decode cX12_shut 12 = .ok (.invokevirtual 304, 3) := by decide +kernel
theorem dX12_shut_15 : decode cX12_shut 15 = .ok (.iconst 0, 1) := by decide +kernel
theorem dX12_shut_16 : decode cX12_shut 16 = .ok (.istore_n 2, 1) := by decide +kernel
theorem dX12_shut_17 : decode cX12_shut 17 = .ok (.iload_n 2, 1) := by decide +kernel
theorem dX12_shut_18 : decode cX12_shut 18 = .ok (.aload_n 0, 1) := by decide +kernel
theorem dX12_shut_19 : decode cX12_shut 19 = .ok (.getfield 135, 3) := by decide +kernel
theorem dX12_shut_22 : decode cX12_shut 22 = .ok (.if_icmp .ge 20, 3) := by decide +kernel
theorem dX12_shut_25 : decode cX12_shut 25 = .ok (.aload_n 0, 1) := by decide +kernel
theorem dX12_shut_26 : decode cX12_shut 26 = .ok (.getfield 87, 3) := by decide +kernel
theorem dX12_shut_29 : decode cX12_shut 29 = .ok (.iload_n 2, 1) := by decide +kernel
theorem dX12_shut_30 : decode cX12_shut 30 = .ok (.aload_n 0, 1) := by decide +kernel
theorem dX12_shut_31 : decode cX12_shut 31 = .ok (.iload_n 2, 1) := by decide +kernel
theorem dX12_shut_32 : decode cX12_shut 32 = .ok (.invokevirtual 310, 3) := by decide +kernel
theorem dX12_shut_35 : decode cX12_shut 35 = .ok (.iastore, 1) := by decide +kernel
theorem dX12_shut_36 : decode cX12_shut 36 = .ok (.iinc 2 1, 3) := by decide +kernel
theorem dX12_shut_39 : decode cX12_shut 39 = .ok (.goto (-22), 3) := by decide +kernel
theorem dX12_shut_42 : decode cX12_shut 42 = .ok (.bipush (-2), 2) := by decide +kernel
theorem dX12_shut_44 : decode cX12_shut 44 = .ok (.istore_n 2, 1) := by decide +kernel
theorem dX12_shut_45 : decode cX12_shut 45 = .ok (.iconst 0, 1) := by decide +kernel
theorem dX12_shut_46 : decode cX12_shut 46 = .ok (.istore_n 3, 1) := by decide +kernel
theorem dX12_shut_47 : decode cX12_shut 47 = .ok (.iload_n 3, 1) := by decide +kernel
theorem dX12_shut_48 : decode cX12_shut 48 = .ok (.sipush 4096, 3) := by decide +kernel
theorem dX12_shut_51 : decode cX12_shut 51 = .ok (.if_icmp .ge 37, 3) := by decide +kernel
theorem dX12_shut_54 : decode cX12_shut 54 = .ok (.iload_n 2, 1) := by decide +kernel
theorem dX12_shut_55 : decode cX12_shut 55 = .ok (.ifCond .lt 17, 3) := by decide +kernel
theorem dX12_shut_58 : decode cX12_shut 58 = .ok (.iload_n 3, 1) := by decide +kernel
theorem dX12_shut_59 : decode cX12_shut 59 = .ok (.invokestatic 313, 3) := by decide +kernel
theorem dX12_shut_62 : decode cX12_shut 62 = .ok (.iload_n 2, 1) := by decide +kernel
theorem dX12_shut_63 : decode cX12_shut 63 = .ok (.invokestatic 313, 3) := by decide +kernel
theorem dX12_shut_66 : decode cX12_shut 66 = .ok (.if_icmp .lt 6, 3) := by decide +kernel
theorem dX12_shut_69 : decode cX12_shut 69 = .ok (.goto 13, 3) := by decide +kernel
theorem dX12_shut_72 : decode cX12_shut 72 = .ok (.aload_n 0, 1) := by decide +kernel
theorem dX12_shut_73 : decode cX12_shut 73 = .ok (.iload_n 3, 1) := by decide +kernel
theorem dX12_shut_74 : decode cX12_shut 74 = .ok (.invokevirtual 316, 3) := by decide +kernel
theorem dX12_shut_77 : decode cX12_shut 77 = .ok (.ifCond .eq 5, 3) := by decide +kernel
theorem dX12_shut_80 : decode cX12_shut 80 = .ok (.iload_n 3, 1) := by decide +kernel
theorem dX12_shut_81 : decode cX12_shut 81 = .ok (.istore_n 2, 1) := by decide +kernel
theorem dX12_shut_82 : decode cX12_shut 82 = .ok (.iinc 3 1, 3) := by decide +kernel
theorem dX12_shut_85 : decode cX12_shut 85 = .ok (.goto (-38), 3) := by decide +kernel
theorem dX12_shut_88 : decode cX12_shut 88 = .ok (.iload_n 1, 1) := by decide +kernel
theorem dX12_shut_89 : decode cX12_shut 89 = .ok (.ifCond .ne 10, 3) := by decide +kernel
theorem dX12_shut_92 : decode cX12_shut 92 = .ok (.iload_n 2, 1) := by decide +kernel
theorem dX12_shut_93 : decode cX12_shut 93 = .ok (.invokestatic 313, 3) := by decide +kernel
theorem dX12_shut_96 : decode cX12_shut 96 = .ok (.goto 4, 3) := by decide +kernel
theorem dX12_shut_99 : decode cX12_shut 99 = .ok (.iload_n 2, 1) := by decide +kernel
theorem dX12_shut_100 : decode cX12_shut 100 = .ok (.ireturn, 1) := by decide +kernel
theorem dX12_goDays_0 : decode cX12_goDays 0 = .ok (.iconst 0, 1) := by decide +kernel
theorem dX12_goDays_1 : decode cX12_goDays 1 = .ok (.istore_n 2, 1) := by decide +kernel
theorem dX12_goDays_2 : decode cX12_goDays 2 = .ok (.iload_n 2, 1) := by decide +kernel
theorem dX12_goDays_3 : decode cX12_goDays 3 = .ok (.iload_n 1, 1) := by decide +kernel
theorem dX12_goDays_4 : decode cX12_goDays 4 = .ok (.if_icmp .ge 13, 3) := by decide +kernel
theorem dX12_goDays_7 : decode cX12_goDays 7 = .ok (.aload_n 0, 1) := by decide +kernel
theorem dX12_goDays_8 : decode cX12_goDays 8 = .ok (.invokevirtual 319, 3) := by decide +kernel
theorem dX12_goDays_11 : decode cX12_goDays 11 = .ok (.iinc 2 1, 3) := by decide +kernel
theorem dX12_goDays_14 : decode cX12_goDays 14 = .ok (.goto (-12), 3) := by decide +kernel
theorem dX12_goDays_17 : decode cX12_goDays 17 = .ok (.return_, 1) := by decide +kernel
theorem dX12_lane_0 : decode cX12_lane 0 = .ok (.iload_n 1, 1) := by decide +kernel
theorem dX12_lane_1 : decode cX12_lane 1 = .ok (.iconst 0, 1) := by decide +kernel
theorem dX12_lane_2 : decode cX12_lane 2 = .ok (.bipush 60, 2) := by decide +kernel
theorem dX12_lane_4 : decode cX12_lane 4 = .ok (.invokestatic 131, 3) := by decide +kernel
theorem dX12_lane_7 : decode cX12_lane 7 = .ok (.ifCond .eq 13, 3) := by decide +kernel
theorem dX12_lane_10 : decode cX12_lane 10 = .ok (.iload_n 2, 1) := by decide +kernel
theorem dX12_lane_11 : decode cX12_lane 11 = .ok (.iconst 0, 1) := by decide +kernel
theorem dX12_lane_12 : decode cX12_lane 12 = .ok (.bipush 8, 2) := by decide +kernel
theorem dX12_lane_14 : decode cX12_lane 14 = .ok (.invokestatic 131, 3) := by decide +kernel
theorem dX12_lane_17 : decode cX12_lane 17 = .ok (.ifCond .ne 5, 3) := by decide +kernel
theorem dX12_lane_20 : decode cX12_lane 20 = .ok (.iconst (-1), 1) := by decide +kernel
theorem dX12_lane_21 : decode cX12_lane 21 = .ok (.ireturn, 1) := by decide +kernel
theorem dX12_lane_22 : decode cX12_lane 22 = .ok (.aload_n 0, 1) := by decide +kernel
theorem dX12_lane_23 : decode cX12_lane 23 = .ok (.invokevirtual 304, 3) := by decide +kernel
theorem dX12_lane_26 : decode cX12_lane 26 = .ok (.aload_n 0, 1) := by decide +kernel
theorem dX12_lane_27 : decode cX12_lane 27 = .ok (.iload_n 1, 1) := by decide +kernel
theorem dX12_lane_28 : decode cX12_lane 28 = .ok (.invokevirtual 322, 3) := by decide +kernel
theorem dX12_lane_31 : decode cX12_lane 31 = .ok (.iload_n 2, 1) := by decide +kernel
theorem dX12_lane_32 : decode cX12_lane 32 = .ok (.tableswitch 71 4 8 #[36, 41, 46, 56, 66], 36) := by decide +kernel
theorem dX12_lane_68 : decode cX12_lane 68 = .ok (.aload_n 0, 1) := by decide +kernel
theorem dX12_lane_69 : decode cX12_lane 69 = .ok (.invokevirtual 325, 3) := by decide +kernel
theorem dX12_lane_72 : decode cX12_lane 72 = .ok (.ireturn, 1) := by decide +kernel
theorem dX12_lane_73 : decode cX12_lane 73 = .ok (.aload_n 0, 1) := by decide +kernel
theorem dX12_lane_74 : decode cX12_lane 74 = .ok (.getfield 255, 3) := by decide +kernel
theorem dX12_lane_77 : decode cX12_lane 77 = .ok (.ireturn, 1) := by decide +kernel
theorem dX12_lane_78 : decode cX12_lane 78 = .ok (.aload_n 0, 1) := by decide +kernel
theorem dX12_lane_79 : decode cX12_lane 79 = .ok (.aload_n 0, 1) := by decide +kernel
theorem dX12_lane_80 : decode cX12_lane 80 = .ok (.iconst 2, 1) := by decide +kernel
theorem dX12_lane_81 : decode cX12_lane 81 = .ok (.invokevirtual 328, 3) := by decide +kernel
theorem dX12_lane_84 : decode cX12_lane 84 = .ok (.invokevirtual 331, 3) := by decide +kernel
theorem dX12_lane_87 : decode cX12_lane 87 = .ok (.ireturn, 1) := by decide +kernel
theorem dX12_lane_88 : decode cX12_lane 88 = .ok (.aload_n 0, 1) := by decide +kernel
theorem dX12_lane_89 : decode cX12_lane 89 = .ok (.aload_n 0, 1) := by decide +kernel
theorem dX12_lane_90 : decode cX12_lane 90 = .ok (.iconst 3, 1) := by decide +kernel
theorem dX12_lane_91 : decode cX12_lane 91 = .ok (.invokevirtual 328, 3) := by decide +kernel
theorem dX12_lane_94 : decode cX12_lane 94 = .ok (.invokevirtual 331, 3) := by decide +kernel
theorem dX12_lane_97 : decode cX12_lane 97 = .ok (.ireturn, 1) := by decide +kernel
theorem dX12_lane_98 : decode cX12_lane 98 = .ok (.aload_n 0, 1) := by decide +kernel
theorem dX12_lane_99 : decode cX12_lane 99 = .ok (.getfield 261, 3) := by decide +kernel
theorem dX12_lane_102 : decode cX12_lane 102 = .ok (.ireturn, 1) := by decide +kernel
theorem dX12_lane_103 : decode cX12_lane 103 = .ok (.aload_n 0, 1) := by decide +kernel
theorem dX12_lane_104 : decode cX12_lane 104 = .ok (.iload_n 2, 1) := by decide +kernel
theorem dX12_lane_105 : decode cX12_lane 105 = .ok (.invokevirtual 328, 3) := by decide +kernel
theorem dX12_lane_108 : decode cX12_lane 108 = .ok (.ireturn, 1) := by decide +kernel
theorem dX12_when_0 : decode cX12_when 0 = .ok (.aload_n 0, 1) := by decide +kernel
theorem dX12_when_1 : decode cX12_when 1 = .ok (.iload_n 1, 1) := by decide +kernel
theorem dX12_when_2 : decode cX12_when 2 = .ok (.invokevirtual 168, 3) := by decide +kernel
theorem dX12_when_5 : decode cX12_when 5 = .ok (.ifCond .eq 12, 3) := by decide +kernel
theorem dX12_when_8 : decode cX12_when 8 = .ok (.iload_n 2, 1) := by decide +kernel
theorem dX12_when_9 : decode cX12_when 9 = .ok (.iconst 0, 1) := by decide +kernel
theorem dX12_when_10 : decode cX12_when 10 = .ok (.iconst 1, 1) := by decide +kernel
theorem dX12_when_11 : decode cX12_when 11 = .ok (.invokestatic 131, 3) := by decide +kernel
theorem dX12_when_14 : decode cX12_when 14 = .ok (.ifCond .ne 5, 3) := by decide +kernel
theorem dX12_when_17 : decode cX12_when 17 = .ok (.iconst (-1), 1) := by decide +kernel
theorem dX12_when_18 : decode cX12_when 18 = .ok (.ireturn, 1) := by decide +kernel
theorem dX12_when_19 : decode cX12_when 19 = .ok (.aload_n 0, 1) := by decide +kernel
theorem dX12_when_20 : decode cX12_when 20 = .ok (.invokevirtual 304, 3) := by decide +kernel
theorem dX12_when_23 : decode cX12_when 23 = .ok (.iconst 0, 1) := by decide +kernel
theorem dX12_when_24 : decode cX12_when 24 = .ok (.istore_n 3, 1) := by decide +kernel
theorem dX12_when_25 : decode cX12_when 25 = .ok (.iload_n 3, 1) := by decide +kernel
theorem dX12_when_26 : decode cX12_when 26 = .ok (.bipush 60, 2) := by decide +kernel
theorem dX12_when_28 : decode cX12_when 28 = .ok (.if_icmp .gt 40, 3) := by decide +kernel
theorem dX12_when_31 : decode cX12_when 31 = .ok (.iload_n 2, 1) := by decide +kernel
theorem dX12_when_32 : decode cX12_when 32 = .ok (.ifCond .ne 14, 3) := by decide +kernel
theorem dX12_when_35 : decode cX12_when 35 = .ok (.aload_n 0, 1) := by decide +kernel
theorem dX12_when_36 : decode cX12_when 36 = .ok (.iload_n 1, 1) := by decide +kernel
theorem dX12_when_37 : decode cX12_when 37 = .ok (.invokevirtual 289, 3) := by decide +kernel
theorem dX12_when_40 : decode cX12_when 40 = .ok (.ifCond .eq 18, 3) := by decide +kernel
theorem dX12_when_43 : decode cX12_when 43 = .ok (.goto 13, 3) := by decide +kernel
theorem dX12_when_46 : decode cX12_when 46 = .ok (.aload_n 0, 1) := by decide +kernel
theorem dX12_when_47 : decode cX12_when 47 = .ok (.getfield 84, 3) := by decide +kernel
theorem dX12_when_50 : decode cX12_when 50 = .ok (.iload_n 1, 1) := by decide +kernel
theorem dX12_when_51 : decode cX12_when 51 = .ok (.iaload, 1) := by decide +kernel
theorem dX12_when_52 : decode cX12_when 52 = .ok (.iconst 1, 1) := by decide +kernel
theorem dX12_when_53 : decode cX12_when 53 = .ok (.if_icmp .ne 5, 3) := by decide +kernel
theorem dX12_when_56 : decode cX12_when 56 = .ok (.iload_n 3, 1) := by decide +kernel
theorem dX12_when_57 : decode cX12_when 57 = .ok (.ireturn, 1) := by decide +kernel
theorem dX12_when_58 : decode cX12_when 58 = .ok (.aload_n 0, 1) := by decide +kernel
theorem dX12_when_59 : decode cX12_when 59 = .ok (.invokevirtual 319, 3) := by decide +kernel
theorem dX12_when_62 : decode cX12_when 62 = .ok (.iinc 3 1, 3) := by decide +kernel
theorem dX12_when_65 : decode cX12_when 65 = .ok (.goto (-40), 3) := by decide +kernel
theorem dX12_when_68 : decode cX12_when 68 = .ok (.bipush (-2), 2) := by decide +kernel
theorem dX12_when_70 : decode cX12_when 70 = .ok (.ireturn, 1) := by decide +kernel
theorem dX12_hadBehind_0 : decode cX12_hadBehind 0 = .ok (.aload_n 0, 1) := by decide +kernel
theorem dX12_hadBehind_1 : decode cX12_hadBehind 1 = .ok (.iload_n 1, 1) := by decide +kernel
theorem dX12_hadBehind_2 : decode cX12_hadBehind 2 = .ok (.invokevirtual 322, 3) := by decide +kernel
theorem dX12_hadBehind_5 : decode cX12_hadBehind 5 = .ok (.aload_n 0, 1) := by decide +kernel
theorem dX12_hadBehind_6 : decode cX12_hadBehind 6 = .ok (.aload_n 0, 1) := by decide +kernel
theorem dX12_hadBehind_7 : decode cX12_hadBehind 7 = .ok (.iconst 2, 1) := by decide +kernel
theorem dX12_hadBehind_8 : decode cX12_hadBehind 8 = .ok (.invokevirtual 328, 3) := by decide +kernel
theorem dX12_hadBehind_11 : decode cX12_hadBehind 11 = .ok (.invokevirtual 331, 3) := by decide +kernel
theorem dX12_hadBehind_14 : decode cX12_hadBehind 14 = .ok (.ireturn, 1) := by decide +kernel
theorem dX12_move_0 : decode cX12_move 0 = .ok (.iload_n 1, 1) := by decide +kernel
theorem dX12_move_1 : decode cX12_move 1 = .ok (.iconst 0, 1) := by decide +kernel
theorem dX12_move_2 : decode cX12_move 2 = .ok (.bipush 40, 2) := by decide +kernel
theorem dX12_move_4 : decode cX12_move 4 = .ok (.invokestatic 131, 3) := by decide +kernel
theorem dX12_move_7 : decode cX12_move 7 = .ok (.ifCond .eq 12, 3) := by decide +kernel
theorem dX12_move_10 : decode cX12_move 10 = .ok (.iload_n 2, 1) := by decide +kernel
theorem dX12_move_11 : decode cX12_move 11 = .ok (.iconst 0, 1) := by decide +kernel
theorem dX12_move_12 : decode cX12_move 12 = .ok (.iconst 1, 1) := by decide +kernel
theorem dX12_move_13 : decode cX12_move 13 = .ok (.invokestatic 131, 3) := by decide +kernel
theorem dX12_move_16 : decode cX12_move 16 = .ok (.ifCond .ne 5, 3) := by decide +kernel
theorem dX12_move_19 : decode cX12_move 19 = .ok (.iconst (-1), 1) := by decide +kernel
theorem dX12_move_20 : decode cX12_move 20 = .ok (.ireturn, 1) := by decide +kernel
theorem dX12_move_21 : decode cX12_move 21 = .ok (.aload_n 0, 1) := by decide +kernel
theorem dX12_move_22 : decode cX12_move 22 = .ok (.invokevirtual 304, 3) := by decide +kernel
theorem dX12_move_25 : decode cX12_move 25 = .ok (.bipush 99, 2) := by decide +kernel
theorem dX12_move_27 : decode cX12_move 27 = .ok (.istore_n 3, 1) := by decide +kernel
theorem dX12_move_28 : decode cX12_move 28 = .ok (.aload_n 0, 1) := by decide +kernel
theorem dX12_move_29 : decode cX12_move 29 = .ok (.iload_n 1, 1) := by decide +kernel
theorem dX12_move_30 : decode cX12_move 30 = .ok (.invokevirtual 334, 3) := by decide +kernel
theorem dX12_move_33 : decode cX12_move 33 = .ok (.istore 4, 2) := by decide +kernel
theorem dX12_move_35 : decode cX12_move 35 = .ok (.iconst 0, 1) := by decide +kernel
theorem dX12_move_36 : decode cX12_move 36 = .ok (.istore 5, 2) := by decide +kernel
theorem dX12_move_38 : decode cX12_move 38 = .ok (.iload 5, 2) := by decide +kernel
theorem dX12_move_40 : decode cX12_move 40 = .ok (.aload_n 0, 1) := by decide +kernel
theorem dX12_move_41 : decode cX12_move 41 = .ok (.getfield 128, 3) := by decide +kernel
theorem dX12_move_44 : decode cX12_move 44 = .ok (.if_icmp .ge 83, 3) := by decide +kernel
theorem dX12_move_47 : decode cX12_move 47 = .ok (.iconst 0, 1) := by decide +kernel
theorem dX12_move_48 : decode cX12_move 48 = .ok (.istore 6, 2) := by decide +kernel
theorem dX12_move_50 : decode cX12_move 50 = .ok (.iload 6, 2) := by decide +kernel
theorem dX12_move_52 : decode cX12_move 52 = .ok (.bipush 12, 2) := by decide +kernel
theorem dX12_move_54 : decode cX12_move 54 = .ok (.if_icmp .ge 67, 3) := by decide +kernel
theorem dX12_move_57 : decode cX12_move 57 = .ok (.iload 6, 2) := by decide +kernel
theorem dX12_move_59 : decode cX12_move 59 = .ok (.aload_n 0, 1) := by decide +kernel
theorem dX12_move_60 : decode cX12_move 60 = .ok (.getfield 7, 3) := by decide +kernel
theorem dX12_move_63 : decode cX12_move 63 = .ok (.iload 5, 2) := by decide +kernel
theorem dX12_move_65 : decode cX12_move 65 = .ok (.iaload, 1) := by decide +kernel
theorem dX12_move_66 : decode cX12_move 66 = .ok (.if_icmp .ne 6, 3) := by decide +kernel
theorem dX12_move_69 : decode cX12_move 69 = .ok (.goto 46, 3) := by decide +kernel
theorem dX12_move_72 : decode cX12_move 72 = .ok (.aload_n 0, 1) := by decide +kernel
theorem dX12_move_73 : decode cX12_move 73 = .ok (.invokevirtual 304, 3) := by decide +kernel
theorem dX12_move_76 : decode cX12_move 76 = .ok (.aload_n 0, 1) := by decide +kernel
theorem dX12_move_77 : decode cX12_move 77 = .ok (.getfield 78, 3) := by decide +kernel
theorem dX12_move_80 : decode cX12_move 80 = .ok (.iload 5, 2) := by decide +kernel
theorem dX12_move_82 : decode cX12_move 82 = .ok (.iload 6, 2) := by decide +kernel
theorem dX12_move_84 : decode cX12_move 84 = .ok (.iastore, 1) := by decide +kernel
theorem dX12_move_85 : decode cX12_move 85 = .ok (.aload_n 0, 1) := by decide +kernel
theorem dX12_move_86 : decode cX12_move 86 = .ok (.iload_n 1, 1) := by decide +kernel
theorem dX12_move_87 : decode cX12_move 87 = .ok (.invokevirtual 334, 3) := by decide +kernel
theorem dX12_move_90 : decode cX12_move 90 = .ok (.istore 7, 2) := by decide +kernel
theorem dX12_move_92 : decode cX12_move 92 = .ok (.iload 7, 2) := by decide +kernel
theorem dX12_move_94 : decode cX12_move 94 = .ok (.iload 4, 2) := by decide +kernel
theorem dX12_move_96 : decode cX12_move 96 = .ok (.if_icmp .gt 6, 3) := by decide +kernel
theorem dX12_move_99 : decode cX12_move 99 = .ok (.goto 16, 3) := by decide +kernel
theorem dX12_move_102 : decode cX12_move 102 = .ok (.iload 7, 2) := by decide +kernel
theorem dX12_move_104 : decode cX12_move 104 = .ok (.istore 4, 2) := by decide +kernel
theorem dX12_move_106 : decode cX12_move 106 = .ok (.bipush 12, 2) := by decide +kernel
theorem dX12_move_108 : decode cX12_move 108 = .ok (.iload 5, 2) := by decide +kernel
theorem dX12_move_110 : decode cX12_move 110 = .ok (.imul, 1) := by decide +kernel
theorem dX12_move_111 : decode cX12_move 111 = .ok (.iload 6, 2) := by decide +kernel
theorem dX12_move_113 : decode cX12_move 113 = .ok (.iadd, 1) := by decide +kernel
theorem dX12_move_114 : decode cX12_move 114 = .ok (.istore_n 3, 1) := by decide +kernel
theorem dX12_move_115 : decode cX12_move 115 = .ok (.iinc 6 1, 3) := by decide +kernel
theorem dX12_move_118 : decode cX12_move 118 = .ok (.goto (-68), 3) := by decide +kernel
theorem dX12_move_121 : decode cX12_move 121 = .ok (.iinc 5 1, 3) := by decide +kernel
theorem dX12_move_124 : decode cX12_move 124 = .ok (.goto (-86), 3) := by decide +kernel
theorem dX12_move_127 : decode cX12_move 127 = .ok (.iload_n 2, 1) := by decide +kernel
theorem dX12_move_128 : decode cX12_move 128 = .ok (.ifCond .ne 8, 3) := by decide +kernel
theorem dX12_move_131 : decode cX12_move 131 = .ok (.iload 4, 2) := by decide +kernel
theorem dX12_move_133 : decode cX12_move 133 = .ok (.goto 4, 3) := by decide +kernel
theorem dX12_move_136 : decode cX12_move 136 = .ok (.iload_n 3, 1) := by decide +kernel
theorem dX12_move_137 : decode cX12_move 137 = .ok (.ireturn, 1) := by decide +kernel
theorem dX12_over_0 : decode cX12_over 0 = .ok (.iload_n 1, 1) := by decide +kernel
theorem dX12_over_1 : decode cX12_over 1 = .ok (.invokestatic 171, 3) := by decide +kernel
theorem dX12_over_4 : decode cX12_over 4 = .ok (.ifCond .ne 5, 3) := by decide +kernel
theorem dX12_over_7 : decode cX12_over 7 = .ok (.iconst (-1), 1) := by decide +kernel
theorem dX12_over_8 : decode cX12_over 8 = .ok (.ireturn, 1) := by decide +kernel
theorem dX12_over_9 : decode cX12_over 9 = .ok (.aload_n 0, 1) := by decide +kernel
theorem dX12_over_10 : decode cX12_over 10 = .ok (.invokevirtual 304, 3) := by decide +kernel
theorem dX12_over_13 : decode cX12_over 13 = .ok (.iload_n 1, 1) := by decide +kernel
theorem dX12_over_14 : decode cX12_over 14 = .ok (.ifCond .ne 10, 3) := by decide +kernel
theorem dX12_over_17 : decode cX12_over 17 = .ok (.aload_n 0, 1) := by decide +kernel
theorem dX12_over_18 : decode cX12_over 18 = .ok (.invokevirtual 270, 3) := by decide +kernel
theorem dX12_over_21 : decode cX12_over 21 = .ok (.goto 8, 3) := by decide +kernel
theorem dX12_over_24 : decode cX12_over 24 = .ok (.aload_n 0, 1) := by decide +kernel
theorem dX12_over_25 : decode cX12_over 25 = .ok (.invokevirtual 270, 3) := by decide +kernel
theorem dX12_over_28 : decode cX12_over 28 = .ok (.ineg, 1) := by decide +kernel
theorem dX12_over_29 : decode cX12_over 29 = .ok (.istore_n 2, 1) := by decide +kernel
theorem dX12_over_30 : decode cX12_over 30 = .ok (.iconst 0, 1) := by decide +kernel
theorem dX12_over_31 : decode cX12_over 31 = .ok (.istore_n 3, 1) := by decide +kernel
theorem dX12_over_32 : decode cX12_over 32 = .ok (.iconst 2, 1) := by decide +kernel
theorem dX12_over_33 : decode cX12_over 33 = .ok (.iload_n 3, 1) := by decide +kernel
theorem dX12_over_34 : decode cX12_over 34 = .ok (.imul, 1) := by decide +kernel
theorem dX12_over_35 : decode cX12_over 35 = .ok (.aload_n 0, 1) := by decide +kernel
theorem dX12_over_36 : decode cX12_over 36 = .ok (.getfield 128, 3) := by decide +kernel
theorem dX12_over_39 : decode cX12_over 39 = .ok (.iload_n 2, 1) := by decide +kernel
theorem dX12_over_40 : decode cX12_over 40 = .ok (.isub, 1) := by decide +kernel
theorem dX12_over_41 : decode cX12_over 41 = .ok (.if_icmp .gt 37, 3) := by decide +kernel
theorem dX12_over_44 : decode cX12_over 44 = .ok (.iload_n 2, 1) := by decide +kernel
theorem dX12_over_45 : decode cX12_over 45 = .ok (.iconst 2, 1) := by decide +kernel
theorem dX12_over_46 : decode cX12_over 46 = .ok (.iload_n 3, 1) := by decide +kernel
theorem dX12_over_47 : decode cX12_over 47 = .ok (.imul, 1) := by decide +kernel
theorem dX12_over_48 : decode cX12_over 48 = .ok (.iadd, 1) := by decide +kernel
theorem dX12_over_49 : decode cX12_over 49 = .ok (.ifCond .gt 21, 3) := by decide +kernel
theorem dX12_over_52 : decode cX12_over 52 = .ok (.iload_n 2, 1) := by decide +kernel
theorem dX12_over_53 : decode cX12_over 53 = .ok (.iconst 2, 1) := by decide +kernel
theorem dX12_over_54 : decode cX12_over 54 = .ok (.iload_n 3, 1) := by decide +kernel
theorem dX12_over_55 : decode cX12_over 55 = .ok (.imul, 1) := by decide +kernel
theorem dX12_over_56 : decode cX12_over 56 = .ok (.iadd, 1) := by decide +kernel
theorem dX12_over_57 : decode cX12_over 57 = .ok (.ifCond .ne 15, 3) := by decide +kernel
theorem dX12_over_60 : decode cX12_over 60 = .ok (.aload_n 0, 1) := by decide +kernel
theorem dX12_over_61 : decode cX12_over 61 = .ok (.getfield 37, 3) := by decide +kernel
theorem dX12_over_64 : decode cX12_over 64 = .ok (.iconst 0, 1) := by decide +kernel
theorem dX12_over_65 : decode cX12_over 65 = .ok (.iaload, 1) := by decide +kernel
theorem dX12_over_66 : decode cX12_over 66 = .ok (.iload_n 1, 1) := by decide +kernel
theorem dX12_over_67 : decode cX12_over 67 = .ok (.if_icmp .ne 5, 3) := by decide +kernel
theorem dX12_over_70 : decode cX12_over 70 = .ok (.iload_n 3, 1) := by decide +kernel
theorem dX12_over_71 : decode cX12_over 71 = .ok (.ireturn, 1) := by decide +kernel
theorem dX12_over_72 : decode cX12_over 72 = .ok (.iinc 3 1, 3) := by decide +kernel
theorem dX12_over_75 : decode cX12_over 75 = .ok (.goto (-43), 3) := by decide +kernel
theorem dX12_over_78 : decode cX12_over 78 = .ok (.bipush (-2), 2) := by decide +kernel
theorem dX12_over_80 : decode cX12_over 80 = .ok (.ireturn, 1) := by decide +kernel
theorem dX12_date_0 : decode cX12_date 0 = .ok (.aload_n 0, 1) := by decide +kernel
theorem dX12_date_1 : decode cX12_date 1 = .ok (.iload_n 1, 1) := by decide +kernel
theorem dX12_date_2 : decode cX12_date 2 = .ok (.invokevirtual 168, 3) := by decide +kernel
theorem dX12_date_5 : decode cX12_date 5 = .ok (.ifCond .eq 22, 3) := by decide +kernel
theorem dX12_date_8 : decode cX12_date 8 = .ok (.iload_n 2, 1) := by decide +kernel
theorem dX12_date_9 : decode cX12_date 9 = .ok (.iconst 0, 1) := by decide +kernel
theorem dX12_date_10 : decode cX12_date 10 = .ok (.bipush 60, 2) := by decide +kernel
theorem dX12_date_12 : decode cX12_date 12 = .ok (.invokestatic 131, 3) := by decide +kernel
theorem dX12_date_15 : decode cX12_date 15 = .ok (.ifCond .eq 12, 3) := by decide +kernel
theorem dX12_date_18 : decode cX12_date 18 = .ok (.iload_n 3, 1) := by decide +kernel
theorem dX12_date_19 : decode cX12_date 19 = .ok (.iconst 0, 1) := by decide +kernel
theorem dX12_date_20 : decode cX12_date 20 = .ok (.iconst 1, 1) := by decide +kernel
theorem dX12_date_21 : decode cX12_date 21 = .ok (.invokestatic 131, 3) := by decide +kernel
theorem dX12_date_24 : decode cX12_date 24 = .ok (.ifCond .ne 5, 3) := by decide +kernel
theorem dX12_date_27 : decode cX12_date 27 = .ok (.iconst (-1), 1) := by decide +kernel
theorem dX12_date_28 : decode cX12_date 28 = .ok (.ireturn, 1) := by decide +kernel
theorem dX12_date_29 : decode cX12_date 29 = .ok (.aload_n 0, 1) := by decide +kernel
theorem dX12_date_30 : decode cX12_date 30 = .ok (.getfield 16, 3) := by decide +kernel
theorem dX12_date_33 : decode cX12_date 33 = .ok (.iload_n 1, 1) := by decide +kernel
theorem dX12_date_34 : decode cX12_date 34 = .ok (.iaload, 1) := by decide +kernel
theorem dX12_date_35 : decode cX12_date 35 = .ok (.istore 4, 2) := by decide +kernel
theorem dX12_date_37 : decode cX12_date 37 = .ok (.bipush (-2), 2) := by decide +kernel
theorem dX12_date_39 : decode cX12_date 39 = .ok (.istore 5, 2) := by decide +kernel
theorem dX12_date_41 : decode cX12_date 41 = .ok (.iconst 0, 1) := by decide +kernel
theorem dX12_date_42 : decode cX12_date 42 = .ok (.istore 6, 2) := by decide +kernel
theorem dX12_date_44 : decode cX12_date 44 = .ok (.iconst 0, 1) := by decide +kernel
theorem dX12_date_45 : decode cX12_date 45 = .ok (.istore 7, 2) := by decide +kernel
theorem dX12_date_47 : decode cX12_date 47 = .ok (.iload 7, 2) := by decide +kernel
theorem dX12_date_49 : decode cX12_date 49 = .ok (.bipush 99, 2) := by decide +kernel
theorem dX12_date_51 : decode cX12_date 51 = .ok (.if_icmp .gt 51, 3) := by decide +kernel
theorem dX12_date_54 : decode cX12_date 54 = .ok (.aload_n 0, 1) := by decide +kernel
theorem dX12_date_55 : decode cX12_date 55 = .ok (.getfield 16, 3) := by decide +kernel
theorem dX12_date_58 : decode cX12_date 58 = .ok (.iload_n 1, 1) := by decide +kernel
theorem dX12_date_59 : decode cX12_date 59 = .ok (.iload 7, 2) := by decide +kernel
theorem dX12_date_61 : decode cX12_date 61 = .ok (.iastore, 1) := by decide +kernel
theorem dX12_date_62 : decode cX12_date 62 = .ok (.aload_n 0, 1) := by decide +kernel
theorem dX12_date_63 : decode cX12_date 63 = .ok (.invokevirtual 304, 3) := by decide +kernel
theorem dX12_date_66 : decode cX12_date 66 = .ok (.aload_n 0, 1) := by decide +kernel
theorem dX12_date_67 : decode cX12_date 67 = .ok (.iload_n 2, 1) := by decide +kernel
theorem dX12_date_68 : decode cX12_date 68 = .ok (.invokevirtual 334, 3) := by decide +kernel
theorem dX12_date_71 : decode cX12_date 71 = .ok (.istore 8, 2) := by decide +kernel
theorem dX12_date_73 : decode cX12_date 73 = .ok (.iload 5, 2) := by decide +kernel
theorem dX12_date_75 : decode cX12_date 75 = .ok (.ifCond .lt 13, 3) := by decide +kernel
theorem dX12_date_78 : decode cX12_date 78 = .ok (.iload 8, 2) := by decide +kernel
theorem dX12_date_80 : decode cX12_date 80 = .ok (.iload 6, 2) := by decide +kernel
theorem dX12_date_82 : decode cX12_date 82 = .ok (.if_icmp .gt 6, 3) := by decide +kernel
theorem dX12_date_85 : decode cX12_date 85 = .ok (.goto 11, 3) := by decide +kernel
theorem dX12_date_88 : decode cX12_date 88 = .ok (.iload 7, 2) := by decide +kernel
theorem dX12_date_90 : decode cX12_date 90 = .ok (.istore 5, 2) := by decide +kernel
theorem dX12_date_92 : decode cX12_date 92 = .ok (.iload 8, 2) := by decide +kernel
theorem dX12_date_94 : decode cX12_date 94 = .ok (.istore 6, 2) := by decide +kernel
theorem dX12_date_96 : decode cX12_date 96 = .ok (.iinc 7 1, 3) := by decide +kernel
theorem dX12_date_99 : decode cX12_date 99 = .ok (.goto (-52), 3) := by decide +kernel
theorem dX12_date_102 : decode cX12_date 102 = .ok (.aload_n 0, 1) := by decide +kernel
theorem dX12_date_103 : decode cX12_date 103 = .ok (.getfield 16, 3) := by decide +kernel
theorem dX12_date_106 : decode cX12_date 106 = .ok (.iload_n 1, 1) := by decide +kernel
theorem dX12_date_107 : decode cX12_date 107 = .ok (.iload 4, 2) := by decide +kernel
theorem dX12_date_109 : decode cX12_date 109 = .ok (.iastore, 1) := by decide +kernel
theorem dX12_date_110 : decode cX12_date 110 = .ok (.iload_n 3, 1) := by decide +kernel
theorem dX12_date_111 : decode cX12_date 111 = .ok (.ifCond .ne 8, 3) := by decide +kernel
theorem dX12_date_114 : decode cX12_date 114 = .ok (.iload 5, 2) := by decide +kernel
theorem dX12_date_116 : decode cX12_date 116 = .ok (.goto 5, 3) := by decide +kernel
theorem dX12_date_119 : decode cX12_date 119 = .ok (.iload 6, 2) := by decide +kernel
theorem dX12_date_121 : decode cX12_date 121 = .ok (.ireturn, 1) := by decide +kernel
theorem dX12_rowFault_0 : decode cX12_rowFault 0 = .ok (.aload_n 0, 1) := by decide +kernel
theorem dX12_rowFault_1 : decode cX12_rowFault 1 = .ok (.getfield 111, 3) := by decide +kernel
theorem dX12_rowFault_4 : decode cX12_rowFault 4 = .ok (.iload_n 1, 1) := by decide +kernel
theorem dX12_rowFault_5 : decode cX12_rowFault 5 = .ok (.iaload, 1) := by decide +kernel
theorem dX12_rowFault_6 : decode cX12_rowFault 6 = .ok (.iconst (-1), 1) := by decide +kernel
theorem dX12_rowFault_7 : decode cX12_rowFault 7 = .ok (.if_icmp .ne 8, 3) := by decide +kernel
theorem dX12_rowFault_10 : decode cX12_rowFault 10 = .ok (.bipush (-11), 2) := by decide +kernel
theorem dX12_rowFault_12 : decode cX12_rowFault 12 = .ok (.goto 20, 3) := by decide +kernel
theorem dX12_rowFault_15 : decode cX12_rowFault 15 = .ok (.aload_n 0, 1) := by decide +kernel
theorem dX12_rowFault_16 : decode cX12_rowFault 16 = .ok (.getfield 111, 3) := by decide +kernel
theorem dX12_rowFault_19 : decode cX12_rowFault 19 = .ok (.iload_n 1, 1) := by decide +kernel
theorem dX12_rowFault_20 : decode cX12_rowFault 20 = .ok (.iaload, 1) := by decide +kernel
theorem dX12_rowFault_21 : decode cX12_rowFault 21 = .ok (.bipush (-2), 2) := by decide +kernel
theorem dX12_rowFault_23 : decode cX12_rowFault 23 = .ok (.if_icmp .ne 7, 3) := by decide +kernel
theorem dX12_rowFault_26 : decode cX12_rowFault 26 = .ok (.iconst 0, 1) := by decide +kernel
theorem dX12_rowFault_27 : decode cX12_rowFault 27 = .ok (.goto 5, 3) := by decide +kernel
theorem dX12_rowFault_30 : decode cX12_rowFault 30 = .ok (.bipush (-12), 2) := by decide +kernel
theorem dX12_rowFault_32 : decode cX12_rowFault 32 = .ok (.ireturn, 1) := by decide +kernel
theorem dX12_at_0 : decode cX12_at 0 = .ok (.aload_n 0, 1) := by decide +kernel
theorem dX12_at_1 : decode cX12_at 1 = .ok (.getfield 117, 3) := by decide +kernel
theorem dX12_at_4 : decode cX12_at 4 = .ok (.bipush 60, 2) := by decide +kernel
theorem dX12_at_6 : decode cX12_at 6 = .ok (.iload_n 1, 1) := by decide +kernel
theorem dX12_at_7 : decode cX12_at 7 = .ok (.imul, 1) := by decide +kernel
theorem dX12_at_8 : decode cX12_at 8 = .ok (.iload_n 2, 1) := by decide +kernel
theorem dX12_at_9 : decode cX12_at 9 = .ok (.iadd, 1) := by decide +kernel
theorem dX12_at_10 : decode cX12_at 10 = .ok (.laload, 1) := by decide +kernel
theorem dX12_at_11 : decode cX12_at 11 = .ok (.l2i, 1) := by decide +kernel
theorem dX12_at_12 : decode cX12_at 12 = .ok (.ireturn, 1) := by decide +kernel
theorem dX12_wrongDay_0 : decode cX12_wrongDay 0 = .ok (.aload_n 0, 1) := by decide +kernel
theorem dX12_wrongDay_1 : decode cX12_wrongDay 1 = .ok (.invokevirtual 304, 3) := by decide +kernel
theorem dX12_wrongDay_4 : decode cX12_wrongDay 4 = .ok (.iconst 0, 1) := by decide +kernel
theorem dX12_wrongDay_5 : decode cX12_wrongDay 5 = .ok (.istore_n 3, 1) := by decide +kernel
theorem dX12_wrongDay_6 : decode cX12_wrongDay 6 = .ok (.iload_n 3, 1) := by decide +kernel
theorem dX12_wrongDay_7 : decode cX12_wrongDay 7 = .ok (.bipush 41, 2) := by decide +kernel
theorem dX12_wrongDay_9 : decode cX12_wrongDay 9 = .ok (.if_icmp .ge 65, 3) := by decide +kernel
theorem dX12_wrongDay_12 : decode cX12_wrongDay 12 = .ok (.iload_n 3, 1) := by decide +kernel
theorem dX12_wrongDay_13 : decode cX12_wrongDay 13 = .ok (.aload_n 0, 1) := by decide +kernel
theorem dX12_wrongDay_14 : decode cX12_wrongDay 14 = .ok (.getfield 114, 3) := by decide +kernel
theorem dX12_wrongDay_17 : decode cX12_wrongDay 17 = .ok (.iload_n 1, 1) := by decide +kernel
theorem dX12_wrongDay_18 : decode cX12_wrongDay 18 = .ok (.iaload, 1) := by decide +kernel
theorem dX12_wrongDay_19 : decode cX12_wrongDay 19 = .ok (.if_icmp .ge 55, 3) := by decide +kernel
theorem dX12_wrongDay_22 : decode cX12_wrongDay 22 = .ok (.aload_n 0, 1) := by decide +kernel
theorem dX12_wrongDay_23 : decode cX12_wrongDay 23 = .ok (.invokevirtual 325, 3) := by decide +kernel
theorem dX12_wrongDay_26 : decode cX12_wrongDay 26 = .ok (.iload_n 2, 1) := by decide +kernel
theorem dX12_wrongDay_27 : decode cX12_wrongDay 27 = .ok (.invokestatic 292, 3) := by decide +kernel
theorem dX12_wrongDay_30 : decode cX12_wrongDay 30 = .ok (.ifCond .eq 7, 3) := by decide +kernel
theorem dX12_wrongDay_33 : decode cX12_wrongDay 33 = .ok (.iconst 1, 1) := by decide +kernel
theorem dX12_wrongDay_34 : decode cX12_wrongDay 34 = .ok (.goto 4, 3) := by decide +kernel
theorem dX12_wrongDay_37 : decode cX12_wrongDay 37 = .ok (.iconst 0, 1) := by decide +kernel
theorem dX12_wrongDay_38 : decode cX12_wrongDay 38 = .ok (.istore 4, 2) := by decide +kernel
theorem dX12_wrongDay_40 : decode cX12_wrongDay 40 = .ok (.aload_n 0, 1) := by decide +kernel
theorem dX12_wrongDay_41 : decode cX12_wrongDay 41 = .ok (.iload_n 1, 1) := by decide +kernel
theorem dX12_wrongDay_42 : decode cX12_wrongDay 42 = .ok (.iload_n 3, 1) := by decide +kernel
theorem dX12_wrongDay_43 : decode cX12_wrongDay 43 = .ok (.invokevirtual 337, 3) := by decide +kernel
theorem dX12_wrongDay_46 : decode cX12_wrongDay 46 = .ok (.bipush 9, 2) := by decide +kernel
theorem dX12_wrongDay_48 : decode cX12_wrongDay 48 = .ok (.if_icmp .eq 16, 3) := by decide +kernel
theorem dX12_wrongDay_51 : decode cX12_wrongDay 51 = .ok (.aload_n 0, 1) := by decide +kernel
theorem dX12_wrongDay_52 : decode cX12_wrongDay 52 = .ok (.iload_n 1, 1) := by decide +kernel
theorem dX12_wrongDay_53 : decode cX12_wrongDay 53 = .ok (.iload_n 3, 1) := by decide +kernel
theorem dX12_wrongDay_54 : decode cX12_wrongDay 54 = .ok (.invokevirtual 337, 3) := by decide +kernel
theorem dX12_wrongDay_57 : decode cX12_wrongDay 57 = .ok (.iload 4, 2) := by decide +kernel
theorem dX12_wrongDay_59 : decode cX12_wrongDay 59 = .ok (.if_icmp .eq 5, 3) := by decide +kernel
theorem dX12_wrongDay_62 : decode cX12_wrongDay 62 = .ok (.iload_n 3, 1) := by decide +kernel
theorem dX12_wrongDay_63 : decode cX12_wrongDay 63 = .ok (.ireturn, 1) := by decide +kernel
theorem dX12_wrongDay_64 : decode cX12_wrongDay 64 = .ok (.aload_n 0, 1) := by decide +kernel
theorem dX12_wrongDay_65 : decode cX12_wrongDay 65 = .ok (.invokevirtual 319, 3) := by decide +kernel
theorem dX12_wrongDay_68 : decode cX12_wrongDay 68 = .ok (.iinc 3 1, 3) := by decide +kernel
theorem dX12_wrongDay_71 : decode cX12_wrongDay 71 = .ok (.goto (-65), 3) := by decide +kernel
theorem dX12_wrongDay_74 : decode cX12_wrongDay 74 = .ok (.bipush (-2), 2) := by decide +kernel
theorem dX12_wrongDay_76 : decode cX12_wrongDay 76 = .ok (.ireturn, 1) := by decide +kernel
theorem dX12_judge_0 : decode cX12_judge 0 = .ok (.iload_n 1, 1) := by decide +kernel
theorem dX12_judge_1 : decode cX12_judge 1 = .ok (.invokestatic 149, 3) := by decide +kernel
theorem dX12_judge_4 : decode cX12_judge 4 = .ok (.ifCond .eq 11, 3) := by decide +kernel
theorem dX12_judge_7 : decode cX12_judge 7 = .ok (.aload_n 0, 1) := by decide +kernel
theorem dX12_judge_8 : decode cX12_judge 8 = .ok (.iload_n 2, 1) := by decide +kernel
theorem dX12_judge_9 : decode cX12_judge 9 = .ok (.invokevirtual 142, 3) := by decide +kernel
theorem dX12_judge_12 : decode cX12_judge 12 = .ok (.ifCond .ne 5, 3) := by decide +kernel
theorem dX12_judge_15 : decode cX12_judge 15 = .ok (.iconst (-1), 1) := by decide +kernel
theorem dX12_judge_16 : decode cX12_judge 16 = .ok (.ireturn, 1) := by decide +kernel
theorem dX12_judge_17 : decode cX12_judge 17 = .ok (.aload_n 0, 1) := by decide +kernel
theorem dX12_judge_18 : decode cX12_judge 18 = .ok (.iload_n 1, 1) := by decide +kernel
theorem dX12_judge_19 : decode cX12_judge 19 = .ok (.invokevirtual 340, 3) := by decide +kernel
theorem dX12_judge_22 : decode cX12_judge 22 = .ok (.ifCond .ge 11, 3) := by decide +kernel
theorem dX12_judge_25 : decode cX12_judge 25 = .ok (.aload_n 0, 1) := by decide +kernel
theorem dX12_judge_26 : decode cX12_judge 26 = .ok (.iload_n 1, 1) := by decide +kernel
theorem dX12_judge_27 : decode cX12_judge 27 = .ok (.invokevirtual 340, 3) := by decide +kernel
theorem dX12_judge_30 : decode cX12_judge 30 = .ok (.goto 9, 3) := by decide +kernel
theorem dX12_judge_33 : decode cX12_judge 33 = .ok (.aload_n 0, 1) := by decide +kernel
theorem dX12_judge_34 : decode cX12_judge 34 = .ok (.iload_n 1, 1) := by decide +kernel
theorem dX12_judge_35 : decode cX12_judge 35 = .ok (.iload_n 2, 1) := by decide +kernel
theorem dX12_judge_36 : decode cX12_judge 36 = .ok (.invokevirtual 343, 3) := by decide +kernel
theorem dX12_judge_39 : decode cX12_judge 39 = .ok (.ireturn, 1) := by decide +kernel
theorem dX12_dues_0 : decode cX12_dues 0 = .ok (.aload_n 0, 1) := by decide +kernel
theorem dX12_dues_1 : decode cX12_dues 1 = .ok (.getfield 16, 3) := by decide +kernel
theorem dX12_dues_4 : decode cX12_dues 4 = .ok (.iload_n 3, 1) := by decide +kernel
theorem dX12_dues_5 : decode cX12_dues 5 = .ok (.iaload, 1) := by decide +kernel
theorem dX12_dues_6 : decode cX12_dues 6 = .ok (.istore 5, 2) := by decide +kernel
theorem dX12_dues_8 : decode cX12_dues 8 = .ok (.iconst 0, 1) := by decide +kernel
theorem dX12_dues_9 : decode cX12_dues 9 = .ok (.istore 6, 2) := by decide +kernel
theorem dX12_dues_11 : decode cX12_dues 11 = .ok (.bipush (-2), 2) := by decide +kernel
theorem dX12_dues_13 : decode cX12_dues 13 = .ok (.istore 7, 2) := by decide +kernel
theorem dX12_dues_15 : decode cX12_dues 15 = .ok (.iconst 0, 1) := by decide +kernel
theorem dX12_dues_16 : decode cX12_dues 16 = .ok (.istore 8, 2) := by decide +kernel
theorem dX12_dues_18 : decode cX12_dues 18 = .ok (.iload 8, 2) := by decide +kernel
theorem dX12_dues_20 : decode cX12_dues 20 = .ok (.bipush 99, 2) := by decide +kernel
theorem dX12_dues_22 : decode cX12_dues 22 = .ok (.if_icmp .gt 41, 3) := by decide +kernel
theorem dX12_dues_25 : decode cX12_dues 25 = .ok (.aload_n 0, 1) := by decide +kernel
theorem dX12_dues_26 : decode cX12_dues 26 = .ok (.getfield 16, 3) := by decide +kernel
theorem dX12_dues_29 : decode cX12_dues 29 = .ok (.iload_n 3, 1) := by decide +kernel
theorem dX12_dues_30 : decode cX12_dues 30 = .ok (.iload 8, 2) := by decide +kernel
theorem dX12_dues_32 : decode cX12_dues 32 = .ok (.iastore, 1) := by decide +kernel
theorem dX12_dues_33 : decode cX12_dues 33 = .ok (.aload_n 0, 1) := by decide +kernel
theorem dX12_dues_34 : decode cX12_dues 34 = .ok (.iload_n 1, 1) := by decide +kernel
theorem dX12_dues_35 : decode cX12_dues 35 = .ok (.iload_n 2, 1) := by decide +kernel
theorem dX12_dues_36 : decode cX12_dues 36 = .ok (.invokevirtual 343, 3) := by decide +kernel
theorem dX12_dues_39 : decode cX12_dues 39 = .ok (.ifCond .lt 6, 3) := by decide +kernel
theorem dX12_dues_42 : decode cX12_dues 42 = .ok (.goto 15, 3) := by decide +kernel
theorem dX12_dues_45 : decode cX12_dues 45 = .ok (.iload 6, 2) := by decide +kernel
theorem dX12_dues_47 : decode cX12_dues 47 = .ok (.ifCond .ne 7, 3) := by decide +kernel
theorem dX12_dues_50 : decode cX12_dues 50 = .ok (.iload 8, 2) := by decide +kernel
theorem dX12_dues_52 : decode cX12_dues 52 = .ok (.istore 7, 2) := by decide +kernel
theorem dX12_dues_54 : decode cX12_dues 54 = .ok (.iinc 6 1, 3) := by decide +kernel
theorem dX12_dues_57 : decode cX12_dues 57 = .ok (.iinc 8 1, 3) := by decide +kernel
theorem dX12_dues_60 : decode cX12_dues 60 = .ok (.goto (-42), 3) := by decide +kernel
theorem dX12_dues_63 : decode cX12_dues 63 = .ok (.aload_n 0, 1) := by decide +kernel
theorem dX12_dues_64 : decode cX12_dues 64 = .ok (.getfield 16, 3) := by decide +kernel
theorem dX12_dues_67 : decode cX12_dues 67 = .ok (.iload_n 3, 1) := by decide +kernel
theorem dX12_dues_68 : decode cX12_dues 68 = .ok (.iload 5, 2) := by decide +kernel
theorem dX12_dues_70 : decode cX12_dues 70 = .ok (.iastore, 1) := by decide +kernel
theorem dX12_dues_71 : decode cX12_dues 71 = .ok (.iload 4, 2) := by decide +kernel
theorem dX12_dues_73 : decode cX12_dues 73 = .ok (.ifCond .eq 8, 3) := by decide +kernel
theorem dX12_dues_76 : decode cX12_dues 76 = .ok (.iload 7, 2) := by decide +kernel
theorem dX12_dues_78 : decode cX12_dues 78 = .ok (.goto 5, 3) := by decide +kernel
theorem dX12_dues_81 : decode cX12_dues 81 = .ok (.iload 6, 2) := by decide +kernel
theorem dX12_dues_83 : decode cX12_dues 83 = .ok (.ireturn, 1) := by decide +kernel
theorem dX12_lates_0 : decode cX12_lates 0 = .ok (.aload_n 0, 1) := by decide +kernel
theorem dX12_lates_1 : decode cX12_lates 1 = .ok (.getfield 22, 3) := by decide +kernel
theorem dX12_lates_4 : decode cX12_lates 4 = .ok (.iload_n 3, 1) := by decide +kernel
theorem dX12_lates_5 : decode cX12_lates 5 = .ok (.iaload, 1) := by decide +kernel
theorem dX12_lates_6 : decode cX12_lates 6 = .ok (.istore 5, 2) := by decide +kernel
theorem dX12_lates_8 : decode cX12_lates 8 = .ok (.iconst 0, 1) := by decide +kernel
theorem dX12_lates_9 : decode cX12_lates 9 = .ok (.istore 6, 2) := by decide +kernel
theorem dX12_lates_11 : decode cX12_lates 11 = .ok (.bipush (-2), 2) := by decide +kernel
theorem dX12_lates_13 : decode cX12_lates 13 = .ok (.istore 7, 2) := by decide +kernel
theorem dX12_lates_15 : decode cX12_lates 15 = .ok (.iconst 0, 1) := by decide +kernel
theorem dX12_lates_16 : decode cX12_lates 16 = .ok (.istore 8, 2) := by decide +kernel
theorem dX12_lates_18 : decode cX12_lates 18 = .ok (.iload 8, 2) := by decide +kernel
theorem dX12_lates_20 : decode cX12_lates 20 = .ok (.bipush 40, 2) := by decide +kernel
theorem dX12_lates_22 : decode cX12_lates 22 = .ok (.if_icmp .gt 41, 3) := by decide +kernel
theorem dX12_lates_25 : decode cX12_lates 25 = .ok (.aload_n 0, 1) := by decide +kernel
theorem dX12_lates_26 : decode cX12_lates 26 = .ok (.getfield 22, 3) := by decide +kernel
theorem dX12_lates_29 : decode cX12_lates 29 = .ok (.iload_n 3, 1) := by decide +kernel
theorem dX12_lates_30 : decode cX12_lates 30 = .ok (.iload 8, 2) := by decide +kernel
theorem dX12_lates_32 : decode cX12_lates 32 = .ok (.iastore, 1) := by decide +kernel
theorem dX12_lates_33 : decode cX12_lates 33 = .ok (.aload_n 0, 1) := by decide +kernel
theorem dX12_lates_34 : decode cX12_lates 34 = .ok (.iload_n 1, 1) := by decide +kernel
theorem dX12_lates_35 : decode cX12_lates 35 = .ok (.iload_n 2, 1) := by decide +kernel
theorem dX12_lates_36 : decode cX12_lates 36 = .ok (.invokevirtual 343, 3) := by decide +kernel
theorem dX12_lates_39 : decode cX12_lates 39 = .ok (.ifCond .lt 6, 3) := by decide +kernel
theorem dX12_lates_42 : decode cX12_lates 42 = .ok (.goto 15, 3) := by decide +kernel
theorem dX12_lates_45 : decode cX12_lates 45 = .ok (.iload 6, 2) := by decide +kernel
theorem dX12_lates_47 : decode cX12_lates 47 = .ok (.ifCond .ne 7, 3) := by decide +kernel
theorem dX12_lates_50 : decode cX12_lates 50 = .ok (.iload 8, 2) := by decide +kernel
theorem dX12_lates_52 : decode cX12_lates 52 = .ok (.istore 7, 2) := by decide +kernel
theorem dX12_lates_54 : decode cX12_lates 54 = .ok (.iinc 6 1, 3) := by decide +kernel
theorem dX12_lates_57 : decode cX12_lates 57 = .ok (.iinc 8 1, 3) := by decide +kernel
theorem dX12_lates_60 : decode cX12_lates 60 = .ok (.goto (-42), 3) := by decide +kernel
theorem dX12_lates_63 : decode cX12_lates 63 = .ok (.aload_n 0, 1) := by decide +kernel
theorem dX12_lates_64 : decode cX12_lates 64 = .ok (.getfield 22, 3) := by decide +kernel
theorem dX12_lates_67 : decode cX12_lates 67 = .ok (.iload_n 3, 1) := by decide +kernel
theorem dX12_lates_68 : decode cX12_lates 68 = .ok (.iload 5, 2) := by decide +kernel
theorem dX12_lates_70 : decode cX12_lates 70 = .ok (.iastore, 1) := by decide +kernel
theorem dX12_lates_71 : decode cX12_lates 71 = .ok (.iload 4, 2) := by decide +kernel
theorem dX12_lates_73 : decode cX12_lates 73 = .ok (.ifCond .eq 8, 3) := by decide +kernel
theorem dX12_lates_76 : decode cX12_lates 76 = .ok (.iload 7, 2) := by decide +kernel
theorem dX12_lates_78 : decode cX12_lates 78 = .ok (.goto 5, 3) := by decide +kernel
theorem dX12_lates_81 : decode cX12_lates 81 = .ok (.iload 6, 2) := by decide +kernel
theorem dX12_lates_83 : decode cX12_lates 83 = .ok (.ireturn, 1) := by decide +kernel
theorem dX12_fits_0 : decode cX12_fits 0 = .ok (.iload_n 1, 1) := by decide +kernel
theorem dX12_fits_1 : decode cX12_fits 1 = .ok (.invokestatic 149, 3) := by decide +kernel
theorem dX12_fits_4 : decode cX12_fits 4 = .ok (.ifCond .eq 38, 3) := by decide +kernel
theorem dX12_fits_7 : decode cX12_fits 7 = .ok (.iload_n 2, 1) := by decide +kernel
theorem dX12_fits_8 : decode cX12_fits 8 = .ok (.ifCond .lt 34, 3) := by decide +kernel
theorem dX12_fits_11 : decode cX12_fits 11 = .ok (.aload_n 0, 1) := by decide +kernel
theorem dX12_fits_12 : decode cX12_fits 12 = .ok (.iload_n 2, 1) := by decide +kernel
theorem dX12_fits_13 : decode cX12_fits 13 = .ok (.bipush 10, 2) := by decide +kernel
theorem dX12_fits_15 : decode cX12_fits 15 = .ok (.idiv, 1) := by decide +kernel
theorem dX12_fits_16 : decode cX12_fits 16 = .ok (.invokevirtual 142, 3) := by decide +kernel
theorem dX12_fits_19 : decode cX12_fits 19 = .ok (.ifCond .eq 23, 3) := by decide +kernel
theorem dX12_fits_22 : decode cX12_fits 22 = .ok (.aload_n 0, 1) := by decide +kernel
theorem dX12_fits_23 : decode cX12_fits 23 = .ok (.iload_n 2, 1) := by decide +kernel
theorem dX12_fits_24 : decode cX12_fits 24 = .ok (.bipush 10, 2) := by decide +kernel
theorem dX12_fits_26 : decode cX12_fits 26 = .ok (.irem, 1) := by decide +kernel
theorem dX12_fits_27 : decode cX12_fits 27 = .ok (.invokevirtual 168, 3) := by decide +kernel
theorem dX12_fits_30 : decode cX12_fits 30 = .ok (.ifCond .eq 12, 3) := by decide +kernel
theorem dX12_fits_33 : decode cX12_fits 33 = .ok (.iload_n 3, 1) := by decide +kernel
theorem dX12_fits_34 : decode cX12_fits 34 = .ok (.iconst 0, 1) := by decide +kernel
theorem dX12_fits_35 : decode cX12_fits 35 = .ok (.iconst 3, 1) := by decide +kernel
theorem dX12_fits_36 : decode cX12_fits 36 = .ok (.invokestatic 131, 3) := by decide +kernel
theorem dX12_fits_39 : decode cX12_fits 39 = .ok (.ifCond .ne 5, 3) := by decide +kernel
theorem dX12_fits_42 : decode cX12_fits 42 = .ok (.iconst (-1), 1) := by decide +kernel
theorem dX12_fits_43 : decode cX12_fits 43 = .ok (.ireturn, 1) := by decide +kernel
theorem dX12_fits_44 : decode cX12_fits 44 = .ok (.aload_n 0, 1) := by decide +kernel
theorem dX12_fits_45 : decode cX12_fits 45 = .ok (.iload_n 1, 1) := by decide +kernel
theorem dX12_fits_46 : decode cX12_fits 46 = .ok (.invokevirtual 340, 3) := by decide +kernel
theorem dX12_fits_49 : decode cX12_fits 49 = .ok (.ifCond .ge 9, 3) := by decide +kernel
theorem dX12_fits_52 : decode cX12_fits 52 = .ok (.aload_n 0, 1) := by decide +kernel
theorem dX12_fits_53 : decode cX12_fits 53 = .ok (.iload_n 1, 1) := by decide +kernel
theorem dX12_fits_54 : decode cX12_fits 54 = .ok (.invokevirtual 340, 3) := by decide +kernel
theorem dX12_fits_57 : decode cX12_fits 57 = .ok (.ireturn, 1) := by decide +kernel
theorem dX12_fits_58 : decode cX12_fits 58 = .ok (.iload_n 3, 1) := by decide +kernel
theorem dX12_fits_59 : decode cX12_fits 59 = .ok (.iconst 2, 1) := by decide +kernel
theorem dX12_fits_60 : decode cX12_fits 60 = .ok (.if_icmp .ge 29, 3) := by decide +kernel
theorem dX12_fits_63 : decode cX12_fits 63 = .ok (.aload_n 0, 1) := by decide +kernel
theorem dX12_fits_64 : decode cX12_fits 64 = .ok (.iload_n 1, 1) := by decide +kernel
theorem dX12_fits_65 : decode cX12_fits 65 = .ok (.iload_n 2, 1) := by decide +kernel
theorem dX12_fits_66 : decode cX12_fits 66 = .ok (.bipush 10, 2) := by decide +kernel
theorem dX12_fits_68 : decode cX12_fits 68 = .ok (.idiv, 1) := by decide +kernel
theorem dX12_fits_69 : decode cX12_fits 69 = .ok (.iload_n 2, 1) := by decide +kernel
theorem dX12_fits_70 : decode cX12_fits 70 = .ok (.bipush 10, 2) := by decide +kernel
theorem dX12_fits_72 : decode cX12_fits 72 = .ok (.irem, 1) := by decide +kernel
theorem dX12_fits_73 : decode cX12_fits 73 = .ok (.iload_n 3, 1) := by decide +kernel
theorem dX12_fits_74 : decode cX12_fits 74 = .ok (.iconst 1, 1) := by decide +kernel
theorem dX12_fits_75 : decode cX12_fits 75 = .ok (.if_icmp .ne 7, 3) := by decide +kernel
theorem dX12_fits_78 : decode cX12_fits 78 = .ok (.iconst 1, 1) := by decide +kernel
theorem dX12_fits_79 : decode cX12_fits 79 = .ok (.goto 4, 3) := by decide +kernel
theorem dX12_fits_82 : decode cX12_fits 82 = .ok (.iconst 0, 1) := by decide +kernel
theorem dX12_fits_83 : decode cX12_fits 83 = .ok (.invokevirtual 346, 3) := by decide +kernel
theorem dX12_fits_86 : decode cX12_fits 86 = .ok (.goto 26, 3) := by decide +kernel
theorem dX12_fits_89 : decode cX12_fits 89 = .ok (.aload_n 0, 1) := by decide +kernel
theorem dX12_fits_90 : decode cX12_fits 90 = .ok (.iload_n 1, 1) := by decide +kernel
theorem dX12_fits_91 : decode cX12_fits 91 = .ok (.iload_n 2, 1) := by decide +kernel
theorem dX12_fits_92 : decode cX12_fits 92 = .ok (.bipush 10, 2) := by decide +kernel
theorem dX12_fits_94 : decode cX12_fits 94 = .ok (.idiv, 1) := by decide +kernel
theorem dX12_fits_95 : decode cX12_fits 95 = .ok (.iload_n 2, 1) := by decide +kernel
theorem dX12_fits_96 : decode cX12_fits 96 = .ok (.bipush 10, 2) := by decide +kernel
theorem dX12_fits_98 : decode cX12_fits 98 = .ok (.irem, 1) := by decide +kernel
theorem dX12_fits_99 : decode cX12_fits 99 = .ok (.iload_n 3, 1) := by decide +kernel
theorem dX12_fits_100 : decode cX12_fits 100 = .ok (.iconst 3, 1) := by decide +kernel
theorem dX12_fits_101 : decode cX12_fits 101 = .ok (.if_icmp .ne 7, 3) := by decide +kernel
theorem dX12_fits_104 : decode cX12_fits 104 = .ok (.iconst 1, 1) := by decide +kernel
theorem dX12_fits_105 : decode cX12_fits 105 = .ok (.goto 4, 3) := by decide +kernel
theorem dX12_fits_108 : decode cX12_fits 108 = .ok (.iconst 0, 1) := by decide +kernel
theorem dX12_fits_109 : decode cX12_fits 109 = .ok (.invokevirtual 350, 3) := by decide +kernel
theorem dX12_fits_112 : decode cX12_fits 112 = .ok (.ireturn, 1) := by decide +kernel
theorem dX12_who_0 : decode cX12_who 0 = .ok (.iload_n 1, 1) := by decide +kernel
theorem dX12_who_1 : decode cX12_who 1 = .ok (.invokestatic 149, 3) := by decide +kernel
theorem dX12_who_4 : decode cX12_who 4 = .ok (.ifCond .ne 5, 3) := by decide +kernel
theorem dX12_who_7 : decode cX12_who 7 = .ok (.iconst (-1), 1) := by decide +kernel
theorem dX12_who_8 : decode cX12_who 8 = .ok (.ireturn, 1) := by decide +kernel
theorem dX12_who_9 : decode cX12_who 9 = .ok (.aload_n 0, 1) := by decide +kernel
theorem dX12_who_10 : decode cX12_who 10 = .ok (.iload_n 1, 1) := by decide +kernel
theorem dX12_who_11 : decode cX12_who 11 = .ok (.invokevirtual 340, 3) := by decide +kernel
theorem dX12_who_14 : decode cX12_who 14 = .ok (.ifCond .ge 9, 3) := by decide +kernel
theorem dX12_who_17 : decode cX12_who 17 = .ok (.aload_n 0, 1) := by decide +kernel
theorem dX12_who_18 : decode cX12_who 18 = .ok (.iload_n 1, 1) := by decide +kernel
theorem dX12_who_19 : decode cX12_who 19 = .ok (.invokevirtual 340, 3) := by decide +kernel
theorem dX12_who_22 : decode cX12_who 22 = .ok (.ireturn, 1) := by decide +kernel
theorem dX12_who_23 : decode cX12_who 23 = .ok (.iconst 0, 1) := by decide +kernel
theorem dX12_who_24 : decode cX12_who 24 = .ok (.istore_n 2, 1) := by decide +kernel
theorem dX12_who_25 : decode cX12_who 25 = .ok (.iconst 0, 1) := by decide +kernel
theorem dX12_who_26 : decode cX12_who 26 = .ok (.istore_n 3, 1) := by decide +kernel
theorem dX12_who_27 : decode cX12_who 27 = .ok (.iload_n 3, 1) := by decide +kernel
theorem dX12_who_28 : decode cX12_who 28 = .ok (.aload_n 0, 1) := by decide +kernel
theorem dX12_who_29 : decode cX12_who 29 = .ok (.getfield 128, 3) := by decide +kernel
theorem dX12_who_32 : decode cX12_who 32 = .ok (.if_icmp .ge 24, 3) := by decide +kernel
theorem dX12_who_35 : decode cX12_who 35 = .ok (.aload_n 0, 1) := by decide +kernel
theorem dX12_who_36 : decode cX12_who 36 = .ok (.iload_n 1, 1) := by decide +kernel
theorem dX12_who_37 : decode cX12_who 37 = .ok (.iload_n 3, 1) := by decide +kernel
theorem dX12_who_38 : decode cX12_who 38 = .ok (.invokevirtual 343, 3) := by decide +kernel
theorem dX12_who_41 : decode cX12_who 41 = .ok (.ifCond .ge 9, 3) := by decide +kernel
theorem dX12_who_44 : decode cX12_who 44 = .ok (.iload_n 2, 1) := by decide +kernel
theorem dX12_who_45 : decode cX12_who 45 = .ok (.iconst 1, 1) := by decide +kernel
theorem dX12_who_46 : decode cX12_who 46 = .ok (.iload_n 3, 1) := by decide +kernel
theorem dX12_who_47 : decode cX12_who 47 = .ok (.ishl, 1) := by decide +kernel
theorem dX12_who_48 : decode cX12_who 48 = .ok (.ior, 1) := by decide +kernel
theorem dX12_who_49 : decode cX12_who 49 = .ok (.istore_n 2, 1) := by decide +kernel
theorem dX12_who_50 : decode cX12_who 50 = .ok (.iinc 3 1, 3) := by decide +kernel
theorem dX12_who_53 : decode cX12_who 53 = .ok (.goto (-26), 3) := by decide +kernel
theorem dX12_who_56 : decode cX12_who 56 = .ok (.iload_n 2, 1) := by decide +kernel
theorem dX12_who_57 : decode cX12_who 57 = .ok (.ireturn, 1) := by decide +kernel
theorem dX12_share_0 : decode cX12_share 0 = .ok (.aload_n 0, 1) := by decide +kernel
theorem dX12_share_1 : decode cX12_share 1 = .ok (.iload_n 1, 1) := by decide +kernel
theorem dX12_share_2 : decode cX12_share 2 = .ok (.invokevirtual 142, 3) := by decide +kernel
theorem dX12_share_5 : decode cX12_share 5 = .ok (.ifCond .eq 14, 3) := by decide +kernel
theorem dX12_share_8 : decode cX12_share 8 = .ok (.iload_n 2, 1) := by decide +kernel
theorem dX12_share_9 : decode cX12_share 9 = .ok (.iconst 0, 1) := by decide +kernel
theorem dX12_share_10 : decode cX12_share 10 = .ok (.sipush 9999, 3) := by decide +kernel
theorem dX12_share_13 : decode cX12_share 13 = .ok (.invokestatic 131, 3) := by decide +kernel
theorem dX12_share_16 : decode cX12_share 16 = .ok (.ifCond .ne 5, 3) := by decide +kernel
theorem dX12_share_19 : decode cX12_share 19 = .ok (.iconst (-1), 1) := by decide +kernel
theorem dX12_share_20 : decode cX12_share 20 = .ok (.ireturn, 1) := by decide +kernel
theorem dX12_share_21 : decode cX12_share 21 = .ok (.aload_n 0, 1) := by decide +kernel
theorem dX12_share_22 : decode cX12_share 22 = .ok (.invokevirtual 304, 3) := by decide +kernel
theorem dX12_share_25 : decode cX12_share 25 = .ok (.iconst 0, 1) := by decide +kernel
theorem dX12_share_26 : decode cX12_share 26 = .ok (.istore_n 3, 1) := by decide +kernel
theorem dX12_share_27 : decode cX12_share 27 = .ok (.iconst 0, 1) := by decide +kernel
theorem dX12_share_28 : decode cX12_share 28 = .ok (.istore 4, 2) := by decide +kernel
theorem dX12_share_30 : decode cX12_share 30 = .ok (.iconst 0, 1) := by decide +kernel
theorem dX12_share_31 : decode cX12_share 31 = .ok (.istore 5, 2) := by decide +kernel
theorem dX12_share_33 : decode cX12_share 33 = .ok (.iload 5, 2) := by decide +kernel
theorem dX12_share_35 : decode cX12_share 35 = .ok (.aload_n 0, 1) := by decide +kernel
theorem dX12_share_36 : decode cX12_share 36 = .ok (.getfield 135, 3) := by decide +kernel
theorem dX12_share_39 : decode cX12_share 39 = .ok (.if_icmp .ge 54, 3) := by decide +kernel
theorem dX12_share_42 : decode cX12_share 42 = .ok (.aload_n 0, 1) := by decide +kernel
theorem dX12_share_43 : decode cX12_share 43 = .ok (.iload 5, 2) := by decide +kernel
theorem dX12_share_45 : decode cX12_share 45 = .ok (.invokevirtual 289, 3) := by decide +kernel
theorem dX12_share_48 : decode cX12_share 48 = .ok (.ifCond .ne 6, 3) := by decide +kernel
theorem dX12_share_51 : decode cX12_share 51 = .ok (.goto 36, 3) := by decide +kernel
theorem dX12_share_54 : decode cX12_share 54 = .ok (.iload_n 3, 1) := by decide +kernel
theorem dX12_share_55 : decode cX12_share 55 = .ok (.aload_n 0, 1) := by decide +kernel
theorem dX12_share_56 : decode cX12_share 56 = .ok (.getfield 25, 3) := by decide +kernel
theorem dX12_share_59 : decode cX12_share 59 = .ok (.iload 5, 2) := by decide +kernel
theorem dX12_share_61 : decode cX12_share 61 = .ok (.iaload, 1) := by decide +kernel
theorem dX12_share_62 : decode cX12_share 62 = .ok (.iadd, 1) := by decide +kernel
theorem dX12_share_63 : decode cX12_share 63 = .ok (.istore_n 3, 1) := by decide +kernel
theorem dX12_share_64 : decode cX12_share 64 = .ok (.aload_n 0, 1) := by decide +kernel
theorem dX12_share_65 : decode cX12_share 65 = .ok (.getfield 13, 3) := by decide +kernel
theorem dX12_share_68 : decode cX12_share 68 = .ok (.iload 5, 2) := by decide +kernel
theorem dX12_share_70 : decode cX12_share 70 = .ok (.iaload, 1) := by decide +kernel
theorem dX12_share_71 : decode cX12_share 71 = .ok (.iload_n 1, 1) := by decide +kernel
theorem dX12_share_72 : decode cX12_share 72 = .ok (.if_icmp .ne 15, 3) := by decide +kernel
theorem dX12_share_75 : decode cX12_share 75 = .ok (.iload 4, 2) := by decide +kernel
theorem dX12_share_77 : decode cX12_share 77 = .ok (.aload_n 0, 1) := by decide +kernel
theorem dX12_share_78 : decode cX12_share 78 = .ok (.getfield 25, 3) := by decide +kernel
theorem dX12_share_81 : decode cX12_share 81 = .ok (.iload 5, 2) := by decide +kernel
theorem dX12_share_83 : decode cX12_share 83 = .ok (.iaload, 1) := by decide +kernel
theorem dX12_share_84 : decode cX12_share 84 = .ok (.iadd, 1) := by decide +kernel
theorem dX12_share_85 : decode cX12_share 85 = .ok (.istore 4, 2) := by decide +kernel
theorem dX12_share_87 : decode cX12_share 87 = .ok (.iinc 5 1, 3) := by decide +kernel
theorem dX12_share_90 : decode cX12_share 90 = .ok (.goto (-57), 3) := by decide +kernel
theorem dX12_share_93 : decode cX12_share 93 = .ok (.iload_n 3, 1) := by decide +kernel
theorem dX12_share_94 : decode cX12_share 94 = .ok (.ifCond .ne 7, 3) := by decide +kernel
theorem dX12_share_97 : decode cX12_share 97 = .ok (.iconst 0, 1) := by decide +kernel
theorem dX12_share_98 : decode cX12_share 98 = .ok (.goto 9, 3) := by decide +kernel
theorem dX12_share_101 : decode cX12_share 101 = .ok (.iload_n 2, 1) := by decide +kernel
theorem dX12_share_102 : decode cX12_share 102 = .ok (.iload 4, 2) := by decide +kernel
theorem dX12_share_104 : decode cX12_share 104 = .ok (.imul, 1) := by decide +kernel
theorem dX12_share_105 : decode cX12_share 105 = .ok (.iload_n 3, 1) := by decide +kernel
theorem dX12_share_106 : decode cX12_share 106 = .ok (.idiv, 1) := by decide +kernel
theorem dX12_share_107 : decode cX12_share 107 = .ok (.ireturn, 1) := by decide +kernel
theorem dX12_near_0 : decode cX12_near 0 = .ok (.aload_n 0, 1) := by decide +kernel
theorem dX12_near_1 : decode cX12_near 1 = .ok (.iload_n 1, 1) := by decide +kernel
theorem dX12_near_2 : decode cX12_near 2 = .ok (.invokevirtual 142, 3) := by decide +kernel
theorem dX12_near_5 : decode cX12_near 5 = .ok (.ifCond .ne 5, 3) := by decide +kernel
theorem dX12_near_8 : decode cX12_near 8 = .ok (.iconst (-1), 1) := by decide +kernel
theorem dX12_near_9 : decode cX12_near 9 = .ok (.ireturn, 1) := by decide +kernel
theorem dX12_near_10 : decode cX12_near 10 = .ok (.bipush (-2), 2) := by decide +kernel
theorem dX12_near_12 : decode cX12_near 12 = .ok (.istore_n 2, 1) := by decide +kernel
theorem dX12_near_13 : decode cX12_near 13 = .ok (.iconst 0, 1) := by decide +kernel
theorem dX12_near_14 : decode cX12_near 14 = .ok (.istore_n 3, 1) := by decide +kernel
theorem dX12_near_15 : decode cX12_near 15 = .ok (.iload_n 3, 1) := by decide +kernel
theorem dX12_near_16 : decode cX12_near 16 = .ok (.aload_n 0, 1) := by decide +kernel
theorem dX12_near_17 : decode cX12_near 17 = .ok (.getfield 128, 3) := by decide +kernel
theorem dX12_near_20 : decode cX12_near 20 = .ok (.if_icmp .ge 61, 3) := by decide +kernel
theorem dX12_near_23 : decode cX12_near 23 = .ok (.aload_n 0, 1) := by decide +kernel
theorem dX12_near_24 : decode cX12_near 24 = .ok (.getfield 7, 3) := by decide +kernel
theorem dX12_near_27 : decode cX12_near 27 = .ok (.iload_n 3, 1) := by decide +kernel
theorem dX12_near_28 : decode cX12_near 28 = .ok (.iaload, 1) := by decide +kernel
theorem dX12_near_29 : decode cX12_near 29 = .ok (.iconst 2, 1) := by decide +kernel
theorem dX12_near_30 : decode cX12_near 30 = .ok (.irem, 1) := by decide +kernel
theorem dX12_near_31 : decode cX12_near 31 = .ok (.aload_n 0, 1) := by decide +kernel
theorem dX12_near_32 : decode cX12_near 32 = .ok (.getfield 7, 3) := by decide +kernel
theorem dX12_near_35 : decode cX12_near 35 = .ok (.iload_n 1, 1) := by decide +kernel
theorem dX12_near_36 : decode cX12_near 36 = .ok (.iaload, 1) := by decide +kernel
theorem dX12_near_37 : decode cX12_near 37 = .ok (.iconst 2, 1) := by decide +kernel
theorem dX12_near_38 : decode cX12_near 38 = .ok (.irem, 1) := by decide +kernel
theorem dX12_near_39 : decode cX12_near 39 = .ok (.if_icmp .ne 6, 3) := by decide +kernel
theorem dX12_near_42 : decode cX12_near 42 = .ok (.goto 33, 3) := by decide +kernel
theorem dX12_near_45 : decode cX12_near 45 = .ok (.aload_n 0, 1) := by decide +kernel
theorem dX12_near_46 : decode cX12_near 46 = .ok (.getfield 7, 3) := by decide +kernel
theorem dX12_near_49 : decode cX12_near 49 = .ok (.iload_n 3, 1) := by decide +kernel
theorem dX12_near_50 : decode cX12_near 50 = .ok (.iaload, 1) := by decide +kernel
theorem dX12_near_51 : decode cX12_near 51 = .ok (.aload_n 0, 1) := by decide +kernel
theorem dX12_near_52 : decode cX12_near 52 = .ok (.getfield 7, 3) := by decide +kernel
theorem dX12_near_55 : decode cX12_near 55 = .ok (.iload_n 1, 1) := by decide +kernel
theorem dX12_near_56 : decode cX12_near 56 = .ok (.iaload, 1) := by decide +kernel
theorem dX12_near_57 : decode cX12_near 57 = .ok (.invokestatic 295, 3) := by decide +kernel
theorem dX12_near_60 : decode cX12_near 60 = .ok (.istore 4, 2) := by decide +kernel
theorem dX12_near_62 : decode cX12_near 62 = .ok (.iload_n 2, 1) := by decide +kernel
theorem dX12_near_63 : decode cX12_near 63 = .ok (.ifCond .lt 9, 3) := by decide +kernel
theorem dX12_near_66 : decode cX12_near 66 = .ok (.iload 4, 2) := by decide +kernel
theorem dX12_near_68 : decode cX12_near 68 = .ok (.iload_n 2, 1) := by decide +kernel
theorem dX12_near_69 : decode cX12_near 69 = .ok (.if_icmp .ge 6, 3) := by decide +kernel
theorem dX12_near_72 : decode cX12_near 72 = .ok (.iload 4, 2) := by decide +kernel
theorem dX12_near_74 : decode cX12_near 74 = .ok (.istore_n 2, 1) := by decide +kernel
theorem dX12_near_75 : decode cX12_near 75 = .ok (.iinc 3 1, 3) := by decide +kernel
theorem dX12_near_78 : decode cX12_near 78 = .ok (.goto (-63), 3) := by decide +kernel
theorem dX12_near_81 : decode cX12_near 81 = .ok (.iload_n 2, 1) := by decide +kernel
theorem dX12_near_82 : decode cX12_near 82 = .ok (.ireturn, 1) := by decide +kernel
theorem dX12_mostMates_0 : decode cX12_mostMates 0 = .ok (.iload_n 1, 1) := by decide +kernel
theorem dX12_mostMates_1 : decode cX12_mostMates 1 = .ok (.aload_n 0, 1) := by decide +kernel
theorem dX12_mostMates_2 : decode cX12_mostMates 2 = .ok (.getfield 128, 3) := by decide +kernel
theorem dX12_mostMates_5 : decode cX12_mostMates 5 = .ok (.if_icmp .ne 5, 3) := by decide +kernel
theorem dX12_mostMates_8 : decode cX12_mostMates 8 = .ok (.iconst 0, 1) := by decide +kernel
theorem dX12_mostMates_9 : decode cX12_mostMates 9 = .ok (.ireturn, 1) := by decide +kernel
theorem dX12_mostMates_10 : decode cX12_mostMates 10 = .ok (.aload_n 0, 1) := by decide +kernel
theorem dX12_mostMates_11 : decode cX12_mostMates 11 = .ok (.iload_n 1, 1) := by decide +kernel
theorem dX12_mostMates_12 : decode cX12_mostMates 12 = .ok (.iconst 1, 1) := by decide +kernel
theorem dX12_mostMates_13 : decode cX12_mostMates 13 = .ok (.iadd, 1) := by decide +kernel
theorem dX12_mostMates_14 : decode cX12_mostMates 14 = .ok (.iload_n 2, 1) := by decide +kernel
theorem dX12_mostMates_15 : decode cX12_mostMates 15 = .ok (.iload_n 3, 1) := by decide +kernel
theorem dX12_mostMates_16 : decode cX12_mostMates 16 = .ok (.invokevirtual 353, 3) := by decide +kernel
theorem dX12_mostMates_19 : decode cX12_mostMates 19 = .ok (.istore 4, 2) := by decide +kernel
theorem dX12_mostMates_21 : decode cX12_mostMates 21 = .ok (.aload_n 0, 1) := by decide +kernel
theorem dX12_mostMates_22 : decode cX12_mostMates 22 = .ok (.getfield 7, 3) := by decide +kernel
theorem dX12_mostMates_25 : decode cX12_mostMates 25 = .ok (.iload_n 1, 1) := by decide +kernel
theorem dX12_mostMates_26 : decode cX12_mostMates 26 = .ok (.iaload, 1) := by decide +kernel
theorem dX12_mostMates_27 : decode cX12_mostMates 27 = .ok (.iconst 2, 1) := by decide +kernel
theorem dX12_mostMates_28 : decode cX12_mostMates 28 = .ok (.irem, 1) := by decide +kernel
theorem dX12_mostMates_29 : decode cX12_mostMates 29 = .ok (.iconst 1, 1) := by decide +kernel
theorem dX12_mostMates_30 : decode cX12_mostMates 30 = .ok (.if_icmp .ne 6, 3) := by decide +kernel
theorem dX12_mostMates_33 : decode cX12_mostMates 33 = .ok (.iload 4, 2) := by decide +kernel
theorem dX12_mostMates_35 : decode cX12_mostMates 35 = .ok (.ireturn, 1) := by decide +kernel
theorem dX12_mostMates_36 : decode cX12_mostMates 36 = .ok (.iconst 0, 1) := by decide +kernel
theorem dX12_mostMates_37 : decode cX12_mostMates 37 = .ok (.istore 5, 2) := by decide +kernel
theorem dX12_mostMates_39 : decode cX12_mostMates 39 = .ok (.iload 5, 2) := by decide +kernel
theorem dX12_mostMates_41 : decode cX12_mostMates 41 = .ok (.aload_n 0, 1) := by decide +kernel
theorem dX12_mostMates_42 : decode cX12_mostMates 42 = .ok (.getfield 128, 3) := by decide +kernel
theorem dX12_mostMates_45 : decode cX12_mostMates 45 = .ok (.if_icmp .ge 84, 3) := by decide +kernel
theorem dX12_mostMates_48 : decode cX12_mostMates 48 = .ok (.iload_n 2, 1) := by decide +kernel
theorem dX12_mostMates_49 : decode cX12_mostMates 49 = .ok (.iload 5, 2) := by decide +kernel
theorem dX12_mostMates_51 : decode cX12_mostMates 51 = .ok (.invokestatic 292, 3) := by decide +kernel
theorem dX12_mostMates_54 : decode cX12_mostMates 54 = .ok (.ifCond .eq 69, 3) := by decide +kernel
theorem dX12_mostMates_57 : decode cX12_mostMates 57 = .ok (.aload_n 0, 1) := by decide +kernel
theorem dX12_mostMates_58 : decode cX12_mostMates 58 = .ok (.getfield 7, 3) := by decide +kernel
theorem dX12_mostMates_61 : decode cX12_mostMates 61 = .ok (.iload 5, 2) := by decide +kernel
theorem dX12_mostMates_63 : decode cX12_mostMates 63 = .ok (.iaload, 1) := by decide +kernel
theorem dX12_mostMates_64 : decode cX12_mostMates 64 = .ok (.iconst 2, 1) := by decide +kernel
theorem dX12_mostMates_65 : decode cX12_mostMates 65 = .ok (.irem, 1) := by decide +kernel
theorem dX12_mostMates_66 : decode cX12_mostMates 66 = .ok (.ifCond .eq 57, 3) := by decide +kernel
theorem dX12_mostMates_69 : decode cX12_mostMates 69 = .ok (.aload_n 0, 1) := by decide +kernel
theorem dX12_mostMates_70 : decode cX12_mostMates 70 = .ok (.getfield 7, 3) := by decide +kernel
theorem dX12_mostMates_73 : decode cX12_mostMates 73 = .ok (.iload_n 1, 1) := by decide +kernel
theorem dX12_mostMates_74 : decode cX12_mostMates 74 = .ok (.iaload, 1) := by decide +kernel
theorem dX12_mostMates_75 : decode cX12_mostMates 75 = .ok (.aload_n 0, 1) := by decide +kernel
theorem dX12_mostMates_76 : decode cX12_mostMates 76 = .ok (.getfield 7, 3) := by decide +kernel
theorem dX12_mostMates_79 : decode cX12_mostMates 79 = .ok (.iload 5, 2) := by decide +kernel
theorem dX12_mostMates_81 : decode cX12_mostMates 81 = .ok (.iaload, 1) := by decide +kernel
theorem dX12_mostMates_82 : decode cX12_mostMates 82 = .ok (.invokestatic 295, 3) := by decide +kernel
theorem dX12_mostMates_85 : decode cX12_mostMates 85 = .ok (.iload_n 3, 1) := by decide +kernel
theorem dX12_mostMates_86 : decode cX12_mostMates 86 = .ok (.if_icmp .le 6, 3) := by decide +kernel
theorem dX12_mostMates_89 : decode cX12_mostMates 89 = .ok (.goto 34, 3) := by decide +kernel
theorem dX12_mostMates_92 : decode cX12_mostMates 92 = .ok (.iconst 1, 1) := by decide +kernel
theorem dX12_mostMates_93 : decode cX12_mostMates 93 = .ok (.aload_n 0, 1) := by decide +kernel
theorem dX12_mostMates_94 : decode cX12_mostMates 94 = .ok (.iload_n 1, 1) := by decide +kernel
theorem dX12_mostMates_95 : decode cX12_mostMates 95 = .ok (.iconst 1, 1) := by decide +kernel
theorem dX12_mostMates_96 : decode cX12_mostMates 96 = .ok (.iadd, 1) := by decide +kernel
theorem dX12_mostMates_97 : decode cX12_mostMates 97 = .ok (.iload_n 2, 1) := by decide +kernel
theorem dX12_mostMates_98 : decode cX12_mostMates 98 = .ok (.iconst 1, 1) := by decide +kernel
theorem dX12_mostMates_99 : decode cX12_mostMates 99 = .ok (.iload 5, 2) := by decide +kernel
theorem dX12_mostMates_101 : decode cX12_mostMates 101 = .ok (.ishl, 1) := by decide +kernel
theorem dX12_mostMates_102 : decode cX12_mostMates 102 = .ok (.iconst (-1), 1) := by decide +kernel
theorem dX12_mostMates_103 : decode cX12_mostMates 103 = .ok (.ixor, 1) := by decide +kernel
theorem dX12_mostMates_104 : decode cX12_mostMates 104 = .ok (.iand, 1) := by decide +kernel
theorem dX12_mostMates_105 : decode cX12_mostMates 105 = .ok (.iload_n 3, 1) := by decide +kernel
theorem dX12_mostMates_106 : decode cX12_mostMates 106 = .ok (.invokevirtual 353, 3) := by decide +kernel
theorem dX12_mostMates_109 : decode cX12_mostMates 109 = .ok (.iadd, 1) := by decide +kernel
theorem dX12_mostMates_110 : decode cX12_mostMates 110 = .ok (.istore 6, 2) := by decide +kernel
theorem dX12_mostMates_112 : decode cX12_mostMates 112 = .ok (.iload 6, 2) := by decide +kernel
theorem dX12_mostMates_114 : decode cX12_mostMates 114 = .ok (.iload 4, 2) := by decide +kernel
theorem dX12_mostMates_116 : decode cX12_mostMates 116 = .ok (.if_icmp .le 7, 3) := by decide +kernel
theorem dX12_mostMates_119 : decode cX12_mostMates 119 = .ok (.iload 6, 2) := by decide +kernel
theorem dX12_mostMates_121 : decode cX12_mostMates 121 = .ok (.istore 4, 2) := by decide +kernel
theorem dX12_mostMates_123 : decode cX12_mostMates 123 = .ok (.iinc 5 1, 3) := by decide +kernel
theorem dX12_mostMates_126 : decode cX12_mostMates 126 = .ok (.goto (-87), 3) := by decide +kernel
theorem dX12_mostMates_129 : decode cX12_mostMates 129 = .ok (.iload 4, 2) := by decide +kernel
theorem dX12_mostMates_131 : decode cX12_mostMates 131 = .ok (.ireturn, 1) := by decide +kernel
theorem dX12_mates_0 : decode cX12_mates 0 = .ok (.iload_n 1, 1) := by decide +kernel
theorem dX12_mates_1 : decode cX12_mates 1 = .ok (.iconst 0, 1) := by decide +kernel
theorem dX12_mates_2 : decode cX12_mates 2 = .ok (.iconst 5, 1) := by decide +kernel
theorem dX12_mates_3 : decode cX12_mates 3 = .ok (.invokestatic 131, 3) := by decide +kernel
theorem dX12_mates_6 : decode cX12_mates 6 = .ok (.ifCond .eq 20, 3) := by decide +kernel
theorem dX12_mates_9 : decode cX12_mates 9 = .ok (.aload_n 0, 1) := by decide +kernel
theorem dX12_mates_10 : decode cX12_mates 10 = .ok (.iconst 0, 1) := by decide +kernel
theorem dX12_mates_11 : decode cX12_mates 11 = .ok (.iconst 1, 1) := by decide +kernel
theorem dX12_mates_12 : decode cX12_mates 12 = .ok (.aload_n 0, 1) := by decide +kernel
theorem dX12_mates_13 : decode cX12_mates 13 = .ok (.getfield 128, 3) := by decide +kernel
theorem dX12_mates_16 : decode cX12_mates 16 = .ok (.ishl, 1) := by decide +kernel
theorem dX12_mates_17 : decode cX12_mates 17 = .ok (.iconst 1, 1) := by decide +kernel
theorem dX12_mates_18 : decode cX12_mates 18 = .ok (.isub, 1) := by decide +kernel
theorem dX12_mates_19 : decode cX12_mates 19 = .ok (.iload_n 1, 1) := by decide +kernel
theorem dX12_mates_20 : decode cX12_mates 20 = .ok (.invokevirtual 353, 3) := by decide +kernel
theorem dX12_mates_23 : decode cX12_mates 23 = .ok (.goto 4, 3) := by decide +kernel
theorem dX12_mates_26 : decode cX12_mates 26 = .ok (.iconst (-1), 1) := by decide +kernel
theorem dX12_mates_27 : decode cX12_mates 27 = .ok (.ireturn, 1) := by decide +kernel
theorem dX12_endsBy_0 : decode cX12_endsBy 0 = .ok (.iconst 0, 1) := by decide +kernel
theorem dX12_endsBy_1 : decode cX12_endsBy 1 = .ok (.istore_n 2, 1) := by decide +kernel
theorem dX12_endsBy_2 : decode cX12_endsBy 2 = .ok (.iconst 0, 1) := by decide +kernel
theorem dX12_endsBy_3 : decode cX12_endsBy 3 = .ok (.istore_n 3, 1) := by decide +kernel
theorem dX12_endsBy_4 : decode cX12_endsBy 4 = .ok (.iload_n 3, 1) := by decide +kernel
theorem dX12_endsBy_5 : decode cX12_endsBy 5 = .ok (.aload_n 0, 1) := by decide +kernel
theorem dX12_endsBy_6 : decode cX12_endsBy 6 = .ok (.getfield 128, 3) := by decide +kernel
theorem dX12_endsBy_9 : decode cX12_endsBy 9 = .ok (.if_icmp .ge 41, 3) := by decide +kernel
theorem dX12_endsBy_12 : decode cX12_endsBy 12 = .ok (.iload_n 2, 1) := by decide +kernel
theorem dX12_endsBy_13 : decode cX12_endsBy 13 = .ok (.aload_n 0, 1) := by decide +kernel
theorem dX12_endsBy_14 : decode cX12_endsBy 14 = .ok (.getfield 7, 3) := by decide +kernel
theorem dX12_endsBy_17 : decode cX12_endsBy 17 = .ok (.iload_n 3, 1) := by decide +kernel
theorem dX12_endsBy_18 : decode cX12_endsBy 18 = .ok (.iaload, 1) := by decide +kernel
theorem dX12_endsBy_19 : decode cX12_endsBy 19 = .ok (.iconst 2, 1) := by decide +kernel
theorem dX12_endsBy_20 : decode cX12_endsBy 20 = .ok (.irem, 1) := by decide +kernel
theorem dX12_endsBy_21 : decode cX12_endsBy 21 = .ok (.iload_n 1, 1) := by decide +kernel
theorem dX12_endsBy_22 : decode cX12_endsBy 22 = .ok (.iload_n 3, 1) := by decide +kernel
theorem dX12_endsBy_23 : decode cX12_endsBy 23 = .ok (.invokestatic 292, 3) := by decide +kernel
theorem dX12_endsBy_26 : decode cX12_endsBy 26 = .ok (.ifCond .eq 7, 3) := by decide +kernel
theorem dX12_endsBy_29 : decode cX12_endsBy 29 = .ok (.iconst 1, 1) := by decide +kernel
theorem dX12_endsBy_30 : decode cX12_endsBy 30 = .ok (.goto 4, 3) := by decide +kernel
theorem dX12_endsBy_33 : decode cX12_endsBy 33 = .ok (.iconst 0, 1) := by decide +kernel
theorem dX12_endsBy_34 : decode cX12_endsBy 34 = .ok (.if_icmp .ne 7, 3) := by decide +kernel
theorem dX12_endsBy_37 : decode cX12_endsBy 37 = .ok (.iconst 1, 1) := by decide +kernel
theorem dX12_endsBy_38 : decode cX12_endsBy 38 = .ok (.goto 4, 3) := by decide +kernel
theorem dX12_endsBy_41 : decode cX12_endsBy 41 = .ok (.iconst (-1), 1) := by decide +kernel
theorem dX12_endsBy_42 : decode cX12_endsBy 42 = .ok (.iadd, 1) := by decide +kernel
theorem dX12_endsBy_43 : decode cX12_endsBy 43 = .ok (.istore_n 2, 1) := by decide +kernel
theorem dX12_endsBy_44 : decode cX12_endsBy 44 = .ok (.iinc 3 1, 3) := by decide +kernel
theorem dX12_endsBy_47 : decode cX12_endsBy 47 = .ok (.goto (-43), 3) := by decide +kernel
theorem dX12_endsBy_50 : decode cX12_endsBy 50 = .ok (.iload_n 2, 1) := by decide +kernel
theorem dX12_endsBy_51 : decode cX12_endsBy 51 = .ok (.ireturn, 1) := by decide +kernel
theorem dX12_bestOf_0 : decode cX12_bestOf 0 = .ok (.iload_n 2, 1) := by decide +kernel
theorem dX12_bestOf_1 : decode cX12_bestOf 1 = .ok (.ifCond .ne 9, 3) := by decide +kernel
theorem dX12_bestOf_4 : decode cX12_bestOf 4 = .ok (.aload_n 0, 1) := by decide +kernel
theorem dX12_bestOf_5 : decode cX12_bestOf 5 = .ok (.iload_n 1, 1) := by decide +kernel
theorem dX12_bestOf_6 : decode cX12_bestOf 6 = .ok (.invokevirtual 356, 3) := by decide +kernel
theorem dX12_bestOf_9 : decode cX12_bestOf 9 = .ok (.ireturn, 1) := by decide +kernel
theorem dX12_bestOf_10 : decode cX12_bestOf 10 = .ok (.aload_n 0, 1) := by decide +kernel
theorem dX12_bestOf_11 : decode cX12_bestOf 11 = .ok (.iload_n 1, 1) := by decide +kernel
theorem dX12_bestOf_12 : decode cX12_bestOf 12 = .ok (.iload_n 2, 1) := by decide +kernel
theorem dX12_bestOf_13 : decode cX12_bestOf 13 = .ok (.iconst 1, 1) := by decide +kernel
theorem dX12_bestOf_14 : decode cX12_bestOf 14 = .ok (.isub, 1) := by decide +kernel
theorem dX12_bestOf_15 : decode cX12_bestOf 15 = .ok (.iload_n 3, 1) := by decide +kernel
theorem dX12_bestOf_16 : decode cX12_bestOf 16 = .ok (.ifCond .ne 7, 3) := by decide +kernel
theorem dX12_bestOf_19 : decode cX12_bestOf 19 = .ok (.iconst 1, 1) := by decide +kernel
theorem dX12_bestOf_20 : decode cX12_bestOf 20 = .ok (.goto 4, 3) := by decide +kernel
theorem dX12_bestOf_23 : decode cX12_bestOf 23 = .ok (.iconst 0, 1) := by decide +kernel
theorem dX12_bestOf_24 : decode cX12_bestOf 24 = .ok (.invokevirtual 359, 3) := by decide +kernel
theorem dX12_bestOf_27 : decode cX12_bestOf 27 = .ok (.istore 4, 2) := by decide +kernel
theorem dX12_bestOf_29 : decode cX12_bestOf 29 = .ok (.iconst 0, 1) := by decide +kernel
theorem dX12_bestOf_30 : decode cX12_bestOf 30 = .ok (.istore 5, 2) := by decide +kernel
theorem dX12_bestOf_32 : decode cX12_bestOf 32 = .ok (.iload 5, 2) := by decide +kernel
theorem dX12_bestOf_34 : decode cX12_bestOf 34 = .ok (.aload_n 0, 1) := by decide +kernel
theorem dX12_bestOf_35 : decode cX12_bestOf 35 = .ok (.getfield 128, 3) := by decide +kernel
theorem dX12_bestOf_38 : decode cX12_bestOf 38 = .ok (.if_icmp .ge 58, 3) := by decide +kernel
theorem dX12_bestOf_41 : decode cX12_bestOf 41 = .ok (.aload_n 0, 1) := by decide +kernel
theorem dX12_bestOf_42 : decode cX12_bestOf 42 = .ok (.iload_n 1, 1) := by decide +kernel
theorem dX12_bestOf_43 : decode cX12_bestOf 43 = .ok (.iconst 1, 1) := by decide +kernel
theorem dX12_bestOf_44 : decode cX12_bestOf 44 = .ok (.iload 5, 2) := by decide +kernel
theorem dX12_bestOf_46 : decode cX12_bestOf 46 = .ok (.ishl, 1) := by decide +kernel
theorem dX12_bestOf_47 : decode cX12_bestOf 47 = .ok (.ixor, 1) := by decide +kernel
theorem dX12_bestOf_48 : decode cX12_bestOf 48 = .ok (.iload_n 2, 1) := by decide +kernel
theorem dX12_bestOf_49 : decode cX12_bestOf 49 = .ok (.iconst 1, 1) := by decide +kernel
theorem dX12_bestOf_50 : decode cX12_bestOf 50 = .ok (.isub, 1) := by decide +kernel
theorem dX12_bestOf_51 : decode cX12_bestOf 51 = .ok (.iload_n 3, 1) := by decide +kernel
theorem dX12_bestOf_52 : decode cX12_bestOf 52 = .ok (.ifCond .ne 7, 3) := by decide +kernel
theorem dX12_bestOf_55 : decode cX12_bestOf 55 = .ok (.iconst 1, 1) := by decide +kernel
theorem dX12_bestOf_56 : decode cX12_bestOf 56 = .ok (.goto 4, 3) := by decide +kernel
theorem dX12_bestOf_59 : decode cX12_bestOf 59 = .ok (.iconst 0, 1) := by decide +kernel
theorem dX12_bestOf_60 : decode cX12_bestOf 60 = .ok (.invokevirtual 359, 3) := by decide +kernel
theorem dX12_bestOf_63 : decode cX12_bestOf 63 = .ok (.istore 6, 2) := by decide +kernel
theorem dX12_bestOf_65 : decode cX12_bestOf 65 = .ok (.iload_n 3, 1) := by decide +kernel
theorem dX12_bestOf_66 : decode cX12_bestOf 66 = .ok (.ifCond .eq 13, 3) := by decide +kernel
theorem dX12_bestOf_69 : decode cX12_bestOf 69 = .ok (.iload 6, 2) := by decide +kernel
theorem dX12_bestOf_71 : decode cX12_bestOf 71 = .ok (.iload 4, 2) := by decide +kernel
theorem dX12_bestOf_73 : decode cX12_bestOf 73 = .ok (.if_icmp .le 17, 3) := by decide +kernel
theorem dX12_bestOf_76 : decode cX12_bestOf 76 = .ok (.goto 10, 3) := by decide +kernel
theorem dX12_bestOf_79 : decode cX12_bestOf 79 = .ok (.iload 6, 2) := by decide +kernel
theorem dX12_bestOf_81 : decode cX12_bestOf 81 = .ok (.iload 4, 2) := by decide +kernel
theorem dX12_bestOf_83 : decode cX12_bestOf 83 = .ok (.if_icmp .ge 7, 3) := by decide +kernel
theorem dX12_bestOf_86 : decode cX12_bestOf 86 = .ok (.iload 6, 2) := by decide +kernel
theorem dX12_bestOf_88 : decode cX12_bestOf 88 = .ok (.istore 4, 2) := by decide +kernel
theorem dX12_bestOf_90 : decode cX12_bestOf 90 = .ok (.iinc 5 1, 3) := by decide +kernel
theorem dX12_bestOf_93 : decode cX12_bestOf 93 = .ok (.goto (-61), 3) := by decide +kernel
theorem dX12_bestOf_96 : decode cX12_bestOf 96 = .ok (.iload 4, 2) := by decide +kernel
theorem dX12_bestOf_98 : decode cX12_bestOf 98 = .ok (.ireturn, 1) := by decide +kernel
theorem dX12_byTurns_0 : decode cX12_byTurns 0 = .ok (.iload_n 1, 1) := by decide +kernel
theorem dX12_byTurns_1 : decode cX12_byTurns 1 = .ok (.iconst 1, 1) := by decide +kernel
theorem dX12_byTurns_2 : decode cX12_byTurns 2 = .ok (.iconst 4, 1) := by decide +kernel
theorem dX12_byTurns_3 : decode cX12_byTurns 3 = .ok (.invokestatic 131, 3) := by decide +kernel
theorem dX12_byTurns_6 : decode cX12_byTurns 6 = .ok (.ifCond .eq 12, 3) := by decide +kernel
theorem dX12_byTurns_9 : decode cX12_byTurns 9 = .ok (.iload_n 2, 1) := by decide +kernel
theorem dX12_byTurns_10 : decode cX12_byTurns 10 = .ok (.iconst 0, 1) := by decide +kernel
theorem dX12_byTurns_11 : decode cX12_byTurns 11 = .ok (.iconst 1, 1) := by decide +kernel
theorem dX12_byTurns_12 : decode cX12_byTurns 12 = .ok (.invokestatic 131, 3) := by decide +kernel
theorem dX12_byTurns_15 : decode cX12_byTurns 15 = .ok (.ifCond .ne 7, 3) := by decide +kernel
theorem dX12_byTurns_18 : decode cX12_byTurns 18 = .ok (.ldc_w 363, 3) := by decide +kernel
theorem dX12_byTurns_21 : decode cX12_byTurns 21 = .ok (.ireturn, 1) := by decide +kernel
theorem dX12_byTurns_22 : decode cX12_byTurns 22 = .ok (.aload_n 0, 1) := by decide +kernel
theorem dX12_byTurns_23 : decode cX12_byTurns 23 = .ok (.iconst 0, 1) := by decide +kernel
theorem dX12_byTurns_24 : decode cX12_byTurns 24 = .ok (.iload_n 1, 1) := by decide +kernel
theorem dX12_byTurns_25 : decode cX12_byTurns 25 = .ok (.iconst 1, 1) := by decide +kernel
theorem dX12_byTurns_26 : decode cX12_byTurns 26 = .ok (.invokevirtual 359, 3) := by decide +kernel
theorem dX12_byTurns_29 : decode cX12_byTurns 29 = .ok (.istore_n 3, 1) := by decide +kernel
theorem dX12_byTurns_30 : decode cX12_byTurns 30 = .ok (.iload_n 2, 1) := by decide +kernel
theorem dX12_byTurns_31 : decode cX12_byTurns 31 = .ok (.ifCond .ne 5, 3) := by decide +kernel
theorem dX12_byTurns_34 : decode cX12_byTurns 34 = .ok (.iload_n 3, 1) := by decide +kernel
theorem dX12_byTurns_35 : decode cX12_byTurns 35 = .ok (.ireturn, 1) := by decide +kernel
theorem dX12_byTurns_36 : decode cX12_byTurns 36 = .ok (.aload_n 0, 1) := by decide +kernel
theorem dX12_byTurns_37 : decode cX12_byTurns 37 = .ok (.iconst 0, 1) := by decide +kernel
theorem dX12_byTurns_38 : decode cX12_byTurns 38 = .ok (.iload_n 1, 1) := by decide +kernel
theorem dX12_byTurns_39 : decode cX12_byTurns 39 = .ok (.iconst 1, 1) := by decide +kernel
theorem dX12_byTurns_40 : decode cX12_byTurns 40 = .ok (.isub, 1) := by decide +kernel
theorem dX12_byTurns_41 : decode cX12_byTurns 41 = .ok (.iconst 0, 1) := by decide +kernel
theorem dX12_byTurns_42 : decode cX12_byTurns 42 = .ok (.invokevirtual 359, 3) := by decide +kernel
theorem dX12_byTurns_45 : decode cX12_byTurns 45 = .ok (.iload_n 3, 1) := by decide +kernel
theorem dX12_byTurns_46 : decode cX12_byTurns 46 = .ok (.if_icmp .ne 6, 3) := by decide +kernel
theorem dX12_byTurns_49 : decode cX12_byTurns 49 = .ok (.bipush 9, 2) := by decide +kernel
theorem dX12_byTurns_51 : decode cX12_byTurns 51 = .ok (.ireturn, 1) := by decide +kernel
theorem dX12_byTurns_52 : decode cX12_byTurns 52 = .ok (.iconst 0, 1) := by decide +kernel
theorem dX12_byTurns_53 : decode cX12_byTurns 53 = .ok (.istore 4, 2) := by decide +kernel
theorem dX12_byTurns_55 : decode cX12_byTurns 55 = .ok (.iload 4, 2) := by decide +kernel
theorem dX12_byTurns_57 : decode cX12_byTurns 57 = .ok (.aload_n 0, 1) := by decide +kernel
theorem dX12_byTurns_58 : decode cX12_byTurns 58 = .ok (.getfield 128, 3) := by decide +kernel
theorem dX12_byTurns_61 : decode cX12_byTurns 61 = .ok (.if_icmp .ge 28, 3) := by decide +kernel
theorem dX12_byTurns_64 : decode cX12_byTurns 64 = .ok (.aload_n 0, 1) := by decide +kernel
theorem dX12_byTurns_65 : decode cX12_byTurns 65 = .ok (.iconst 1, 1) := by decide +kernel
theorem dX12_byTurns_66 : decode cX12_byTurns 66 = .ok (.iload 4, 2) := by decide +kernel
theorem dX12_byTurns_68 : decode cX12_byTurns 68 = .ok (.ishl, 1) := by decide +kernel
theorem dX12_byTurns_69 : decode cX12_byTurns 69 = .ok (.iload_n 1, 1) := by decide +kernel
theorem dX12_byTurns_70 : decode cX12_byTurns 70 = .ok (.iconst 1, 1) := by decide +kernel
theorem dX12_byTurns_71 : decode cX12_byTurns 71 = .ok (.isub, 1) := by decide +kernel
theorem dX12_byTurns_72 : decode cX12_byTurns 72 = .ok (.iconst 0, 1) := by decide +kernel
theorem dX12_byTurns_73 : decode cX12_byTurns 73 = .ok (.invokevirtual 359, 3) := by decide +kernel
theorem dX12_byTurns_76 : decode cX12_byTurns 76 = .ok (.iload_n 3, 1) := by decide +kernel
theorem dX12_byTurns_77 : decode cX12_byTurns 77 = .ok (.if_icmp .ne 6, 3) := by decide +kernel
theorem dX12_byTurns_80 : decode cX12_byTurns 80 = .ok (.iload 4, 2) := by decide +kernel
theorem dX12_byTurns_82 : decode cX12_byTurns 82 = .ok (.ireturn, 1) := by decide +kernel
theorem dX12_byTurns_83 : decode cX12_byTurns 83 = .ok (.iinc 4 1, 3) := by decide +kernel
theorem dX12_byTurns_86 : decode cX12_byTurns 86 = .ok (.goto (-31), 3) := by decide +kernel
theorem dX12_byTurns_89 : decode cX12_byTurns 89 = .ok (.bipush 9, 2) := by decide +kernel
theorem dX12_byTurns_91 : decode cX12_byTurns 91 = .ok (.ireturn, 1) := by decide +kernel
theorem dX12_drawn_0 : decode cX12_drawn 0 = .ok (.iload_n 2, 1) := by decide +kernel
theorem dX12_drawn_1 : decode cX12_drawn 1 = .ok (.bipush 100, 2) := by decide +kernel
theorem dX12_drawn_3 : decode cX12_drawn 3 = .ok (.idiv, 1) := by decide +kernel
theorem dX12_drawn_4 : decode cX12_drawn 4 = .ok (.bipush 100, 2) := by decide +kernel
theorem dX12_drawn_6 : decode cX12_drawn 6 = .ok (.irem, 1) := by decide +kernel
theorem dX12_drawn_7 : decode cX12_drawn 7 = .ok (.istore 4, 2) := by decide +kernel
theorem dX12_drawn_9 : decode cX12_drawn 9 = .ok (.iload_n 2, 1) := by decide +kernel
theorem dX12_drawn_10 : decode cX12_drawn 10 = .ok (.ifCond .lt 50, 3) := by decide +kernel
theorem dX12_drawn_13 : decode cX12_drawn 13 = .ok (.iload_n 2, 1) := by decide +kernel
theorem dX12_drawn_14 : decode cX12_drawn 14 = .ok (.sipush 10000, 3) := by decide +kernel
theorem dX12_drawn_17 : decode cX12_drawn 17 = .ok (.idiv, 1) := by decide +kernel
theorem dX12_drawn_18 : decode cX12_drawn 18 = .ok (.iconst 1, 1) := by decide +kernel
theorem dX12_drawn_19 : decode cX12_drawn 19 = .ok (.bipush 30, 2) := by decide +kernel
theorem dX12_drawn_21 : decode cX12_drawn 21 = .ok (.invokestatic 131, 3) := by decide +kernel
theorem dX12_drawn_24 : decode cX12_drawn 24 = .ok (.ifCond .eq 36, 3) := by decide +kernel
theorem dX12_drawn_27 : decode cX12_drawn 27 = .ok (.iload 4, 2) := by decide +kernel
theorem dX12_drawn_29 : decode cX12_drawn 29 = .ok (.iconst 1, 1) := by decide +kernel
theorem dX12_drawn_30 : decode cX12_drawn 30 = .ok (.bipush 40, 2) := by decide +kernel
theorem dX12_drawn_32 : decode cX12_drawn 32 = .ok (.invokestatic 131, 3) := by decide +kernel
theorem dX12_drawn_35 : decode cX12_drawn 35 = .ok (.ifCond .eq 25, 3) := by decide +kernel
theorem dX12_drawn_38 : decode cX12_drawn 38 = .ok (.iload_n 2, 1) := by decide +kernel
theorem dX12_drawn_39 : decode cX12_drawn 39 = .ok (.bipush 100, 2) := by decide +kernel
theorem dX12_drawn_41 : decode cX12_drawn 41 = .ok (.irem, 1) := by decide +kernel
theorem dX12_drawn_42 : decode cX12_drawn 42 = .ok (.bipush 12, 2) := by decide +kernel
theorem dX12_drawn_44 : decode cX12_drawn 44 = .ok (.if_icmp .gt 16, 3) := by decide +kernel
theorem dX12_drawn_47 : decode cX12_drawn 47 = .ok (.iload_n 3, 1) := by decide +kernel
theorem dX12_drawn_48 : decode cX12_drawn 48 = .ok (.iconst (-1), 1) := by decide +kernel
theorem dX12_drawn_49 : decode cX12_drawn 49 = .ok (.if_icmp .eq 13, 3) := by decide +kernel
theorem dX12_drawn_52 : decode cX12_drawn 52 = .ok (.aload_n 0, 1) := by decide +kernel
theorem dX12_drawn_53 : decode cX12_drawn 53 = .ok (.iload_n 3, 1) := by decide +kernel
theorem dX12_drawn_54 : decode cX12_drawn 54 = .ok (.invokevirtual 168, 3) := by decide +kernel
theorem dX12_drawn_57 : decode cX12_drawn 57 = .ok (.ifCond .ne 5, 3) := by decide +kernel
theorem dX12_drawn_60 : decode cX12_drawn 60 = .ok (.iconst (-1), 1) := by decide +kernel
theorem dX12_drawn_61 : decode cX12_drawn 61 = .ok (.ireturn, 1) := by decide +kernel
theorem dX12_drawn_62 : decode cX12_drawn 62 = .ok (.iload_n 1, 1) := by decide +kernel
theorem dX12_drawn_63 : decode cX12_drawn 63 = .ok (.istore 5, 2) := by decide +kernel
theorem dX12_drawn_65 : decode cX12_drawn 65 = .ok (.iconst 0, 1) := by decide +kernel
theorem dX12_drawn_66 : decode cX12_drawn 66 = .ok (.istore 6, 2) := by decide +kernel
theorem dX12_drawn_68 : decode cX12_drawn 68 = .ok (.iconst 0, 1) := by decide +kernel
theorem dX12_drawn_69 : decode cX12_drawn 69 = .ok (.istore 7, 2) := by decide +kernel
theorem dX12_drawn_71 : decode cX12_drawn 71 = .ok (.iload 7, 2) := by decide +kernel
theorem dX12_drawn_73 : decode cX12_drawn 73 = .ok (.iload_n 2, 1) := by decide +kernel
theorem dX12_drawn_74 : decode cX12_drawn 74 = .ok (.sipush 10000, 3) := by decide +kernel
theorem dX12_drawn_77 : decode cX12_drawn 77 = .ok (.idiv, 1) := by decide +kernel
theorem dX12_drawn_78 : decode cX12_drawn 78 = .ok (.if_icmp .ge 124, 3) := by decide +kernel
theorem dX12_drawn_81 : decode cX12_drawn 81 = .ok (.aload_n 0, 1) := by decide +kernel
theorem dX12_drawn_82 : decode cX12_drawn 82 = .ok (.invokevirtual 304, 3) := by decide +kernel
theorem dX12_drawn_85 : decode cX12_drawn 85 = .ok (.iconst 0, 1) := by decide +kernel
theorem dX12_drawn_86 : decode cX12_drawn 86 = .ok (.istore 8, 2) := by decide +kernel
theorem dX12_drawn_88 : decode cX12_drawn 88 = .ok (.iload 8, 2) := by decide +kernel
theorem dX12_drawn_90 : decode cX12_drawn 90 = .ok (.iload 4, 2) := by decide +kernel
theorem dX12_drawn_92 : decode cX12_drawn 92 = .ok (.if_icmp .ge 70, 3) := by decide +kernel
theorem dX12_drawn_95 : decode cX12_drawn 95 = .ok (.iload 5, 2) := by decide +kernel
theorem dX12_drawn_97 : decode cX12_drawn 97 = .ok (.ldc_w 364, 3) := by decide +kernel
theorem dX12_drawn_100 : decode cX12_drawn 100 = .ok (.imul, 1) := by decide +kernel
theorem dX12_drawn_101 : decode cX12_drawn 101 = .ok (.sipush 12345, 3) := by decide +kernel
theorem dX12_drawn_104 : decode cX12_drawn 104 = .ok (.iadd, 1) := by decide +kernel
theorem dX12_drawn_105 : decode cX12_drawn 105 = .ok (.istore 5, 2) := by decide +kernel
theorem dX12_drawn_107 : decode cX12_drawn 107 = .ok (.aload_n 0, 1) := by decide +kernel
theorem dX12_drawn_108 : decode cX12_drawn 108 = .ok (.getfield 128, 3) := by decide +kernel
theorem dX12_drawn_111 : decode cX12_drawn 111 = .ok (.ifCond .le 41, 3) := by decide +kernel
theorem dX12_drawn_114 : decode cX12_drawn 114 = .ok (.iload 5, 2) := by decide +kernel
theorem dX12_drawn_116 : decode cX12_drawn 116 = .ok (.bipush 24, 2) := by decide +kernel
theorem dX12_drawn_118 : decode cX12_drawn 118 = .ok (.iushr, 1) := by decide +kernel
theorem dX12_drawn_119 : decode cX12_drawn 119 = .ok (.bipush 12, 2) := by decide +kernel
theorem dX12_drawn_121 : decode cX12_drawn 121 = .ok (.irem, 1) := by decide +kernel
theorem dX12_drawn_122 : decode cX12_drawn 122 = .ok (.iload_n 2, 1) := by decide +kernel
theorem dX12_drawn_123 : decode cX12_drawn 123 = .ok (.bipush 100, 2) := by decide +kernel
theorem dX12_drawn_125 : decode cX12_drawn 125 = .ok (.irem, 1) := by decide +kernel
theorem dX12_drawn_126 : decode cX12_drawn 126 = .ok (.if_icmp .ge 26, 3) := by decide +kernel
theorem dX12_drawn_129 : decode cX12_drawn 129 = .ok (.aload_n 0, 1) := by decide +kernel
theorem dX12_drawn_130 : decode cX12_drawn 130 = .ok (.getfield 78, 3) := by decide +kernel
theorem dX12_drawn_133 : decode cX12_drawn 133 = .ok (.iload 5, 2) := by decide +kernel
theorem dX12_drawn_135 : decode cX12_drawn 135 = .ok (.bipush 8, 2) := by decide +kernel
theorem dX12_drawn_137 : decode cX12_drawn 137 = .ok (.iushr, 1) := by decide +kernel
theorem dX12_drawn_138 : decode cX12_drawn 138 = .ok (.aload_n 0, 1) := by decide +kernel
theorem dX12_drawn_139 : decode cX12_drawn 139 = .ok (.getfield 128, 3) := by decide +kernel
theorem dX12_drawn_142 : decode cX12_drawn 142 = .ok (.irem, 1) := by decide +kernel
theorem dX12_drawn_143 : decode cX12_drawn 143 = .ok (.iload 5, 2) := by decide +kernel
theorem dX12_drawn_145 : decode cX12_drawn 145 = .ok (.bipush 16, 2) := by decide +kernel
theorem dX12_drawn_147 : decode cX12_drawn 147 = .ok (.iushr, 1) := by decide +kernel
theorem dX12_drawn_148 : decode cX12_drawn 148 = .ok (.bipush 12, 2) := by decide +kernel
theorem dX12_drawn_150 : decode cX12_drawn 150 = .ok (.irem, 1) := by decide +kernel
theorem dX12_drawn_151 : decode cX12_drawn 151 = .ok (.iastore, 1) := by decide +kernel
theorem dX12_drawn_152 : decode cX12_drawn 152 = .ok (.aload_n 0, 1) := by decide +kernel
theorem dX12_drawn_153 : decode cX12_drawn 153 = .ok (.invokevirtual 319, 3) := by decide +kernel
theorem dX12_drawn_156 : decode cX12_drawn 156 = .ok (.iinc 8 1, 3) := by decide +kernel
theorem dX12_drawn_159 : decode cX12_drawn 159 = .ok (.goto (-71), 3) := by decide +kernel
theorem dX12_drawn_162 : decode cX12_drawn 162 = .ok (.iload 6, 2) := by decide +kernel
theorem dX12_drawn_164 : decode cX12_drawn 164 = .ok (.iload_n 3, 1) := by decide +kernel
theorem dX12_drawn_165 : decode cX12_drawn 165 = .ok (.ifCond .ge 15, 3) := by decide +kernel
theorem dX12_drawn_168 : decode cX12_drawn 168 = .ok (.aload_n 0, 1) := by decide +kernel
theorem dX12_drawn_169 : decode cX12_drawn 169 = .ok (.aload_n 0, 1) := by decide +kernel
theorem dX12_drawn_170 : decode cX12_drawn 170 = .ok (.iconst 2, 1) := by decide +kernel
theorem dX12_drawn_171 : decode cX12_drawn 171 = .ok (.invokevirtual 328, 3) := by decide +kernel
theorem dX12_drawn_174 : decode cX12_drawn 174 = .ok (.invokevirtual 331, 3) := by decide +kernel
theorem dX12_drawn_177 : decode cX12_drawn 177 = .ok (.goto 16, 3) := by decide +kernel
theorem dX12_drawn_180 : decode cX12_drawn 180 = .ok (.aload_n 0, 1) := by decide +kernel
theorem dX12_drawn_181 : decode cX12_drawn 181 = .ok (.iload_n 3, 1) := by decide +kernel
theorem dX12_drawn_182 : decode cX12_drawn 182 = .ok (.invokevirtual 289, 3) := by decide +kernel
theorem dX12_drawn_185 : decode cX12_drawn 185 = .ok (.ifCond .eq 7, 3) := by decide +kernel
theorem dX12_drawn_188 : decode cX12_drawn 188 = .ok (.iconst 1, 1) := by decide +kernel
theorem dX12_drawn_189 : decode cX12_drawn 189 = .ok (.goto 4, 3) := by decide +kernel
theorem dX12_drawn_192 : decode cX12_drawn 192 = .ok (.iconst 0, 1) := by decide +kernel
theorem dX12_drawn_193 : decode cX12_drawn 193 = .ok (.iadd, 1) := by decide +kernel
theorem dX12_drawn_194 : decode cX12_drawn 194 = .ok (.istore 6, 2) := by decide +kernel
theorem dX12_drawn_196 : decode cX12_drawn 196 = .ok (.iinc 7 1, 3) := by decide +kernel
theorem dX12_drawn_199 : decode cX12_drawn 199 = .ok (.goto (-128), 3) := by decide +kernel
theorem dX12_drawn_202 : decode cX12_drawn 202 = .ok (.iload 6, 2) := by decide +kernel
theorem dX12_drawn_204 : decode cX12_drawn 204 = .ok (.ireturn, 1) := by decide +kernel
theorem dX12_moves_0 : decode cX12_moves 0 = .ok (.aload_n 0, 1) := by decide +kernel
theorem dX12_moves_1 : decode cX12_moves 1 = .ok (.iload_n 1, 1) := by decide +kernel
theorem dX12_moves_2 : decode cX12_moves 2 = .ok (.invokevirtual 142, 3) := by decide +kernel
theorem dX12_moves_5 : decode cX12_moves 5 = .ok (.ifCond .eq 10, 3) := by decide +kernel
theorem dX12_moves_8 : decode cX12_moves 8 = .ok (.iload_n 2, 1) := by decide +kernel
theorem dX12_moves_9 : decode cX12_moves 9 = .ok (.invokestatic 138, 3) := by decide +kernel
theorem dX12_moves_12 : decode cX12_moves 12 = .ok (.ifCond .ne 5, 3) := by decide +kernel
theorem dX12_moves_15 : decode cX12_moves 15 = .ok (.iconst (-1), 1) := by decide +kernel
theorem dX12_moves_16 : decode cX12_moves 16 = .ok (.ireturn, 1) := by decide +kernel
theorem dX12_moves_17 : decode cX12_moves 17 = .ok (.aload_n 0, 1) := by decide +kernel
theorem dX12_moves_18 : decode cX12_moves 18 = .ok (.getfield 7, 3) := by decide +kernel
theorem dX12_moves_21 : decode cX12_moves 21 = .ok (.iload_n 1, 1) := by decide +kernel
theorem dX12_moves_22 : decode cX12_moves 22 = .ok (.iaload, 1) := by decide +kernel
theorem dX12_moves_23 : decode cX12_moves 23 = .ok (.istore_n 3, 1) := by decide +kernel
theorem dX12_moves_24 : decode cX12_moves 24 = .ok (.aload_n 0, 1) := by decide +kernel
theorem dX12_moves_25 : decode cX12_moves 25 = .ok (.getfield 7, 3) := by decide +kernel
theorem dX12_moves_28 : decode cX12_moves 28 = .ok (.iload_n 1, 1) := by decide +kernel
theorem dX12_moves_29 : decode cX12_moves 29 = .ok (.iload_n 2, 1) := by decide +kernel
theorem dX12_moves_30 : decode cX12_moves 30 = .ok (.iastore, 1) := by decide +kernel
theorem dX12_moves_31 : decode cX12_moves 31 = .ok (.aload_n 0, 1) := by decide +kernel
theorem dX12_moves_32 : decode cX12_moves 32 = .ok (.getfield 90, 3) := by decide +kernel
theorem dX12_moves_35 : decode cX12_moves 35 = .ok (.iconst 0, 1) := by decide +kernel
theorem dX12_moves_36 : decode cX12_moves 36 = .ok (.dup2, 1) := by decide +kernel
theorem dX12_moves_37 : decode cX12_moves 37 = .ok (.iaload, 1) := by decide +kernel
theorem dX12_moves_38 : decode cX12_moves 38 = .ok (.iconst 1, 1) := by decide +kernel
theorem dX12_moves_39 : decode cX12_moves 39 = .ok (.iadd, 1) := by decide +kernel
theorem dX12_moves_40 : decode cX12_moves 40 = .ok (.iastore, 1) := by decide +kernel
theorem dX12_moves_41 : decode cX12_moves 41 = .ok (.iload_n 3, 1) := by decide +kernel
theorem dX12_moves_42 : decode cX12_moves 42 = .ok (.ireturn, 1) := by decide +kernel
theorem dX12_day_0 : decode cX12_day 0 = .ok (.aload_n 0, 1) := by decide +kernel
theorem dX12_day_1 : decode cX12_day 1 = .ok (.invokevirtual 304, 3) := by decide +kernel
theorem dX12_day_4 : decode cX12_day 4 = .ok (.aload_n 0, 1) := by decide +kernel
theorem dX12_day_5 : decode cX12_day 5 = .ok (.iconst 2, 1) := by decide +kernel
theorem dX12_day_6 : decode cX12_day 6 = .ok (.invokevirtual 328, 3) := by decide +kernel
theorem dX12_day_9 : decode cX12_day 9 = .ok (.istore_n 1, 1) := by decide +kernel
theorem dX12_day_10 : decode cX12_day 10 = .ok (.aload_n 0, 1) := by decide +kernel
theorem dX12_day_11 : decode cX12_day 11 = .ok (.invokevirtual 319, 3) := by decide +kernel
theorem dX12_day_14 : decode cX12_day 14 = .ok (.iconst 0, 1) := by decide +kernel
theorem dX12_day_15 : decode cX12_day 15 = .ok (.istore_n 2, 1) := by decide +kernel
theorem dX12_day_16 : decode cX12_day 16 = .ok (.iload_n 2, 1) := by decide +kernel
theorem dX12_day_17 : decode cX12_day 17 = .ok (.aload_n 0, 1) := by decide +kernel
theorem dX12_day_18 : decode cX12_day 18 = .ok (.getfield 135, 3) := by decide +kernel
theorem dX12_day_21 : decode cX12_day 21 = .ok (.if_icmp .ge 33, 3) := by decide +kernel
theorem dX12_day_24 : decode cX12_day 24 = .ok (.aload_n 0, 1) := by decide +kernel
theorem dX12_day_25 : decode cX12_day 25 = .ok (.getfield 31, 3) := by decide +kernel
theorem dX12_day_28 : decode cX12_day 28 = .ok (.iload_n 2, 1) := by decide +kernel
theorem dX12_day_29 : decode cX12_day 29 = .ok (.aload_n 0, 1) := by decide +kernel
theorem dX12_day_30 : decode cX12_day 30 = .ok (.getfield 81, 3) := by decide +kernel
theorem dX12_day_33 : decode cX12_day 33 = .ok (.iload_n 2, 1) := by decide +kernel
theorem dX12_day_34 : decode cX12_day 34 = .ok (.iaload, 1) := by decide +kernel
theorem dX12_day_35 : decode cX12_day 35 = .ok (.iastore, 1) := by decide +kernel
theorem dX12_day_36 : decode cX12_day 36 = .ok (.aload_n 0, 1) := by decide +kernel
theorem dX12_day_37 : decode cX12_day 37 = .ok (.getfield 34, 3) := by decide +kernel
theorem dX12_day_40 : decode cX12_day 40 = .ok (.iload_n 2, 1) := by decide +kernel
theorem dX12_day_41 : decode cX12_day 41 = .ok (.aload_n 0, 1) := by decide +kernel
theorem dX12_day_42 : decode cX12_day 42 = .ok (.getfield 84, 3) := by decide +kernel
theorem dX12_day_45 : decode cX12_day 45 = .ok (.iload_n 2, 1) := by decide +kernel
theorem dX12_day_46 : decode cX12_day 46 = .ok (.iaload, 1) := by decide +kernel
theorem dX12_day_47 : decode cX12_day 47 = .ok (.iastore, 1) := by decide +kernel
theorem dX12_day_48 : decode cX12_day 48 = .ok (.iinc 2 1, 3) := by decide +kernel
theorem dX12_day_51 : decode cX12_day 51 = .ok (.goto (-35), 3) := by decide +kernel
theorem dX12_day_54 : decode cX12_day 54 = .ok (.aload_n 0, 1) := by decide +kernel
theorem dX12_day_55 : decode cX12_day 55 = .ok (.getfield 37, 3) := by decide +kernel
theorem dX12_day_58 : decode cX12_day 58 = .ok (.iconst 0, 1) := by decide +kernel
theorem dX12_day_59 : decode cX12_day 59 = .ok (.aload_n 0, 1) := by decide +kernel
theorem dX12_day_60 : decode cX12_day 60 = .ok (.getfield 255, 3) := by decide +kernel
theorem dX12_day_63 : decode cX12_day 63 = .ok (.iastore, 1) := by decide +kernel
theorem dX12_day_64 : decode cX12_day 64 = .ok (.aload_n 0, 1) := by decide +kernel
theorem dX12_day_65 : decode cX12_day 65 = .ok (.getfield 37, 3) := by decide +kernel
theorem dX12_day_68 : decode cX12_day 68 = .ok (.iconst 3, 1) := by decide +kernel
theorem dX12_day_69 : decode cX12_day 69 = .ok (.aload_n 0, 1) := by decide +kernel
theorem dX12_day_70 : decode cX12_day 70 = .ok (.getfield 258, 3) := by decide +kernel
theorem dX12_day_73 : decode cX12_day 73 = .ok (.iastore, 1) := by decide +kernel
theorem dX12_day_74 : decode cX12_day 74 = .ok (.aload_n 0, 1) := by decide +kernel
theorem dX12_day_75 : decode cX12_day 75 = .ok (.getfield 90, 3) := by decide +kernel
theorem dX12_day_78 : decode cX12_day 78 = .ok (.iconst 1, 1) := by decide +kernel
theorem dX12_day_79 : decode cX12_day 79 = .ok (.dup2, 1) := by decide +kernel
theorem dX12_day_80 : decode cX12_day 80 = .ok (.iaload, 1) := by decide +kernel
theorem dX12_day_81 : decode cX12_day 81 = .ok (.iconst 1, 1) := by decide +kernel
theorem dX12_day_82 : decode cX12_day 82 = .ok (.iadd, 1) := by decide +kernel
theorem dX12_day_83 : decode cX12_day 83 = .ok (.iastore, 1) := by decide +kernel
theorem dX12_day_84 : decode cX12_day 84 = .ok (.aload_n 0, 1) := by decide +kernel
theorem dX12_day_85 : decode cX12_day 85 = .ok (.getfield 90, 3) := by decide +kernel
theorem dX12_day_88 : decode cX12_day 88 = .ok (.iconst 2, 1) := by decide +kernel
theorem dX12_day_89 : decode cX12_day 89 = .ok (.dup2, 1) := by decide +kernel
theorem dX12_day_90 : decode cX12_day 90 = .ok (.iaload, 1) := by decide +kernel
theorem dX12_day_91 : decode cX12_day 91 = .ok (.aload_n 0, 1) := by decide +kernel
theorem dX12_day_92 : decode cX12_day 92 = .ok (.getfield 264, 3) := by decide +kernel
theorem dX12_day_95 : decode cX12_day 95 = .ok (.iadd, 1) := by decide +kernel
theorem dX12_day_96 : decode cX12_day 96 = .ok (.iastore, 1) := by decide +kernel
theorem dX12_day_97 : decode cX12_day 97 = .ok (.aload_n 0, 1) := by decide +kernel
theorem dX12_day_98 : decode cX12_day 98 = .ok (.getfield 90, 3) := by decide +kernel
theorem dX12_day_101 : decode cX12_day 101 = .ok (.iconst 3, 1) := by decide +kernel
theorem dX12_day_102 : decode cX12_day 102 = .ok (.dup2, 1) := by decide +kernel
theorem dX12_day_103 : decode cX12_day 103 = .ok (.iaload, 1) := by decide +kernel
theorem dX12_day_104 : decode cX12_day 104 = .ok (.aload_n 0, 1) := by decide +kernel
theorem dX12_day_105 : decode cX12_day 105 = .ok (.getfield 261, 3) := by decide +kernel
theorem dX12_day_108 : decode cX12_day 108 = .ok (.iadd, 1) := by decide +kernel
theorem dX12_day_109 : decode cX12_day 109 = .ok (.iastore, 1) := by decide +kernel
theorem dX12_day_110 : decode cX12_day 110 = .ok (.aload_n 0, 1) := by decide +kernel
theorem dX12_day_111 : decode cX12_day 111 = .ok (.getfield 90, 3) := by decide +kernel
theorem dX12_day_114 : decode cX12_day 114 = .ok (.iconst 5, 1) := by decide +kernel
theorem dX12_day_115 : decode cX12_day 115 = .ok (.dup2, 1) := by decide +kernel
theorem dX12_day_116 : decode cX12_day 116 = .ok (.iaload, 1) := by decide +kernel
theorem dX12_day_117 : decode cX12_day 117 = .ok (.aload_n 0, 1) := by decide +kernel
theorem dX12_day_118 : decode cX12_day 118 = .ok (.iconst 2, 1) := by decide +kernel
theorem dX12_day_119 : decode cX12_day 119 = .ok (.invokevirtual 328, 3) := by decide +kernel
theorem dX12_day_122 : decode cX12_day 122 = .ok (.iload_n 1, 1) := by decide +kernel
theorem dX12_day_123 : decode cX12_day 123 = .ok (.iconst (-1), 1) := by decide +kernel
theorem dX12_day_124 : decode cX12_day 124 = .ok (.ixor, 1) := by decide +kernel
theorem dX12_day_125 : decode cX12_day 125 = .ok (.iand, 1) := by decide +kernel
theorem dX12_day_126 : decode cX12_day 126 = .ok (.invokestatic 313, 3) := by decide +kernel
theorem dX12_day_129 : decode cX12_day 129 = .ok (.iadd, 1) := by decide +kernel
theorem dX12_day_130 : decode cX12_day 130 = .ok (.iastore, 1) := by decide +kernel
theorem dX12_day_131 : decode cX12_day 131 = .ok (.aload_n 0, 1) := by decide +kernel
theorem dX12_day_132 : decode cX12_day 132 = .ok (.invokevirtual 325, 3) := by decide +kernel
theorem dX12_day_135 : decode cX12_day 135 = .ok (.ireturn, 1) := by decide +kernel
theorem dX12_livedIn_0 : decode cX12_livedIn 0 = .ok (.iconst 0, 1) := by decide +kernel
theorem dX12_livedIn_1 : decode cX12_livedIn 1 = .ok (.istore_n 1, 1) := by decide +kernel
theorem dX12_livedIn_2 : decode cX12_livedIn 2 = .ok (.iconst 0, 1) := by decide +kernel
theorem dX12_livedIn_3 : decode cX12_livedIn 3 = .ok (.istore_n 2, 1) := by decide +kernel
theorem dX12_livedIn_4 : decode cX12_livedIn 4 = .ok (.iload_n 2, 1) := by decide +kernel
theorem dX12_livedIn_5 : decode cX12_livedIn 5 = .ok (.aload_n 0, 1) := by decide +kernel
theorem dX12_livedIn_6 : decode cX12_livedIn 6 = .ok (.getfield 128, 3) := by decide +kernel
theorem dX12_livedIn_9 : decode cX12_livedIn 9 = .ok (.if_icmp .ge 20, 3) := by decide +kernel
theorem dX12_livedIn_12 : decode cX12_livedIn 12 = .ok (.iload_n 1, 1) := by decide +kernel
theorem dX12_livedIn_13 : decode cX12_livedIn 13 = .ok (.iconst 1, 1) := by decide +kernel
theorem dX12_livedIn_14 : decode cX12_livedIn 14 = .ok (.aload_n 0, 1) := by decide +kernel
theorem dX12_livedIn_15 : decode cX12_livedIn 15 = .ok (.getfield 78, 3) := by decide +kernel
theorem dX12_livedIn_18 : decode cX12_livedIn 18 = .ok (.iload_n 2, 1) := by decide +kernel
theorem dX12_livedIn_19 : decode cX12_livedIn 19 = .ok (.iaload, 1) := by decide +kernel
theorem dX12_livedIn_20 : decode cX12_livedIn 20 = .ok (.ishl, 1) := by decide +kernel
theorem dX12_livedIn_21 : decode cX12_livedIn 21 = .ok (.ior, 1) := by decide +kernel
theorem dX12_livedIn_22 : decode cX12_livedIn 22 = .ok (.istore_n 1, 1) := by decide +kernel
theorem dX12_livedIn_23 : decode cX12_livedIn 23 = .ok (.iinc 2 1, 3) := by decide +kernel
theorem dX12_livedIn_26 : decode cX12_livedIn 26 = .ok (.goto (-22), 3) := by decide +kernel
theorem dX12_livedIn_29 : decode cX12_livedIn 29 = .ok (.iload_n 1, 1) := by decide +kernel
theorem dX12_livedIn_30 : decode cX12_livedIn 30 = .ok (.ireturn, 1) := by decide +kernel
theorem dX12_inspect_0 : decode cX12_inspect 0 = .ok (.aload_n 0, 1) := by decide +kernel
theorem dX12_inspect_1 : decode cX12_inspect 1 = .ok (.invokevirtual 304, 3) := by decide +kernel
theorem dX12_inspect_4 : decode cX12_inspect 4 = .ok (.iconst 0, 1) := by decide +kernel
theorem dX12_inspect_5 : decode cX12_inspect 5 = .ok (.istore_n 1, 1) := by decide +kernel
theorem dX12_inspect_6 : decode cX12_inspect 6 = .ok (.iconst 0, 1) := by decide +kernel
theorem dX12_inspect_7 : decode cX12_inspect 7 = .ok (.istore_n 2, 1) := by decide +kernel
theorem dX12_inspect_8 : decode cX12_inspect 8 = .ok (.iload_n 2, 1) := by decide +kernel
theorem dX12_inspect_9 : decode cX12_inspect 9 = .ok (.aload_n 0, 1) := by decide +kernel
theorem dX12_inspect_10 : decode cX12_inspect 10 = .ok (.getfield 135, 3) := by decide +kernel
theorem dX12_inspect_13 : decode cX12_inspect 13 = .ok (.if_icmp .ge 25, 3) := by decide +kernel
theorem dX12_inspect_16 : decode cX12_inspect 16 = .ok (.aload_n 0, 1) := by decide +kernel
theorem dX12_inspect_17 : decode cX12_inspect 17 = .ok (.iload_n 2, 1) := by decide +kernel
theorem dX12_inspect_18 : decode cX12_inspect 18 = .ok (.invokevirtual 310, 3) := by decide +kernel
theorem dX12_inspect_21 : decode cX12_inspect 21 = .ok (.aload_n 0, 1) := by decide +kernel
theorem dX12_inspect_22 : decode cX12_inspect 22 = .ok (.invokevirtual 365, 3) := by decide +kernel
theorem dX12_inspect_25 : decode cX12_inspect 25 = .ok (.iand, 1) := by decide +kernel
theorem dX12_inspect_26 : decode cX12_inspect 26 = .ok (.ifCond .eq 6, 3) := by decide +kernel
theorem dX12_inspect_29 : decode cX12_inspect 29 = .ok (.iinc 1 1, 3) := by decide +kernel
theorem dX12_inspect_32 : decode cX12_inspect 32 = .ok (.iinc 2 1, 3) := by decide +kernel
theorem dX12_inspect_35 : decode cX12_inspect 35 = .ok (.goto (-27), 3) := by decide +kernel
theorem dX12_inspect_38 : decode cX12_inspect 38 = .ok (.aload_n 0, 1) := by decide +kernel
theorem dX12_inspect_39 : decode cX12_inspect 39 = .ok (.getfield 90, 3) := by decide +kernel
theorem dX12_inspect_42 : decode cX12_inspect 42 = .ok (.iconst 4, 1) := by decide +kernel
theorem dX12_inspect_43 : decode cX12_inspect 43 = .ok (.dup2, 1) := by decide +kernel
theorem dX12_inspect_44 : decode cX12_inspect 44 = .ok (.iaload, 1) := by decide +kernel
theorem dX12_inspect_45 : decode cX12_inspect 45 = .ok (.iload_n 1, 1) := by decide +kernel
theorem dX12_inspect_46 : decode cX12_inspect 46 = .ok (.iadd, 1) := by decide +kernel
theorem dX12_inspect_47 : decode cX12_inspect 47 = .ok (.iastore, 1) := by decide +kernel
theorem dX12_inspect_48 : decode cX12_inspect 48 = .ok (.iload_n 1, 1) := by decide +kernel
theorem dX12_inspect_49 : decode cX12_inspect 49 = .ok (.ireturn, 1) := by decide +kernel
theorem dX12_led_0 : decode cX12_led 0 = .ok (.iload_n 1, 1) := by decide +kernel
theorem dX12_led_1 : decode cX12_led 1 = .ok (.iconst 0, 1) := by decide +kernel
theorem dX12_led_2 : decode cX12_led 2 = .ok (.iconst 5, 1) := by decide +kernel
theorem dX12_led_3 : decode cX12_led 3 = .ok (.invokestatic 131, 3) := by decide +kernel
theorem dX12_led_6 : decode cX12_led 6 = .ok (.ifCond .eq 12, 3) := by decide +kernel
theorem dX12_led_9 : decode cX12_led 9 = .ok (.aload_n 0, 1) := by decide +kernel
theorem dX12_led_10 : decode cX12_led 10 = .ok (.getfield 90, 3) := by decide +kernel
theorem dX12_led_13 : decode cX12_led 13 = .ok (.iload_n 1, 1) := by decide +kernel
theorem dX12_led_14 : decode cX12_led 14 = .ok (.iaload, 1) := by decide +kernel
theorem dX12_led_15 : decode cX12_led 15 = .ok (.goto 4, 3) := by decide +kernel
theorem dX12_led_18 : decode cX12_led 18 = .ok (.iconst (-1), 1) := by decide +kernel
theorem dX12_led_19 : decode cX12_led 19 = .ok (.ireturn, 1) := by decide +kernel
theorem dX12_image_0 : decode cX12_image 0 = .ok (.aload_n 0, 1) := by decide +kernel
theorem dX12_image_1 : decode cX12_image 1 = .ok (.iconst 1, 1) := by decide +kernel
theorem dX12_image_2 : decode cX12_image 2 = .ok (.putfield 368, 3) := by decide +kernel
theorem dX12_image_5 : decode cX12_image 5 = .ok (.aload_n 0, 1) := by decide +kernel
theorem dX12_image_6 : decode cX12_image 6 = .ok (.aload_n 0, 1) := by decide +kernel
theorem dX12_image_7 : decode cX12_image 7 = .ok (.getfield 128, 3) := by decide +kernel
theorem dX12_image_10 : decode cX12_image 10 = .ok (.putfield 371, 3) := by decide +kernel
theorem dX12_image_13 : decode cX12_image 13 = .ok (.aload_n 0, 1) := by decide +kernel
theorem dX12_image_14 : decode cX12_image 14 = .ok (.aload_n 0, 1) := by decide +kernel
theorem dX12_image_15 : decode cX12_image 15 = .ok (.getfield 135, 3) := by decide +kernel
theorem dX12_image_18 : decode cX12_image 18 = .ok (.putfield 374, 3) := by decide +kernel
theorem dX12_image_21 : decode cX12_image 21 = .ok (.aload_n 0, 1) := by decide +kernel
theorem dX12_image_22 : decode cX12_image 22 = .ok (.aload_n 0, 1) := by decide +kernel
theorem dX12_image_23 : decode cX12_image 23 = .ok (.getfield 37, 3) := by decide +kernel
theorem dX12_image_26 : decode cX12_image 26 = .ok (.iconst 0, 1) := by decide +kernel
theorem dX12_image_27 : decode cX12_image 27 = .ok (.iaload, 1) := by decide +kernel
theorem dX12_image_28 : decode cX12_image 28 = .ok (.putfield 377, 3) := by decide +kernel
theorem dX12_image_31 : decode cX12_image 31 = .ok (.aload_n 0, 1) := by decide +kernel
theorem dX12_image_32 : decode cX12_image 32 = .ok (.aload_n 0, 1) := by decide +kernel
theorem dX12_image_33 : decode cX12_image 33 = .ok (.getfield 37, 3) := by decide +kernel
theorem dX12_image_36 : decode cX12_image 36 = .ok (.iconst 3, 1) := by decide +kernel
theorem dX12_image_37 : decode cX12_image 37 = .ok (.iaload, 1) := by decide +kernel
theorem dX12_image_38 : decode cX12_image 38 = .ok (.putfield 380, 3) := by decide +kernel
theorem dX12_image_41 : decode cX12_image 41 = .ok (.iconst 0, 1) := by decide +kernel
theorem dX12_image_42 : decode cX12_image 42 = .ok (.istore_n 1, 1) := by decide +kernel
theorem dX12_image_43 : decode cX12_image 43 = .ok (.iload_n 1, 1) := by decide +kernel
theorem dX12_image_44 : decode cX12_image 44 = .ok (.aload_n 0, 1) := by decide +kernel
theorem dX12_image_45 : decode cX12_image 45 = .ok (.getfield 128, 3) := by decide +kernel
theorem dX12_image_48 : decode cX12_image 48 = .ok (.if_icmp .ge 21, 3) := by decide +kernel
theorem dX12_image_51 : decode cX12_image 51 = .ok (.aload_n 0, 1) := by decide +kernel
theorem dX12_image_52 : decode cX12_image 52 = .ok (.getfield 93, 3) := by decide +kernel
theorem dX12_image_55 : decode cX12_image 55 = .ok (.iload_n 1, 1) := by decide +kernel
theorem dX12_image_56 : decode cX12_image 56 = .ok (.aload_n 0, 1) := by decide +kernel
theorem dX12_image_57 : decode cX12_image 57 = .ok (.getfield 7, 3) := by decide +kernel
theorem dX12_image_60 : decode cX12_image 60 = .ok (.iload_n 1, 1) := by decide +kernel
theorem dX12_image_61 : decode cX12_image 61 = .ok (.iaload, 1) := by decide +kernel
theorem dX12_image_62 : decode cX12_image 62 = .ok (.iastore, 1) := by decide +kernel
theorem dX12_image_63 : decode cX12_image 63 = .ok (.iinc 1 1, 3) := by decide +kernel
theorem dX12_image_66 : decode cX12_image 66 = .ok (.goto (-23), 3) := by decide +kernel
theorem dX12_image_69 : decode cX12_image 69 = .ok (.iconst 0, 1) := by decide +kernel
theorem dX12_image_70 : decode cX12_image 70 = .ok (.istore_n 1, 1) := by decide +kernel
theorem dX12_image_71 : decode cX12_image 71 = .ok (.iload_n 1, 1) := by decide +kernel
theorem dX12_image_72 : decode cX12_image 72 = .ok (.aload_n 0, 1) := by decide +kernel
theorem dX12_image_73 : decode cX12_image 73 = .ok (.getfield 135, 3) := by decide +kernel
theorem dX12_image_76 : decode cX12_image 76 = .ok (.if_icmp .ge 33, 3) := by decide +kernel
theorem dX12_image_79 : decode cX12_image 79 = .ok (.aload_n 0, 1) := by decide +kernel
theorem dX12_image_80 : decode cX12_image 80 = .ok (.getfield 96, 3) := by decide +kernel
theorem dX12_image_83 : decode cX12_image 83 = .ok (.iload_n 1, 1) := by decide +kernel
theorem dX12_image_84 : decode cX12_image 84 = .ok (.aload_n 0, 1) := by decide +kernel
theorem dX12_image_85 : decode cX12_image 85 = .ok (.getfield 31, 3) := by decide +kernel
theorem dX12_image_88 : decode cX12_image 88 = .ok (.iload_n 1, 1) := by decide +kernel
theorem dX12_image_89 : decode cX12_image 89 = .ok (.iaload, 1) := by decide +kernel
theorem dX12_image_90 : decode cX12_image 90 = .ok (.iastore, 1) := by decide +kernel
theorem dX12_image_91 : decode cX12_image 91 = .ok (.aload_n 0, 1) := by decide +kernel
theorem dX12_image_92 : decode cX12_image 92 = .ok (.getfield 99, 3) := by decide +kernel
theorem dX12_image_95 : decode cX12_image 95 = .ok (.iload_n 1, 1) := by decide +kernel
theorem dX12_image_96 : decode cX12_image 96 = .ok (.aload_n 0, 1) := by decide +kernel
theorem dX12_image_97 : decode cX12_image 97 = .ok (.getfield 34, 3) := by decide +kernel
theorem dX12_image_100 : decode cX12_image 100 = .ok (.iload_n 1, 1) := by decide +kernel
theorem dX12_image_101 : decode cX12_image 101 = .ok (.iaload, 1) := by decide +kernel
theorem dX12_image_102 : decode cX12_image 102 = .ok (.iastore, 1) := by decide +kernel
theorem dX12_image_103 : decode cX12_image 103 = .ok (.iinc 1 1, 3) := by decide +kernel
theorem dX12_image_106 : decode cX12_image 106 = .ok (.goto (-35), 3) := by decide +kernel
theorem dX12_image_109 : decode cX12_image 109 = .ok (.iconst 0, 1) := by decide +kernel
theorem dX12_image_110 : decode cX12_image 110 = .ok (.istore_n 1, 1) := by decide +kernel
theorem dX12_image_111 : decode cX12_image 111 = .ok (.iload_n 1, 1) := by decide +kernel
theorem dX12_image_112 : decode cX12_image 112 = .ok (.bipush 6, 2) := by decide +kernel
theorem dX12_image_114 : decode cX12_image 114 = .ok (.if_icmp .ge 21, 3) := by decide +kernel
theorem dX12_image_117 : decode cX12_image 117 = .ok (.aload_n 0, 1) := by decide +kernel
theorem dX12_image_118 : decode cX12_image 118 = .ok (.getfield 102, 3) := by decide +kernel
theorem dX12_image_121 : decode cX12_image 121 = .ok (.iload_n 1, 1) := by decide +kernel
theorem dX12_image_122 : decode cX12_image 122 = .ok (.aload_n 0, 1) := by decide +kernel
theorem dX12_image_123 : decode cX12_image 123 = .ok (.getfield 90, 3) := by decide +kernel
theorem dX12_image_126 : decode cX12_image 126 = .ok (.iload_n 1, 1) := by decide +kernel
theorem dX12_image_127 : decode cX12_image 127 = .ok (.iaload, 1) := by decide +kernel
theorem dX12_image_128 : decode cX12_image 128 = .ok (.iastore, 1) := by decide +kernel
theorem dX12_image_129 : decode cX12_image 129 = .ok (.iinc 1 1, 3) := by decide +kernel
theorem dX12_image_132 : decode cX12_image 132 = .ok (.goto (-21), 3) := by decide +kernel
theorem dX12_image_135 : decode cX12_image 135 = .ok (.aload_n 0, 1) := by decide +kernel
theorem dX12_image_136 : decode cX12_image 136 = .ok (.getfield 90, 3) := by decide +kernel
theorem dX12_image_139 : decode cX12_image 139 = .ok (.iconst 1, 1) := by decide +kernel
theorem dX12_image_140 : decode cX12_image 140 = .ok (.iaload, 1) := by decide +kernel
theorem dX12_image_141 : decode cX12_image 141 = .ok (.ireturn, 1) := by decide +kernel
theorem dX12_back_0 : decode cX12_back 0 = .ok (.aload_n 0, 1) := by decide +kernel
theorem dX12_back_1 : decode cX12_back 1 = .ok (.getfield 368, 3) := by decide +kernel
theorem dX12_back_4 : decode cX12_back 4 = .ok (.ifCond .ne 6, 3) := by decide +kernel
theorem dX12_back_7 : decode cX12_back 7 = .ok (.bipush (-5), 2) := by decide +kernel
theorem dX12_back_9 : decode cX12_back 9 = .ok (.ireturn, 1) := by decide +kernel
theorem dX12_back_10 : decode cX12_back 10 = .ok (.aload_n 0, 1) := by decide +kernel
theorem dX12_back_11 : decode cX12_back 11 = .ok (.getfield 37, 3) := by decide +kernel
theorem dX12_back_14 : decode cX12_back 14 = .ok (.iconst 0, 1) := by decide +kernel
theorem dX12_back_15 : decode cX12_back 15 = .ok (.aload_n 0, 1) := by decide +kernel
theorem dX12_back_16 : decode cX12_back 16 = .ok (.getfield 377, 3) := by decide +kernel
theorem dX12_back_19 : decode cX12_back 19 = .ok (.iastore, 1) := by decide +kernel
theorem dX12_back_20 : decode cX12_back 20 = .ok (.aload_n 0, 1) := by decide +kernel
theorem dX12_back_21 : decode cX12_back 21 = .ok (.getfield 37, 3) := by decide +kernel
theorem dX12_back_24 : decode cX12_back 24 = .ok (.iconst 3, 1) := by decide +kernel
theorem dX12_back_25 : decode cX12_back 25 = .ok (.aload_n 0, 1) := by decide +kernel
theorem dX12_back_26 : decode cX12_back 26 = .ok (.getfield 380, 3) := by decide +kernel
theorem dX12_back_29 : decode cX12_back 29 = .ok (.iastore, 1) := by decide +kernel
theorem dX12_back_30 : decode cX12_back 30 = .ok (.iconst 0, 1) := by decide +kernel
theorem dX12_back_31 : decode cX12_back 31 = .ok (.istore_n 1, 1) := by decide +kernel
theorem dX12_back_32 : decode cX12_back 32 = .ok (.iload_n 1, 1) := by decide +kernel
theorem dX12_back_33 : decode cX12_back 33 = .ok (.aload_n 0, 1) := by decide +kernel
theorem dX12_back_34 : decode cX12_back 34 = .ok (.getfield 371, 3) := by decide +kernel
theorem dX12_back_37 : decode cX12_back 37 = .ok (.if_icmp .ge 21, 3) := by decide +kernel
theorem dX12_back_40 : decode cX12_back 40 = .ok (.aload_n 0, 1) := by decide +kernel
theorem dX12_back_41 : decode cX12_back 41 = .ok (.getfield 7, 3) := by decide +kernel
theorem dX12_back_44 : decode cX12_back 44 = .ok (.iload_n 1, 1) := by decide +kernel
theorem dX12_back_45 : decode cX12_back 45 = .ok (.aload_n 0, 1) := by decide +kernel
theorem dX12_back_46 : decode cX12_back 46 = .ok (.getfield 93, 3) := by decide +kernel
theorem dX12_back_49 : decode cX12_back 49 = .ok (.iload_n 1, 1) := by decide +kernel
theorem dX12_back_50 : decode cX12_back 50 = .ok (.iaload, 1) := by decide +kernel
theorem dX12_back_51 : decode cX12_back 51 = .ok (.iastore, 1) := by decide +kernel
theorem dX12_back_52 : decode cX12_back 52 = .ok (.iinc 1 1, 3) := by decide +kernel
theorem dX12_back_55 : decode cX12_back 55 = .ok (.goto (-23), 3) := by decide +kernel
theorem dX12_back_58 : decode cX12_back 58 = .ok (.iconst 0, 1) := by decide +kernel
theorem dX12_back_59 : decode cX12_back 59 = .ok (.istore_n 1, 1) := by decide +kernel
theorem dX12_back_60 : decode cX12_back 60 = .ok (.iload_n 1, 1) := by decide +kernel
theorem dX12_back_61 : decode cX12_back 61 = .ok (.aload_n 0, 1) := by decide +kernel
theorem dX12_back_62 : decode cX12_back 62 = .ok (.getfield 374, 3) := by decide +kernel
theorem dX12_back_65 : decode cX12_back 65 = .ok (.if_icmp .ge 33, 3) := by decide +kernel
theorem dX12_back_68 : decode cX12_back 68 = .ok (.aload_n 0, 1) := by decide +kernel
theorem dX12_back_69 : decode cX12_back 69 = .ok (.getfield 31, 3) := by decide +kernel
theorem dX12_back_72 : decode cX12_back 72 = .ok (.iload_n 1, 1) := by decide +kernel
theorem dX12_back_73 : decode cX12_back 73 = .ok (.aload_n 0, 1) := by decide +kernel
theorem dX12_back_74 : decode cX12_back 74 = .ok (.getfield 96, 3) := by decide +kernel
theorem dX12_back_77 : decode cX12_back 77 = .ok (.iload_n 1, 1) := by decide +kernel
theorem dX12_back_78 : decode cX12_back 78 = .ok (.iaload, 1) := by decide +kernel
theorem dX12_back_79 : decode cX12_back 79 = .ok (.iastore, 1) := by decide +kernel
theorem dX12_back_80 : decode cX12_back 80 = .ok (.aload_n 0, 1) := by decide +kernel
theorem dX12_back_81 : decode cX12_back 81 = .ok (.getfield 34, 3) := by decide +kernel
theorem dX12_back_84 : decode cX12_back 84 = .ok (.iload_n 1, 1) := by decide +kernel
theorem dX12_back_85 : decode cX12_back 85 = .ok (.aload_n 0, 1) := by decide +kernel
theorem dX12_back_86 : decode cX12_back 86 = .ok (.getfield 99, 3) := by decide +kernel
theorem dX12_back_89 : decode cX12_back 89 = .ok (.iload_n 1, 1) := by decide +kernel
theorem dX12_back_90 : decode cX12_back 90 = .ok (.iaload, 1) := by decide +kernel
theorem dX12_back_91 : decode cX12_back 91 = .ok (.iastore, 1) := by decide +kernel
theorem dX12_back_92 : decode cX12_back 92 = .ok (.iinc 1 1, 3) := by decide +kernel
theorem dX12_back_95 : decode cX12_back 95 = .ok (.goto (-35), 3) := by decide +kernel
theorem dX12_back_98 : decode cX12_back 98 = .ok (.iconst 0, 1) := by decide +kernel
theorem dX12_back_99 : decode cX12_back 99 = .ok (.istore_n 1, 1) := by decide +kernel
theorem dX12_back_100 : decode cX12_back 100 = .ok (.iload_n 1, 1) := by decide +kernel
theorem dX12_back_101 : decode cX12_back 101 = .ok (.bipush 6, 2) := by decide +kernel
theorem dX12_back_103 : decode cX12_back 103 = .ok (.if_icmp .ge 21, 3) := by decide +kernel
theorem dX12_back_106 : decode cX12_back 106 = .ok (.aload_n 0, 1) := by decide +kernel
theorem dX12_back_107 : decode cX12_back 107 = .ok (.getfield 90, 3) := by decide +kernel
theorem dX12_back_110 : decode cX12_back 110 = .ok (.iload_n 1, 1) := by decide +kernel
theorem dX12_back_111 : decode cX12_back 111 = .ok (.aload_n 0, 1) := by decide +kernel
theorem dX12_back_112 : decode cX12_back 112 = .ok (.getfield 102, 3) := by decide +kernel
theorem dX12_back_115 : decode cX12_back 115 = .ok (.iload_n 1, 1) := by decide +kernel
theorem dX12_back_116 : decode cX12_back 116 = .ok (.iaload, 1) := by decide +kernel
theorem dX12_back_117 : decode cX12_back 117 = .ok (.iastore, 1) := by decide +kernel
theorem dX12_back_118 : decode cX12_back 118 = .ok (.iinc 1 1, 3) := by decide +kernel
theorem dX12_back_121 : decode cX12_back 121 = .ok (.goto (-21), 3) := by decide +kernel
theorem dX12_back_124 : decode cX12_back 124 = .ok (.aload_n 0, 1) := by decide +kernel
theorem dX12_back_125 : decode cX12_back 125 = .ok (.getfield 90, 3) := by decide +kernel
theorem dX12_back_128 : decode cX12_back 128 = .ok (.iconst 1, 1) := by decide +kernel
theorem dX12_back_129 : decode cX12_back 129 = .ok (.iaload, 1) := by decide +kernel
theorem dX12_back_130 : decode cX12_back 130 = .ok (.ireturn, 1) := by decide +kernel
theorem dX12_isBody_0 : decode cX12_isBody 0 = .ok (.iload_n 1, 1) := by decide +kernel
theorem dX12_isBody_1 : decode cX12_isBody 1 = .ok (.iconst 0, 1) := by decide +kernel
theorem dX12_isBody_2 : decode cX12_isBody 2 = .ok (.aload_n 0, 1) := by decide +kernel
theorem dX12_isBody_3 : decode cX12_isBody 3 = .ok (.getfield 383, 3) := by decide +kernel
theorem dX12_isBody_6 : decode cX12_isBody 6 = .ok (.iconst 1, 1) := by decide +kernel
theorem dX12_isBody_7 : decode cX12_isBody 7 = .ok (.isub, 1) := by decide +kernel
theorem dX12_isBody_8 : decode cX12_isBody 8 = .ok (.invokestatic 131, 3) := by decide +kernel
theorem dX12_isBody_11 : decode cX12_isBody 11 = .ok (.ireturn, 1) := by decide +kernel
theorem dX12_ran_0 : decode cX12_ran 0 = .ok (.aload_n 0, 1) := by decide +kernel
theorem dX12_ran_1 : decode cX12_ran 1 = .ok (.getfield 386, 3) := by decide +kernel
theorem dX12_ran_4 : decode cX12_ran 4 = .ok (.bipush 24, 2) := by decide +kernel
theorem dX12_ran_6 : decode cX12_ran 6 = .ok (.if_icmp .ge 13, 3) := by decide +kernel
theorem dX12_ran_9 : decode cX12_ran 9 = .ok (.aload_n 0, 1) := by decide +kernel
theorem dX12_ran_10 : decode cX12_ran 10 = .ok (.getfield 108, 3) := by decide +kernel
theorem dX12_ran_13 : decode cX12_ran 13 = .ok (.aload_n 0, 1) := by decide +kernel
theorem dX12_ran_14 : decode cX12_ran 14 = .ok (.getfield 386, 3) := by decide +kernel
theorem dX12_ran_17 : decode cX12_ran 17 = .ok (.iload_n 1, 1) := by decide +kernel
theorem dX12_ran_18 : decode cX12_ran 18 = .ok (.iastore, 1) := by decide +kernel
theorem dX12_ran_19 : decode cX12_ran 19 = .ok (.aload_n 0, 1) := by decide +kernel
theorem dX12_ran_20 : decode cX12_ran 20 = .ok (.dup, 1) := by decide +kernel
theorem dX12_ran_21 : decode cX12_ran 21 = .ok (.getfield 386, 3) := by decide +kernel
theorem dX12_ran_24 : decode cX12_ran 24 = .ok (.iconst 1, 1) := by decide +kernel
theorem dX12_ran_25 : decode cX12_ran 25 = .ok (.iadd, 1) := by decide +kernel
theorem dX12_ran_26 : decode cX12_ran 26 = .ok (.putfield 386, 3) := by decide +kernel
theorem dX12_ran_29 : decode cX12_ran 29 = .ok (.return_, 1) := by decide +kernel
theorem dX12_trace_0 : decode cX12_trace 0 = .ok (.iload_n 1, 1) := by decide +kernel
theorem dX12_trace_1 : decode cX12_trace 1 = .ok (.ifCond .lt 26, 3) := by decide +kernel
theorem dX12_trace_4 : decode cX12_trace 4 = .ok (.iload_n 1, 1) := by decide +kernel
theorem dX12_trace_5 : decode cX12_trace 5 = .ok (.aload_n 0, 1) := by decide +kernel
theorem dX12_trace_6 : decode cX12_trace 6 = .ok (.getfield 386, 3) := by decide +kernel
theorem dX12_trace_9 : decode cX12_trace 9 = .ok (.if_icmp .ge 18, 3) := by decide +kernel
theorem dX12_trace_12 : decode cX12_trace 12 = .ok (.iload_n 1, 1) := by decide +kernel
theorem dX12_trace_13 : decode cX12_trace 13 = .ok (.bipush 24, 2) := by decide +kernel
theorem dX12_trace_15 : decode cX12_trace 15 = .ok (.if_icmp .ge 12, 3) := by decide +kernel
theorem dX12_trace_18 : decode cX12_trace 18 = .ok (.aload_n 0, 1) := by decide +kernel
theorem dX12_trace_19 : decode cX12_trace 19 = .ok (.getfield 108, 3) := by decide +kernel
theorem dX12_trace_22 : decode cX12_trace 22 = .ok (.iload_n 1, 1) := by decide +kernel
theorem dX12_trace_23 : decode cX12_trace 23 = .ok (.iaload, 1) := by decide +kernel
theorem dX12_trace_24 : decode cX12_trace 24 = .ok (.goto 4, 3) := by decide +kernel
theorem dX12_trace_27 : decode cX12_trace 27 = .ok (.iconst (-1), 1) := by decide +kernel
theorem dX12_trace_28 : decode cX12_trace 28 = .ok (.ireturn, 1) := by decide +kernel
theorem dX12_body_0 : decode cX12_body 0 = .ok (.iload_n 1, 1) := by decide +kernel
theorem dX12_body_1 : decode cX12_body 1 = .ok (.iconst 0, 1) := by decide +kernel
theorem dX12_body_2 : decode cX12_body 2 = .ok (.bipush 7, 2) := by decide +kernel
theorem dX12_body_4 : decode cX12_body 4 = .ok (.invokestatic 131, 3) := by decide +kernel
theorem dX12_body_7 : decode cX12_body 7 = .ok (.ifCond .ne 5, 3) := by decide +kernel
theorem dX12_body_10 : decode cX12_body 10 = .ok (.iconst (-1), 1) := by decide +kernel
theorem dX12_body_11 : decode cX12_body 11 = .ok (.ireturn, 1) := by decide +kernel
theorem dX12_body_12 : decode cX12_body 12 = .ok (.aload_n 0, 1) := by decide +kernel
theorem dX12_body_13 : decode cX12_body 13 = .ok (.getfield 383, 3) := by decide +kernel
theorem dX12_body_16 : decode cX12_body 16 = .ok (.bipush 50, 2) := by decide +kernel
theorem dX12_body_18 : decode cX12_body 18 = .ok (.if_icmp .ne 6, 3) := by decide +kernel
theorem dX12_body_21 : decode cX12_body 21 = .ok (.bipush (-3), 2) := by decide +kernel
theorem dX12_body_23 : decode cX12_body 23 = .ok (.ireturn, 1) := by decide +kernel
theorem dX12_body_24 : decode cX12_body 24 = .ok (.aload_n 0, 1) := by decide +kernel
theorem dX12_body_25 : decode cX12_body 25 = .ok (.getfield 105, 3) := by decide +kernel
theorem dX12_body_28 : decode cX12_body 28 = .ok (.aload_n 0, 1) := by decide +kernel
theorem dX12_body_29 : decode cX12_body 29 = .ok (.getfield 383, 3) := by decide +kernel
theorem dX12_body_32 : decode cX12_body 32 = .ok (.iload_n 1, 1) := by decide +kernel
theorem dX12_body_33 : decode cX12_body 33 = .ok (.iastore, 1) := by decide +kernel
theorem dX12_body_34 : decode cX12_body 34 = .ok (.aload_n 0, 1) := by decide +kernel
theorem dX12_body_35 : decode cX12_body 35 = .ok (.dup, 1) := by decide +kernel
theorem dX12_body_36 : decode cX12_body 36 = .ok (.getfield 383, 3) := by decide +kernel
theorem dX12_body_39 : decode cX12_body 39 = .ok (.iconst 1, 1) := by decide +kernel
theorem dX12_body_40 : decode cX12_body 40 = .ok (.iadd, 1) := by decide +kernel
theorem dX12_body_41 : decode cX12_body 41 = .ok (.putfield 383, 3) := by decide +kernel
theorem dX12_body_44 : decode cX12_body 44 = .ok (.aload_n 0, 1) := by decide +kernel
theorem dX12_body_45 : decode cX12_body 45 = .ok (.getfield 383, 3) := by decide +kernel
theorem dX12_body_48 : decode cX12_body 48 = .ok (.iconst 1, 1) := by decide +kernel
theorem dX12_body_49 : decode cX12_body 49 = .ok (.isub, 1) := by decide +kernel
theorem dX12_body_50 : decode cX12_body 50 = .ok (.ireturn, 1) := by decide +kernel
theorem dX12_isUnder_0 : decode cX12_isUnder 0 = .ok (.iload_n 1, 1) := by decide +kernel
theorem dX12_isUnder_1 : decode cX12_isUnder 1 = .ok (.ifCond .eq 55, 3) := by decide +kernel
theorem dX12_isUnder_4 : decode cX12_isUnder 4 = .ok (.iload_n 0, 1) := by decide +kernel
theorem dX12_isUnder_5 : decode cX12_isUnder 5 = .ok (.iload_n 1, 1) := by decide +kernel
theorem dX12_isUnder_6 : decode cX12_isUnder 6 = .ok (.if_icmp .eq 50, 3) := by decide +kernel
theorem dX12_isUnder_9 : decode cX12_isUnder 9 = .ok (.iload_n 1, 1) := by decide +kernel
theorem dX12_isUnder_10 : decode cX12_isUnder 10 = .ok (.iconst 1, 1) := by decide +kernel
theorem dX12_isUnder_11 : decode cX12_isUnder 11 = .ok (.if_icmp .ne 8, 3) := by decide +kernel
theorem dX12_isUnder_14 : decode cX12_isUnder 14 = .ok (.iload_n 0, 1) := by decide +kernel
theorem dX12_isUnder_15 : decode cX12_isUnder 15 = .ok (.iconst 4, 1) := by decide +kernel
theorem dX12_isUnder_16 : decode cX12_isUnder 16 = .ok (.if_icmp .eq 40, 3) := by decide +kernel
theorem dX12_isUnder_19 : decode cX12_isUnder 19 = .ok (.iload_n 1, 1) := by decide +kernel
theorem dX12_isUnder_20 : decode cX12_isUnder 20 = .ok (.iconst 2, 1) := by decide +kernel
theorem dX12_isUnder_21 : decode cX12_isUnder 21 = .ok (.if_icmp .ne 13, 3) := by decide +kernel
theorem dX12_isUnder_24 : decode cX12_isUnder 24 = .ok (.iload_n 0, 1) := by decide +kernel
theorem dX12_isUnder_25 : decode cX12_isUnder 25 = .ok (.iconst 3, 1) := by decide +kernel
theorem dX12_isUnder_26 : decode cX12_isUnder 26 = .ok (.if_icmp .eq 30, 3) := by decide +kernel
theorem dX12_isUnder_29 : decode cX12_isUnder 29 = .ok (.iload_n 0, 1) := by decide +kernel
theorem dX12_isUnder_30 : decode cX12_isUnder 30 = .ok (.iconst 5, 1) := by decide +kernel
theorem dX12_isUnder_31 : decode cX12_isUnder 31 = .ok (.if_icmp .eq 25, 3) := by decide +kernel
theorem dX12_isUnder_34 : decode cX12_isUnder 34 = .ok (.iload_n 1, 1) := by decide +kernel
theorem dX12_isUnder_35 : decode cX12_isUnder 35 = .ok (.iconst 3, 1) := by decide +kernel
theorem dX12_isUnder_36 : decode cX12_isUnder 36 = .ok (.if_icmp .ne 8, 3) := by decide +kernel
theorem dX12_isUnder_39 : decode cX12_isUnder 39 = .ok (.iload_n 0, 1) := by decide +kernel
theorem dX12_isUnder_40 : decode cX12_isUnder 40 = .ok (.iconst 5, 1) := by decide +kernel
theorem dX12_isUnder_41 : decode cX12_isUnder 41 = .ok (.if_icmp .eq 15, 3) := by decide +kernel
theorem dX12_isUnder_44 : decode cX12_isUnder 44 = .ok (.iload_n 1, 1) := by decide +kernel
theorem dX12_isUnder_45 : decode cX12_isUnder 45 = .ok (.bipush 6, 2) := by decide +kernel
theorem dX12_isUnder_47 : decode cX12_isUnder 47 = .ok (.if_icmp .ne 13, 3) := by decide +kernel
theorem dX12_isUnder_50 : decode cX12_isUnder 50 = .ok (.iload_n 0, 1) := by decide +kernel
theorem dX12_isUnder_51 : decode cX12_isUnder 51 = .ok (.bipush 7, 2) := by decide +kernel
theorem dX12_isUnder_53 : decode cX12_isUnder 53 = .ok (.if_icmp .ne 7, 3) := by decide +kernel
theorem dX12_isUnder_56 : decode cX12_isUnder 56 = .ok (.iconst 1, 1) := by decide +kernel
theorem dX12_isUnder_57 : decode cX12_isUnder 57 = .ok (.goto 4, 3) := by decide +kernel
theorem dX12_isUnder_60 : decode cX12_isUnder 60 = .ok (.iconst 0, 1) := by decide +kernel
theorem dX12_isUnder_61 : decode cX12_isUnder 61 = .ok (.ireturn, 1) := by decide +kernel
theorem dX12_plainOpens_0 : decode cX12_plainOpens 0 = .ok (.aload_n 0, 1) := by decide +kernel
theorem dX12_plainOpens_1 : decode cX12_plainOpens 1 = .ok (.iconst 1, 1) := by decide +kernel
theorem dX12_plainOpens_2 : decode cX12_plainOpens 2 = .ok (.invokevirtual 389, 3) := by decide +kernel
theorem dX12_plainOpens_5 : decode cX12_plainOpens 5 = .ok (.iload_n 2, 1) := by decide +kernel
theorem dX12_plainOpens_6 : decode cX12_plainOpens 6 = .ok (.iload_n 1, 1) := by decide +kernel
theorem dX12_plainOpens_7 : decode cX12_plainOpens 7 = .ok (.iadd, 1) := by decide +kernel
theorem dX12_plainOpens_8 : decode cX12_plainOpens 8 = .ok (.ireturn, 1) := by decide +kernel
theorem dX12_springOpens_0 : decode cX12_springOpens 0 = .ok (.aload_n 0, 1) := by decide +kernel
theorem dX12_springOpens_1 : decode cX12_springOpens 1 = .ok (.bipush 70, 2) := by decide +kernel
theorem dX12_springOpens_3 : decode cX12_springOpens 3 = .ok (.invokevirtual 389, 3) := by decide +kernel
theorem dX12_springOpens_6 : decode cX12_springOpens 6 = .ok (.aload_n 0, 1) := by decide +kernel
theorem dX12_springOpens_7 : decode cX12_springOpens 7 = .ok (.iload_n 1, 1) := by decide +kernel
theorem dX12_springOpens_8 : decode cX12_springOpens 8 = .ok (.iload_n 2, 1) := by decide +kernel
theorem dX12_springOpens_9 : decode cX12_springOpens 9 = .ok (.invokevirtual 392, 3) := by decide +kernel
theorem dX12_springOpens_12 : decode cX12_springOpens 12 = .ok (.iconst 2, 1) := by decide +kernel
theorem dX12_springOpens_13 : decode cX12_springOpens 13 = .ok (.imul, 1) := by decide +kernel
theorem dX12_springOpens_14 : decode cX12_springOpens 14 = .ok (.ireturn, 1) := by decide +kernel
theorem dX12_opening_0 : decode cX12_opening 0 = .ok (.aload_n 0, 1) := by decide +kernel
theorem dX12_opening_1 : decode cX12_opening 1 = .ok (.getfield 105, 3) := by decide +kernel
theorem dX12_opening_4 : decode cX12_opening 4 = .ok (.iload_n 1, 1) := by decide +kernel
theorem dX12_opening_5 : decode cX12_opening 5 = .ok (.iaload, 1) := by decide +kernel
theorem dX12_opening_6 : decode cX12_opening 6 = .ok (.iconst 1, 1) := by decide +kernel
theorem dX12_opening_7 : decode cX12_opening 7 = .ok (.invokestatic 395, 3) := by decide +kernel
theorem dX12_opening_10 : decode cX12_opening 10 = .ok (.ifCond .eq 18, 3) := by decide +kernel
theorem dX12_opening_13 : decode cX12_opening 13 = .ok (.aload_n 0, 1) := by decide +kernel
theorem dX12_opening_14 : decode cX12_opening 14 = .ok (.bipush 20, 2) := by decide +kernel
theorem dX12_opening_16 : decode cX12_opening 16 = .ok (.invokevirtual 389, 3) := by decide +kernel
theorem dX12_opening_19 : decode cX12_opening 19 = .ok (.aload_n 0, 1) := by decide +kernel
theorem dX12_opening_20 : decode cX12_opening 20 = .ok (.iload_n 1, 1) := by decide +kernel
theorem dX12_opening_21 : decode cX12_opening 21 = .ok (.iload_n 2, 1) := by decide +kernel
theorem dX12_opening_22 : decode cX12_opening 22 = .ok (.invokevirtual 392, 3) := by decide +kernel
theorem dX12_opening_25 : decode cX12_opening 25 = .ok (.iconst 3, 1) := by decide +kernel
theorem dX12_opening_26 : decode cX12_opening 26 = .ok (.iadd, 1) := by decide +kernel
theorem dX12_opening_27 : decode cX12_opening 27 = .ok (.ireturn, 1) := by decide +kernel
theorem dX12_opening_28 : decode cX12_opening 28 = .ok (.aload_n 0, 1) := by decide +kernel
theorem dX12_opening_29 : decode cX12_opening 29 = .ok (.getfield 105, 3) := by decide +kernel
theorem dX12_opening_32 : decode cX12_opening 32 = .ok (.iload_n 1, 1) := by decide +kernel
theorem dX12_opening_33 : decode cX12_opening 33 = .ok (.iaload, 1) := by decide +kernel
theorem dX12_opening_34 : decode cX12_opening 34 = .ok (.bipush 7, 2) := by decide +kernel
theorem dX12_opening_36 : decode cX12_opening 36 = .ok (.if_icmp .ne 18, 3) := by decide +kernel
theorem dX12_opening_39 : decode cX12_opening 39 = .ok (.aload_n 0, 1) := by decide +kernel
theorem dX12_opening_40 : decode cX12_opening 40 = .ok (.bipush 81, 2) := by decide +kernel
theorem dX12_opening_42 : decode cX12_opening 42 = .ok (.invokevirtual 389, 3) := by decide +kernel
theorem dX12_opening_45 : decode cX12_opening 45 = .ok (.aload_n 0, 1) := by decide +kernel
theorem dX12_opening_46 : decode cX12_opening 46 = .ok (.iload_n 1, 1) := by decide +kernel
theorem dX12_opening_47 : decode cX12_opening 47 = .ok (.iload_n 2, 1) := by decide +kernel
theorem dX12_opening_48 : decode cX12_opening 48 = .ok (.invokevirtual 398, 3) := by decide +kernel
theorem dX12_opening_51 : decode cX12_opening 51 = .ok (.iconst 1, 1) := by decide +kernel
theorem dX12_opening_52 : decode cX12_opening 52 = .ok (.isub, 1) := by decide +kernel
theorem dX12_opening_53 : decode cX12_opening 53 = .ok (.ireturn, 1) := by decide +kernel
theorem dX12_opening_54 : decode cX12_opening 54 = .ok (.aload_n 0, 1) := by decide +kernel
theorem dX12_opening_55 : decode cX12_opening 55 = .ok (.getfield 105, 3) := by decide +kernel
theorem dX12_opening_58 : decode cX12_opening 58 = .ok (.iload_n 1, 1) := by decide +kernel
theorem dX12_opening_59 : decode cX12_opening 59 = .ok (.iaload, 1) := by decide +kernel
theorem dX12_opening_60 : decode cX12_opening 60 = .ok (.bipush 6, 2) := by decide +kernel
theorem dX12_opening_62 : decode cX12_opening 62 = .ok (.if_icmp .ne 12, 3) := by decide +kernel
theorem dX12_opening_65 : decode cX12_opening 65 = .ok (.aload_n 0, 1) := by decide +kernel
theorem dX12_opening_66 : decode cX12_opening 66 = .ok (.iload_n 1, 1) := by decide +kernel
theorem dX12_opening_67 : decode cX12_opening 67 = .ok (.iload_n 2, 1) := by decide +kernel
theorem dX12_opening_68 : decode cX12_opening 68 = .ok (.invokevirtual 398, 3) := by decide +kernel
theorem dX12_opening_71 : decode cX12_opening 71 = .ok (.goto 9, 3) := by decide +kernel
theorem dX12_opening_74 : decode cX12_opening 74 = .ok (.aload_n 0, 1) := by decide +kernel
theorem dX12_opening_75 : decode cX12_opening 75 = .ok (.iload_n 1, 1) := by decide +kernel
theorem dX12_opening_76 : decode cX12_opening 76 = .ok (.iload_n 2, 1) := by decide +kernel
theorem dX12_opening_77 : decode cX12_opening 77 = .ok (.invokevirtual 392, 3) := by decide +kernel
theorem dX12_opening_80 : decode cX12_opening 80 = .ok (.ireturn, 1) := by decide +kernel
theorem dX12_plainSmells_0 : decode cX12_plainSmells 0 = .ok (.aload_n 0, 1) := by decide +kernel
theorem dX12_plainSmells_1 : decode cX12_plainSmells 1 = .ok (.bipush 10, 2) := by decide +kernel
theorem dX12_plainSmells_3 : decode cX12_plainSmells 3 = .ok (.invokevirtual 389, 3) := by decide +kernel
theorem dX12_plainSmells_6 : decode cX12_plainSmells 6 = .ok (.aload_n 0, 1) := by decide +kernel
theorem dX12_plainSmells_7 : decode cX12_plainSmells 7 = .ok (.iload_n 1, 1) := by decide +kernel
theorem dX12_plainSmells_8 : decode cX12_plainSmells 8 = .ok (.iload_n 2, 1) := by decide +kernel
theorem dX12_plainSmells_9 : decode cX12_plainSmells 9 = .ok (.invokevirtual 401, 3) := by decide +kernel
theorem dX12_plainSmells_12 : decode cX12_plainSmells 12 = .ok (.iconst 2, 1) := by decide +kernel
theorem dX12_plainSmells_13 : decode cX12_plainSmells 13 = .ok (.imul, 1) := by decide +kernel
theorem dX12_plainSmells_14 : decode cX12_plainSmells 14 = .ok (.ireturn, 1) := by decide +kernel
theorem dX12_weddingSmells_0 : decode cX12_weddingSmells 0 = .ok (.aload_n 0, 1) := by decide +kernel
theorem dX12_weddingSmells_1 : decode cX12_weddingSmells 1 = .ok (.bipush 30, 2) := by decide +kernel
theorem dX12_weddingSmells_3 : decode cX12_weddingSmells 3 = .ok (.invokevirtual 389, 3) := by decide +kernel
theorem dX12_weddingSmells_6 : decode cX12_weddingSmells 6 = .ok (.aload_n 0, 1) := by decide +kernel
theorem dX12_weddingSmells_7 : decode cX12_weddingSmells 7 = .ok (.iload_n 1, 1) := by decide +kernel
theorem dX12_weddingSmells_8 : decode cX12_weddingSmells 8 = .ok (.iload_n 2, 1) := by decide +kernel
theorem dX12_weddingSmells_9 : decode cX12_weddingSmells 9 = .ok (.invokevirtual 404, 3) := by decide +kernel
theorem dX12_weddingSmells_12 : decode cX12_weddingSmells 12 = .ok (.ineg, 1) := by decide +kernel
theorem dX12_weddingSmells_13 : decode cX12_weddingSmells 13 = .ok (.ireturn, 1) := by decide +kernel
theorem dX12_smelling_0 : decode cX12_smelling 0 = .ok (.aload_n 0, 1) := by decide +kernel
theorem dX12_smelling_1 : decode cX12_smelling 1 = .ok (.getfield 105, 3) := by decide +kernel
theorem dX12_smelling_4 : decode cX12_smelling 4 = .ok (.iload_n 1, 1) := by decide +kernel
theorem dX12_smelling_5 : decode cX12_smelling 5 = .ok (.iaload, 1) := by decide +kernel
theorem dX12_smelling_6 : decode cX12_smelling 6 = .ok (.iconst 3, 1) := by decide +kernel
theorem dX12_smelling_7 : decode cX12_smelling 7 = .ok (.invokestatic 395, 3) := by decide +kernel
theorem dX12_smelling_10 : decode cX12_smelling 10 = .ok (.ifCond .eq 18, 3) := by decide +kernel
theorem dX12_smelling_13 : decode cX12_smelling 13 = .ok (.aload_n 0, 1) := by decide +kernel
theorem dX12_smelling_14 : decode cX12_smelling 14 = .ok (.bipush 41, 2) := by decide +kernel
theorem dX12_smelling_16 : decode cX12_smelling 16 = .ok (.invokevirtual 389, 3) := by decide +kernel
theorem dX12_smelling_19 : decode cX12_smelling 19 = .ok (.aload_n 0, 1) := by decide +kernel
theorem dX12_smelling_20 : decode cX12_smelling 20 = .ok (.iload_n 1, 1) := by decide +kernel
theorem dX12_smelling_21 : decode cX12_smelling 21 = .ok (.iload_n 2, 1) := by decide +kernel
theorem dX12_smelling_22 : decode cX12_smelling 22 = .ok (.iconst 1, 1) := by decide +kernel
theorem dX12_smelling_23 : decode cX12_smelling 23 = .ok (.iadd, 1) := by decide +kernel
theorem dX12_smelling_24 : decode cX12_smelling 24 = .ok (.invokevirtual 407, 3) := by decide +kernel
theorem dX12_smelling_27 : decode cX12_smelling 27 = .ok (.ireturn, 1) := by decide +kernel
theorem dX12_smelling_28 : decode cX12_smelling 28 = .ok (.aload_n 0, 1) := by decide +kernel
theorem dX12_smelling_29 : decode cX12_smelling 29 = .ok (.getfield 105, 3) := by decide +kernel
theorem dX12_smelling_32 : decode cX12_smelling 32 = .ok (.iload_n 1, 1) := by decide +kernel
theorem dX12_smelling_33 : decode cX12_smelling 33 = .ok (.iaload, 1) := by decide +kernel
theorem dX12_smelling_34 : decode cX12_smelling 34 = .ok (.bipush 7, 2) := by decide +kernel
theorem dX12_smelling_36 : decode cX12_smelling 36 = .ok (.if_icmp .ne 25, 3) := by decide +kernel
theorem dX12_smelling_39 : decode cX12_smelling 39 = .ok (.aload_n 0, 1) := by decide +kernel
theorem dX12_smelling_40 : decode cX12_smelling 40 = .ok (.bipush 80, 2) := by decide +kernel
theorem dX12_smelling_42 : decode cX12_smelling 42 = .ok (.invokevirtual 389, 3) := by decide +kernel
theorem dX12_smelling_45 : decode cX12_smelling 45 = .ok (.aload_n 0, 1) := by decide +kernel
theorem dX12_smelling_46 : decode cX12_smelling 46 = .ok (.iload_n 1, 1) := by decide +kernel
theorem dX12_smelling_47 : decode cX12_smelling 47 = .ok (.iload_n 2, 1) := by decide +kernel
theorem dX12_smelling_48 : decode cX12_smelling 48 = .ok (.invokevirtual 404, 3) := by decide +kernel
theorem dX12_smelling_51 : decode cX12_smelling 51 = .ok (.istore_n 3, 1) := by decide +kernel
theorem dX12_smelling_52 : decode cX12_smelling 52 = .ok (.iload_n 3, 1) := by decide +kernel
theorem dX12_smelling_53 : decode cX12_smelling 53 = .ok (.aload_n 0, 1) := by decide +kernel
theorem dX12_smelling_54 : decode cX12_smelling 54 = .ok (.iload_n 1, 1) := by decide +kernel
theorem dX12_smelling_55 : decode cX12_smelling 55 = .ok (.iconst 2, 1) := by decide +kernel
theorem dX12_smelling_56 : decode cX12_smelling 56 = .ok (.invokevirtual 410, 3) := by decide +kernel
theorem dX12_smelling_59 : decode cX12_smelling 59 = .ok (.iadd, 1) := by decide +kernel
theorem dX12_smelling_60 : decode cX12_smelling 60 = .ok (.ireturn, 1) := by decide +kernel
theorem dX12_smelling_61 : decode cX12_smelling 61 = .ok (.aload_n 0, 1) := by decide +kernel
theorem dX12_smelling_62 : decode cX12_smelling 62 = .ok (.getfield 105, 3) := by decide +kernel
theorem dX12_smelling_65 : decode cX12_smelling 65 = .ok (.iload_n 1, 1) := by decide +kernel
theorem dX12_smelling_66 : decode cX12_smelling 66 = .ok (.iaload, 1) := by decide +kernel
theorem dX12_smelling_67 : decode cX12_smelling 67 = .ok (.iconst 2, 1) := by decide +kernel
theorem dX12_smelling_68 : decode cX12_smelling 68 = .ok (.if_icmp .ne 12, 3) := by decide +kernel
theorem dX12_smelling_71 : decode cX12_smelling 71 = .ok (.aload_n 0, 1) := by decide +kernel
theorem dX12_smelling_72 : decode cX12_smelling 72 = .ok (.iload_n 1, 1) := by decide +kernel
theorem dX12_smelling_73 : decode cX12_smelling 73 = .ok (.iload_n 2, 1) := by decide +kernel
theorem dX12_smelling_74 : decode cX12_smelling 74 = .ok (.invokevirtual 407, 3) := by decide +kernel
theorem dX12_smelling_77 : decode cX12_smelling 77 = .ok (.goto 9, 3) := by decide +kernel
theorem dX12_smelling_80 : decode cX12_smelling 80 = .ok (.aload_n 0, 1) := by decide +kernel
theorem dX12_smelling_81 : decode cX12_smelling 81 = .ok (.iload_n 1, 1) := by decide +kernel
theorem dX12_smelling_82 : decode cX12_smelling 82 = .ok (.iload_n 2, 1) := by decide +kernel
theorem dX12_smelling_83 : decode cX12_smelling 83 = .ok (.invokevirtual 404, 3) := by decide +kernel
theorem dX12_smelling_86 : decode cX12_smelling 86 = .ok (.ireturn, 1) := by decide +kernel
theorem dX12_plainVotes_0 : decode cX12_plainVotes 0 = .ok (.aload_n 0, 1) := by decide +kernel
theorem dX12_plainVotes_1 : decode cX12_plainVotes 1 = .ok (.bipush 11, 2) := by decide +kernel
theorem dX12_plainVotes_3 : decode cX12_plainVotes 3 = .ok (.invokevirtual 389, 3) := by decide +kernel
theorem dX12_plainVotes_6 : decode cX12_plainVotes 6 = .ok (.iload_n 2, 1) := by decide +kernel
theorem dX12_plainVotes_7 : decode cX12_plainVotes 7 = .ok (.iload_n 1, 1) := by decide +kernel
theorem dX12_plainVotes_8 : decode cX12_plainVotes 8 = .ok (.ixor, 1) := by decide +kernel
theorem dX12_plainVotes_9 : decode cX12_plainVotes 9 = .ok (.ireturn, 1) := by decide +kernel
theorem dX12_widowVotes_0 : decode cX12_widowVotes 0 = .ok (.aload_n 0, 1) := by decide +kernel
theorem dX12_widowVotes_1 : decode cX12_widowVotes 1 = .ok (.bipush 40, 2) := by decide +kernel
theorem dX12_widowVotes_3 : decode cX12_widowVotes 3 = .ok (.invokevirtual 389, 3) := by decide +kernel
theorem dX12_widowVotes_6 : decode cX12_widowVotes 6 = .ok (.aload_n 0, 1) := by decide +kernel
theorem dX12_widowVotes_7 : decode cX12_widowVotes 7 = .ok (.iload_n 1, 1) := by decide +kernel
theorem dX12_widowVotes_8 : decode cX12_widowVotes 8 = .ok (.iload_n 2, 1) := by decide +kernel
theorem dX12_widowVotes_9 : decode cX12_widowVotes 9 = .ok (.invokevirtual 413, 3) := by decide +kernel
theorem dX12_widowVotes_12 : decode cX12_widowVotes 12 = .ok (.iconst 3, 1) := by decide +kernel
theorem dX12_widowVotes_13 : decode cX12_widowVotes 13 = .ok (.imul, 1) := by decide +kernel
theorem dX12_widowVotes_14 : decode cX12_widowVotes 14 = .ok (.ireturn, 1) := by decide +kernel
theorem dX12_voting_0 : decode cX12_voting 0 = .ok (.aload_n 0, 1) := by decide +kernel
theorem dX12_voting_1 : decode cX12_voting 1 = .ok (.getfield 105, 3) := by decide +kernel
theorem dX12_voting_4 : decode cX12_voting 4 = .ok (.iload_n 1, 1) := by decide +kernel
theorem dX12_voting_5 : decode cX12_voting 5 = .ok (.iaload, 1) := by decide +kernel
theorem dX12_voting_6 : decode cX12_voting 6 = .ok (.iconst 5, 1) := by decide +kernel
theorem dX12_voting_7 : decode cX12_voting 7 = .ok (.if_icmp .ne 25, 3) := by decide +kernel
theorem dX12_voting_10 : decode cX12_voting 10 = .ok (.aload_n 0, 1) := by decide +kernel
theorem dX12_voting_11 : decode cX12_voting 11 = .ok (.bipush 60, 2) := by decide +kernel
theorem dX12_voting_13 : decode cX12_voting 13 = .ok (.invokevirtual 389, 3) := by decide +kernel
theorem dX12_voting_16 : decode cX12_voting 16 = .ok (.aload_n 0, 1) := by decide +kernel
theorem dX12_voting_17 : decode cX12_voting 17 = .ok (.iload_n 1, 1) := by decide +kernel
theorem dX12_voting_18 : decode cX12_voting 18 = .ok (.iload_n 2, 1) := by decide +kernel
theorem dX12_voting_19 : decode cX12_voting 19 = .ok (.invokevirtual 416, 3) := by decide +kernel
theorem dX12_voting_22 : decode cX12_voting 22 = .ok (.istore_n 3, 1) := by decide +kernel
theorem dX12_voting_23 : decode cX12_voting 23 = .ok (.iload_n 3, 1) := by decide +kernel
theorem dX12_voting_24 : decode cX12_voting 24 = .ok (.aload_n 0, 1) := by decide +kernel
theorem dX12_voting_25 : decode cX12_voting 25 = .ok (.iload_n 1, 1) := by decide +kernel
theorem dX12_voting_26 : decode cX12_voting 26 = .ok (.iconst 2, 1) := by decide +kernel
theorem dX12_voting_27 : decode cX12_voting 27 = .ok (.invokevirtual 401, 3) := by decide +kernel
theorem dX12_voting_30 : decode cX12_voting 30 = .ok (.isub, 1) := by decide +kernel
theorem dX12_voting_31 : decode cX12_voting 31 = .ok (.ireturn, 1) := by decide +kernel
theorem dX12_voting_32 : decode cX12_voting 32 = .ok (.aload_n 0, 1) := by decide +kernel
theorem dX12_voting_33 : decode cX12_voting 33 = .ok (.getfield 105, 3) := by decide +kernel
theorem dX12_voting_36 : decode cX12_voting 36 = .ok (.iload_n 1, 1) := by decide +kernel
theorem dX12_voting_37 : decode cX12_voting 37 = .ok (.iaload, 1) := by decide +kernel
theorem dX12_voting_38 : decode cX12_voting 38 = .ok (.iconst 3, 1) := by decide +kernel
theorem dX12_voting_39 : decode cX12_voting 39 = .ok (.if_icmp .ne 12, 3) := by decide +kernel
theorem dX12_voting_42 : decode cX12_voting 42 = .ok (.aload_n 0, 1) := by decide +kernel
theorem dX12_voting_43 : decode cX12_voting 43 = .ok (.iload_n 1, 1) := by decide +kernel
theorem dX12_voting_44 : decode cX12_voting 44 = .ok (.iload_n 2, 1) := by decide +kernel
theorem dX12_voting_45 : decode cX12_voting 45 = .ok (.invokevirtual 416, 3) := by decide +kernel
theorem dX12_voting_48 : decode cX12_voting 48 = .ok (.goto 9, 3) := by decide +kernel
theorem dX12_voting_51 : decode cX12_voting 51 = .ok (.aload_n 0, 1) := by decide +kernel
theorem dX12_voting_52 : decode cX12_voting 52 = .ok (.iload_n 1, 1) := by decide +kernel
theorem dX12_voting_53 : decode cX12_voting 53 = .ok (.iload_n 2, 1) := by decide +kernel
theorem dX12_voting_54 : decode cX12_voting 54 = .ok (.invokevirtual 413, 3) := by decide +kernel
theorem dX12_voting_57 : decode cX12_voting 57 = .ok (.ireturn, 1) := by decide +kernel
theorem dX12_plainTells_0 : decode cX12_plainTells 0 = .ok (.aload_n 0, 1) := by decide +kernel
theorem dX12_plainTells_1 : decode cX12_plainTells 1 = .ok (.iconst 2, 1) := by decide +kernel
theorem dX12_plainTells_2 : decode cX12_plainTells 2 = .ok (.invokevirtual 389, 3) := by decide +kernel
theorem dX12_plainTells_5 : decode cX12_plainTells 5 = .ok (.aload_n 0, 1) := by decide +kernel
theorem dX12_plainTells_6 : decode cX12_plainTells 6 = .ok (.iload_n 1, 1) := by decide +kernel
theorem dX12_plainTells_7 : decode cX12_plainTells 7 = .ok (.iload_n 2, 1) := by decide +kernel
theorem dX12_plainTells_8 : decode cX12_plainTells 8 = .ok (.invokevirtual 419, 3) := by decide +kernel
theorem dX12_plainTells_11 : decode cX12_plainTells 11 = .ok (.istore_n 3, 1) := by decide +kernel
theorem dX12_plainTells_12 : decode cX12_plainTells 12 = .ok (.iload_n 3, 1) := by decide +kernel
theorem dX12_plainTells_13 : decode cX12_plainTells 13 = .ok (.aload_n 0, 1) := by decide +kernel
theorem dX12_plainTells_14 : decode cX12_plainTells 14 = .ok (.iload_n 1, 1) := by decide +kernel
theorem dX12_plainTells_15 : decode cX12_plainTells 15 = .ok (.iconst 1, 1) := by decide +kernel
theorem dX12_plainTells_16 : decode cX12_plainTells 16 = .ok (.invokevirtual 410, 3) := by decide +kernel
theorem dX12_plainTells_19 : decode cX12_plainTells 19 = .ok (.isub, 1) := by decide +kernel
theorem dX12_plainTells_20 : decode cX12_plainTells 20 = .ok (.ireturn, 1) := by decide +kernel
theorem dX12_telling_0 : decode cX12_telling 0 = .ok (.aload_n 0, 1) := by decide +kernel
theorem dX12_telling_1 : decode cX12_telling 1 = .ok (.getfield 105, 3) := by decide +kernel
theorem dX12_telling_4 : decode cX12_telling 4 = .ok (.iload_n 1, 1) := by decide +kernel
theorem dX12_telling_5 : decode cX12_telling 5 = .ok (.iaload, 1) := by decide +kernel
theorem dX12_telling_6 : decode cX12_telling 6 = .ok (.iconst 4, 1) := by decide +kernel
theorem dX12_telling_7 : decode cX12_telling 7 = .ok (.if_icmp .ne 18, 3) := by decide +kernel
theorem dX12_telling_10 : decode cX12_telling 10 = .ok (.aload_n 0, 1) := by decide +kernel
theorem dX12_telling_11 : decode cX12_telling 11 = .ok (.bipush 50, 2) := by decide +kernel
theorem dX12_telling_13 : decode cX12_telling 13 = .ok (.invokevirtual 389, 3) := by decide +kernel
theorem dX12_telling_16 : decode cX12_telling 16 = .ok (.aload_n 0, 1) := by decide +kernel
theorem dX12_telling_17 : decode cX12_telling 17 = .ok (.iload_n 1, 1) := by decide +kernel
theorem dX12_telling_18 : decode cX12_telling 18 = .ok (.iload_n 2, 1) := by decide +kernel
theorem dX12_telling_19 : decode cX12_telling 19 = .ok (.invokevirtual 422, 3) := by decide +kernel
theorem dX12_telling_22 : decode cX12_telling 22 = .ok (.iconst 5, 1) := by decide +kernel
theorem dX12_telling_23 : decode cX12_telling 23 = .ok (.ixor, 1) := by decide +kernel
theorem dX12_telling_24 : decode cX12_telling 24 = .ok (.ireturn, 1) := by decide +kernel
theorem dX12_telling_25 : decode cX12_telling 25 = .ok (.aload_n 0, 1) := by decide +kernel
theorem dX12_telling_26 : decode cX12_telling 26 = .ok (.getfield 105, 3) := by decide +kernel
theorem dX12_telling_29 : decode cX12_telling 29 = .ok (.iload_n 1, 1) := by decide +kernel
theorem dX12_telling_30 : decode cX12_telling 30 = .ok (.iaload, 1) := by decide +kernel
theorem dX12_telling_31 : decode cX12_telling 31 = .ok (.iconst 5, 1) := by decide +kernel
theorem dX12_telling_32 : decode cX12_telling 32 = .ok (.if_icmp .ne 18, 3) := by decide +kernel
theorem dX12_telling_35 : decode cX12_telling 35 = .ok (.aload_n 0, 1) := by decide +kernel
theorem dX12_telling_36 : decode cX12_telling 36 = .ok (.bipush 61, 2) := by decide +kernel
theorem dX12_telling_38 : decode cX12_telling 38 = .ok (.invokevirtual 389, 3) := by decide +kernel
theorem dX12_telling_41 : decode cX12_telling 41 = .ok (.aload_n 0, 1) := by decide +kernel
theorem dX12_telling_42 : decode cX12_telling 42 = .ok (.iload_n 1, 1) := by decide +kernel
theorem dX12_telling_43 : decode cX12_telling 43 = .ok (.iload_n 2, 1) := by decide +kernel
theorem dX12_telling_44 : decode cX12_telling 44 = .ok (.invokevirtual 422, 3) := by decide +kernel
theorem dX12_telling_47 : decode cX12_telling 47 = .ok (.iconst 1, 1) := by decide +kernel
theorem dX12_telling_48 : decode cX12_telling 48 = .ok (.iadd, 1) := by decide +kernel
theorem dX12_telling_49 : decode cX12_telling 49 = .ok (.ireturn, 1) := by decide +kernel
theorem dX12_telling_50 : decode cX12_telling 50 = .ok (.aload_n 0, 1) := by decide +kernel
theorem dX12_telling_51 : decode cX12_telling 51 = .ok (.iload_n 1, 1) := by decide +kernel
theorem dX12_telling_52 : decode cX12_telling 52 = .ok (.iload_n 2, 1) := by decide +kernel
theorem dX12_telling_53 : decode cX12_telling 53 = .ok (.invokevirtual 422, 3) := by decide +kernel
theorem dX12_telling_56 : decode cX12_telling 56 = .ok (.ireturn, 1) := by decide +kernel
theorem dX12_act_0 : decode cX12_act 0 = .ok (.aload_n 0, 1) := by decide +kernel
theorem dX12_act_1 : decode cX12_act 1 = .ok (.iconst 0, 1) := by decide +kernel
theorem dX12_act_2 : decode cX12_act 2 = .ok (.putfield 386, 3) := by decide +kernel
theorem dX12_act_5 : decode cX12_act 5 = .ok (.aload_n 0, 1) := by decide +kernel
theorem dX12_act_6 : decode cX12_act 6 = .ok (.iload_n 1, 1) := by decide +kernel
theorem dX12_act_7 : decode cX12_act 7 = .ok (.invokevirtual 425, 3) := by decide +kernel
theorem dX12_act_10 : decode cX12_act 10 = .ok (.ifCond .eq 12, 3) := by decide +kernel
theorem dX12_act_13 : decode cX12_act 13 = .ok (.iload_n 2, 1) := by decide +kernel
theorem dX12_act_14 : decode cX12_act 14 = .ok (.iconst 0, 1) := by decide +kernel
theorem dX12_act_15 : decode cX12_act 15 = .ok (.iconst 3, 1) := by decide +kernel
theorem dX12_act_16 : decode cX12_act 16 = .ok (.invokestatic 131, 3) := by decide +kernel
theorem dX12_act_19 : decode cX12_act 19 = .ok (.ifCond .ne 5, 3) := by decide +kernel
theorem dX12_act_22 : decode cX12_act 22 = .ok (.iconst 0, 1) := by decide +kernel
theorem dX12_act_23 : decode cX12_act 23 = .ok (.ireturn, 1) := by decide +kernel
theorem dX12_act_24 : decode cX12_act 24 = .ok (.iload_n 2, 1) := by decide +kernel
theorem dX12_act_25 : decode cX12_act 25 = .ok (.ifCond .ne 12, 3) := by decide +kernel
theorem dX12_act_28 : decode cX12_act 28 = .ok (.aload_n 0, 1) := by decide +kernel
theorem dX12_act_29 : decode cX12_act 29 = .ok (.iload_n 1, 1) := by decide +kernel
theorem dX12_act_30 : decode cX12_act 30 = .ok (.iload_n 3, 1) := by decide +kernel
theorem dX12_act_31 : decode cX12_act 31 = .ok (.invokevirtual 401, 3) := by decide +kernel
theorem dX12_act_34 : decode cX12_act 34 = .ok (.goto 37, 3) := by decide +kernel
theorem dX12_act_37 : decode cX12_act 37 = .ok (.iload_n 2, 1) := by decide +kernel
theorem dX12_act_38 : decode cX12_act 38 = .ok (.iconst 1, 1) := by decide +kernel
theorem dX12_act_39 : decode cX12_act 39 = .ok (.if_icmp .ne 12, 3) := by decide +kernel
theorem dX12_act_42 : decode cX12_act 42 = .ok (.aload_n 0, 1) := by decide +kernel
theorem dX12_act_43 : decode cX12_act 43 = .ok (.iload_n 1, 1) := by decide +kernel
theorem dX12_act_44 : decode cX12_act 44 = .ok (.iload_n 3, 1) := by decide +kernel
theorem dX12_act_45 : decode cX12_act 45 = .ok (.invokevirtual 419, 3) := by decide +kernel
theorem dX12_act_48 : decode cX12_act 48 = .ok (.goto 23, 3) := by decide +kernel
theorem dX12_act_51 : decode cX12_act 51 = .ok (.iload_n 2, 1) := by decide +kernel
theorem dX12_act_52 : decode cX12_act 52 = .ok (.iconst 2, 1) := by decide +kernel
theorem dX12_act_53 : decode cX12_act 53 = .ok (.if_icmp .ne 12, 3) := by decide +kernel
theorem dX12_act_56 : decode cX12_act 56 = .ok (.aload_n 0, 1) := by decide +kernel
theorem dX12_act_57 : decode cX12_act 57 = .ok (.iload_n 1, 1) := by decide +kernel
theorem dX12_act_58 : decode cX12_act 58 = .ok (.iload_n 3, 1) := by decide +kernel
theorem dX12_act_59 : decode cX12_act 59 = .ok (.invokevirtual 410, 3) := by decide +kernel
theorem dX12_act_62 : decode cX12_act 62 = .ok (.goto 9, 3) := by decide +kernel
theorem dX12_act_65 : decode cX12_act 65 = .ok (.aload_n 0, 1) := by decide +kernel
theorem dX12_act_66 : decode cX12_act 66 = .ok (.iload_n 1, 1) := by decide +kernel
theorem dX12_act_67 : decode cX12_act 67 = .ok (.iload_n 3, 1) := by decide +kernel
theorem dX12_act_68 : decode cX12_act 68 = .ok (.invokevirtual 428, 3) := by decide +kernel
theorem dX12_act_71 : decode cX12_act 71 = .ok (.ireturn, 1) := by decide +kernel
theorem dX12_count_0 : decode cX12_count 0 = .ok (.iload_n 1, 1) := by decide +kernel
theorem dX12_count_1 : decode cX12_count 1 = .ok (.tableswitch 69 0 5 #[39, 44, 49, 54, 59, 64], 39) := by decide +kernel
theorem dX12_count_40 : decode cX12_count 40 = .ok (.aload_n 0, 1) := by decide +kernel
theorem dX12_count_41 : decode cX12_count 41 = .ok (.getfield 128, 3) := by decide +kernel
theorem dX12_count_44 : decode cX12_count 44 = .ok (.ireturn, 1) := by decide +kernel
theorem dX12_count_45 : decode cX12_count 45 = .ok (.aload_n 0, 1) := by decide +kernel
theorem dX12_count_46 : decode cX12_count 46 = .ok (.getfield 135, 3) := by decide +kernel
theorem dX12_count_49 : decode cX12_count 49 = .ok (.ireturn, 1) := by decide +kernel
theorem dX12_count_50 : decode cX12_count 50 = .ok (.aload_n 0, 1) := by decide +kernel
theorem dX12_count_51 : decode cX12_count 51 = .ok (.getfield 184, 3) := by decide +kernel
theorem dX12_count_54 : decode cX12_count 54 = .ok (.ireturn, 1) := by decide +kernel
theorem dX12_count_55 : decode cX12_count 55 = .ok (.aload_n 0, 1) := by decide +kernel
theorem dX12_count_56 : decode cX12_count 56 = .ok (.getfield 161, 3) := by decide +kernel
theorem dX12_count_59 : decode cX12_count 59 = .ok (.ireturn, 1) := by decide +kernel
theorem dX12_count_60 : decode cX12_count 60 = .ok (.aload_n 0, 1) := by decide +kernel
theorem dX12_count_61 : decode cX12_count 61 = .ok (.getfield 383, 3) := by decide +kernel
theorem dX12_count_64 : decode cX12_count 64 = .ok (.ireturn, 1) := by decide +kernel
theorem dX12_count_65 : decode cX12_count 65 = .ok (.aload_n 0, 1) := by decide +kernel
theorem dX12_count_66 : decode cX12_count 66 = .ok (.getfield 386, 3) := by decide +kernel
theorem dX12_count_69 : decode cX12_count 69 = .ok (.ireturn, 1) := by decide +kernel
theorem dX12_count_70 : decode cX12_count 70 = .ok (.iconst (-1), 1) := by decide +kernel
theorem dX12_count_71 : decode cX12_count 71 = .ok (.ireturn, 1) := by decide +kernel
theorem dX12_isShelf_0 : decode cX12_isShelf 0 = .ok (.iload_n 0, 1) := by decide +kernel
theorem dX12_isShelf_1 : decode cX12_isShelf 1 = .ok (.iconst 0, 1) := by decide +kernel
theorem dX12_isShelf_2 : decode cX12_isShelf 2 = .ok (.iconst 5, 1) := by decide +kernel
theorem dX12_isShelf_3 : decode cX12_isShelf 3 = .ok (.invokestatic 131, 3) := by decide +kernel
theorem dX12_isShelf_6 : decode cX12_isShelf 6 = .ok (.ireturn, 1) := by decide +kernel
theorem dX12_keep_0 : decode cX12_keep 0 = .ok (.iload_n 1, 1) := by decide +kernel
theorem dX12_keep_1 : decode cX12_keep 1 = .ok (.invokestatic 149, 3) := by decide +kernel
theorem dX12_keep_4 : decode cX12_keep 4 = .ok (.ifCond .eq 16, 3) := by decide +kernel
theorem dX12_keep_7 : decode cX12_keep 7 = .ok (.iload_n 2, 1) := by decide +kernel
theorem dX12_keep_8 : decode cX12_keep 8 = .ok (.iconst (-1), 1) := by decide +kernel
theorem dX12_keep_9 : decode cX12_keep 9 = .ok (.if_icmp .eq 13, 3) := by decide +kernel
theorem dX12_keep_12 : decode cX12_keep 12 = .ok (.aload_n 0, 1) := by decide +kernel
theorem dX12_keep_13 : decode cX12_keep 13 = .ok (.iload_n 2, 1) := by decide +kernel
theorem dX12_keep_14 : decode cX12_keep 14 = .ok (.invokevirtual 425, 3) := by decide +kernel
theorem dX12_keep_17 : decode cX12_keep 17 = .ok (.ifCond .ne 5, 3) := by decide +kernel
theorem dX12_keep_20 : decode cX12_keep 20 = .ok (.iconst (-1), 1) := by decide +kernel
theorem dX12_keep_21 : decode cX12_keep 21 = .ok (.ireturn, 1) := by decide +kernel
theorem dX12_keep_22 : decode cX12_keep 22 = .ok (.aload_n 0, 1) := by decide +kernel
theorem dX12_keep_23 : decode cX12_keep 23 = .ok (.getfield 111, 3) := by decide +kernel
theorem dX12_keep_26 : decode cX12_keep 26 = .ok (.iload_n 1, 1) := by decide +kernel
theorem dX12_keep_27 : decode cX12_keep 27 = .ok (.iload_n 2, 1) := by decide +kernel
theorem dX12_keep_28 : decode cX12_keep 28 = .ok (.iastore, 1) := by decide +kernel
theorem dX12_keep_29 : decode cX12_keep 29 = .ok (.iconst 1, 1) := by decide +kernel
theorem dX12_keep_30 : decode cX12_keep 30 = .ok (.ireturn, 1) := by decide +kernel
theorem dX12_row_0 : decode cX12_row 0 = .ok (.iload_n 1, 1) := by decide +kernel
theorem dX12_row_1 : decode cX12_row 1 = .ok (.invokestatic 149, 3) := by decide +kernel
theorem dX12_row_4 : decode cX12_row 4 = .ok (.ifCond .eq 18, 3) := by decide +kernel
theorem dX12_row_7 : decode cX12_row 7 = .ok (.iload_n 2, 1) := by decide +kernel
theorem dX12_row_8 : decode cX12_row 8 = .ok (.iconst 0, 1) := by decide +kernel
theorem dX12_row_9 : decode cX12_row 9 = .ok (.iconst 4, 1) := by decide +kernel
theorem dX12_row_10 : decode cX12_row 10 = .ok (.invokestatic 131, 3) := by decide +kernel
theorem dX12_row_13 : decode cX12_row 13 = .ok (.ifCond .eq 9, 3) := by decide +kernel
theorem dX12_row_16 : decode cX12_row 16 = .ok (.iload_n 3, 1) := by decide +kernel
theorem dX12_row_17 : decode cX12_row 17 = .ok (.bipush 60, 2) := by decide +kernel
theorem dX12_row_19 : decode cX12_row 19 = .ok (.if_icmp .le 5, 3) := by decide +kernel
theorem dX12_row_22 : decode cX12_row 22 = .ok (.iconst (-1), 1) := by decide +kernel
theorem dX12_row_23 : decode cX12_row 23 = .ok (.ireturn, 1) := by decide +kernel
theorem dX12_row_24 : decode cX12_row 24 = .ok (.iload_n 3, 1) := by decide +kernel
theorem dX12_row_25 : decode cX12_row 25 = .ok (.ifCond .ge 6, 3) := by decide +kernel
theorem dX12_row_28 : decode cX12_row 28 = .ok (.bipush (-14), 2) := by decide +kernel
theorem dX12_row_30 : decode cX12_row 30 = .ok (.ireturn, 1) := by decide +kernel
theorem dX12_row_31 : decode cX12_row 31 = .ok (.aload_n 0, 1) := by decide +kernel
theorem dX12_row_32 : decode cX12_row 32 = .ok (.getfield 111, 3) := by decide +kernel
theorem dX12_row_35 : decode cX12_row 35 = .ok (.iload_n 1, 1) := by decide +kernel
theorem dX12_row_36 : decode cX12_row 36 = .ok (.bipush (-2), 2) := by decide +kernel
theorem dX12_row_38 : decode cX12_row 38 = .ok (.iload_n 2, 1) := by decide +kernel
theorem dX12_row_39 : decode cX12_row 39 = .ok (.isub, 1) := by decide +kernel
theorem dX12_row_40 : decode cX12_row 40 = .ok (.iastore, 1) := by decide +kernel
theorem dX12_row_41 : decode cX12_row 41 = .ok (.aload_n 0, 1) := by decide +kernel
theorem dX12_row_42 : decode cX12_row 42 = .ok (.getfield 114, 3) := by decide +kernel
theorem dX12_row_45 : decode cX12_row 45 = .ok (.iload_n 1, 1) := by decide +kernel
theorem dX12_row_46 : decode cX12_row 46 = .ok (.iload_n 3, 1) := by decide +kernel
theorem dX12_row_47 : decode cX12_row 47 = .ok (.iastore, 1) := by decide +kernel
theorem dX12_row_48 : decode cX12_row 48 = .ok (.bipush 60, 2) := by decide +kernel
theorem dX12_row_50 : decode cX12_row 50 = .ok (.iload_n 1, 1) := by decide +kernel
theorem dX12_row_51 : decode cX12_row 51 = .ok (.imul, 1) := by decide +kernel
theorem dX12_row_52 : decode cX12_row 52 = .ok (.istore 4, 2) := by decide +kernel
theorem dX12_row_54 : decode cX12_row 54 = .ok (.iload 4, 2) := by decide +kernel
theorem dX12_row_56 : decode cX12_row 56 = .ok (.bipush 60, 2) := by decide +kernel
theorem dX12_row_58 : decode cX12_row 58 = .ok (.iload_n 1, 1) := by decide +kernel
theorem dX12_row_59 : decode cX12_row 59 = .ok (.imul, 1) := by decide +kernel
theorem dX12_row_60 : decode cX12_row 60 = .ok (.bipush 60, 2) := by decide +kernel
theorem dX12_row_62 : decode cX12_row 62 = .ok (.iadd, 1) := by decide +kernel
theorem dX12_row_63 : decode cX12_row 63 = .ok (.if_icmp .ge 17, 3) := by decide +kernel
theorem dX12_row_66 : decode cX12_row 66 = .ok (.aload_n 0, 1) := by decide +kernel
theorem dX12_row_67 : decode cX12_row 67 = .ok (.getfield 117, 3) := by decide +kernel
theorem dX12_row_70 : decode cX12_row 70 = .ok (.iload 4, 2) := by decide +kernel
theorem dX12_row_72 : decode cX12_row 72 = .ok (.lconst 0, 1) := by decide +kernel
theorem dX12_row_73 : decode cX12_row 73 = .ok (.lastore, 1) := by decide +kernel
theorem dX12_row_74 : decode cX12_row 74 = .ok (.iinc 4 1, 3) := by decide +kernel
theorem dX12_row_77 : decode cX12_row 77 = .ok (.goto (-23), 3) := by decide +kernel
theorem dX12_row_80 : decode cX12_row 80 = .ok (.iconst 1, 1) := by decide +kernel
theorem dX12_row_81 : decode cX12_row 81 = .ok (.ireturn, 1) := by decide +kernel
theorem dX12_whyNoPlace_0 : decode cX12_whyNoPlace 0 = .ok (.iload_n 1, 1) := by decide +kernel
theorem dX12_whyNoPlace_1 : decode cX12_whyNoPlace 1 = .ok (.invokestatic 149, 3) := by decide +kernel
theorem dX12_whyNoPlace_4 : decode cX12_whyNoPlace 4 = .ok (.ifCond .ne 5, 3) := by decide +kernel
theorem dX12_whyNoPlace_7 : decode cX12_whyNoPlace 7 = .ok (.iconst (-1), 1) := by decide +kernel
theorem dX12_whyNoPlace_8 : decode cX12_whyNoPlace 8 = .ok (.ireturn, 1) := by decide +kernel
theorem dX12_whyNoPlace_9 : decode cX12_whyNoPlace 9 = .ok (.aload_n 0, 1) := by decide +kernel
theorem dX12_whyNoPlace_10 : decode cX12_whyNoPlace 10 = .ok (.getfield 111, 3) := by decide +kernel
theorem dX12_whyNoPlace_13 : decode cX12_whyNoPlace 13 = .ok (.iload_n 1, 1) := by decide +kernel
theorem dX12_whyNoPlace_14 : decode cX12_whyNoPlace 14 = .ok (.iaload, 1) := by decide +kernel
theorem dX12_whyNoPlace_15 : decode cX12_whyNoPlace 15 = .ok (.iconst (-1), 1) := by decide +kernel
theorem dX12_whyNoPlace_16 : decode cX12_whyNoPlace 16 = .ok (.if_icmp .ne 6, 3) := by decide +kernel
theorem dX12_whyNoPlace_19 : decode cX12_whyNoPlace 19 = .ok (.bipush (-11), 2) := by decide +kernel
theorem dX12_whyNoPlace_21 : decode cX12_whyNoPlace 21 = .ok (.ireturn, 1) := by decide +kernel
theorem dX12_whyNoPlace_22 : decode cX12_whyNoPlace 22 = .ok (.aload_n 0, 1) := by decide +kernel
theorem dX12_whyNoPlace_23 : decode cX12_whyNoPlace 23 = .ok (.getfield 111, 3) := by decide +kernel
theorem dX12_whyNoPlace_26 : decode cX12_whyNoPlace 26 = .ok (.iload_n 1, 1) := by decide +kernel
theorem dX12_whyNoPlace_27 : decode cX12_whyNoPlace 27 = .ok (.iaload, 1) := by decide +kernel
theorem dX12_whyNoPlace_28 : decode cX12_whyNoPlace 28 = .ok (.ifCond .lt 6, 3) := by decide +kernel
theorem dX12_whyNoPlace_31 : decode cX12_whyNoPlace 31 = .ok (.bipush (-12), 2) := by decide +kernel
theorem dX12_whyNoPlace_33 : decode cX12_whyNoPlace 33 = .ok (.ireturn, 1) := by decide +kernel
theorem dX12_whyNoPlace_34 : decode cX12_whyNoPlace 34 = .ok (.iload_n 2, 1) := by decide +kernel
theorem dX12_whyNoPlace_35 : decode cX12_whyNoPlace 35 = .ok (.iconst 0, 1) := by decide +kernel
theorem dX12_whyNoPlace_36 : decode cX12_whyNoPlace 36 = .ok (.aload_n 0, 1) := by decide +kernel
theorem dX12_whyNoPlace_37 : decode cX12_whyNoPlace 37 = .ok (.getfield 114, 3) := by decide +kernel
theorem dX12_whyNoPlace_40 : decode cX12_whyNoPlace 40 = .ok (.iload_n 1, 1) := by decide +kernel
theorem dX12_whyNoPlace_41 : decode cX12_whyNoPlace 41 = .ok (.iaload, 1) := by decide +kernel
theorem dX12_whyNoPlace_42 : decode cX12_whyNoPlace 42 = .ok (.iconst 1, 1) := by decide +kernel
theorem dX12_whyNoPlace_43 : decode cX12_whyNoPlace 43 = .ok (.isub, 1) := by decide +kernel
theorem dX12_whyNoPlace_44 : decode cX12_whyNoPlace 44 = .ok (.invokestatic 131, 3) := by decide +kernel
theorem dX12_whyNoPlace_47 : decode cX12_whyNoPlace 47 = .ok (.ifCond .eq 7, 3) := by decide +kernel
theorem dX12_whyNoPlace_50 : decode cX12_whyNoPlace 50 = .ok (.iconst 0, 1) := by decide +kernel
theorem dX12_whyNoPlace_51 : decode cX12_whyNoPlace 51 = .ok (.goto 5, 3) := by decide +kernel
theorem dX12_whyNoPlace_54 : decode cX12_whyNoPlace 54 = .ok (.bipush (-13), 2) := by decide +kernel
theorem dX12_whyNoPlace_56 : decode cX12_whyNoPlace 56 = .ok (.ireturn, 1) := by decide +kernel
theorem dX12_put_0 : decode cX12_put 0 = .ok (.aload_n 0, 1) := by decide +kernel
theorem dX12_put_1 : decode cX12_put 1 = .ok (.iload_n 1, 1) := by decide +kernel
theorem dX12_put_2 : decode cX12_put 2 = .ok (.iload_n 2, 1) := by decide +kernel
theorem dX12_put_3 : decode cX12_put 3 = .ok (.invokevirtual 431, 3) := by decide +kernel
theorem dX12_put_6 : decode cX12_put 6 = .ok (.istore 5, 2) := by decide +kernel
theorem dX12_put_8 : decode cX12_put 8 = .ok (.iload 5, 2) := by decide +kernel
theorem dX12_put_10 : decode cX12_put 10 = .ok (.ifCond .ge 6, 3) := by decide +kernel
theorem dX12_put_13 : decode cX12_put 13 = .ok (.iload 5, 2) := by decide +kernel
theorem dX12_put_15 : decode cX12_put 15 = .ok (.ireturn, 1) := by decide +kernel
theorem dX12_put_16 : decode cX12_put 16 = .ok (.bipush (-2), 2) := by decide +kernel
theorem dX12_put_18 : decode cX12_put 18 = .ok (.aload_n 0, 1) := by decide +kernel
theorem dX12_put_19 : decode cX12_put 19 = .ok (.getfield 111, 3) := by decide +kernel
theorem dX12_put_22 : decode cX12_put 22 = .ok (.iload_n 1, 1) := by decide +kernel
theorem dX12_put_23 : decode cX12_put 23 = .ok (.iaload, 1) := by decide +kernel
theorem dX12_put_24 : decode cX12_put 24 = .ok (.isub, 1) := by decide +kernel
theorem dX12_put_25 : decode cX12_put 25 = .ok (.istore 6, 2) := by decide +kernel
theorem dX12_put_27 : decode cX12_put 27 = .ok (.aload_n 0, 1) := by decide +kernel
theorem dX12_put_28 : decode cX12_put 28 = .ok (.getfield 117, 3) := by decide +kernel
theorem dX12_put_31 : decode cX12_put 31 = .ok (.bipush 60, 2) := by decide +kernel
theorem dX12_put_33 : decode cX12_put 33 = .ok (.iload_n 1, 1) := by decide +kernel
theorem dX12_put_34 : decode cX12_put 34 = .ok (.imul, 1) := by decide +kernel
theorem dX12_put_35 : decode cX12_put 35 = .ok (.iload_n 2, 1) := by decide +kernel
theorem dX12_put_36 : decode cX12_put 36 = .ok (.iadd, 1) := by decide +kernel
theorem dX12_put_37 : decode cX12_put 37 = .ok (.iload 6, 2) := by decide +kernel
theorem dX12_put_39 : decode cX12_put 39 = .ok (.ifCond .ne 10, 3) := by decide +kernel
theorem dX12_put_42 : decode cX12_put 42 = .ok (.lload_n 3, 1) := by decide +kernel
theorem dX12_put_43 : decode cX12_put 43 = .ok (.l2i, 1) := by decide +kernel
theorem dX12_put_44 : decode cX12_put 44 = .ok (.i2b, 1) := by decide +kernel
theorem dX12_put_45 : decode cX12_put 45 = .ok (.i2l, 1) := by decide +kernel
theorem dX12_put_46 : decode cX12_put 46 = .ok (.goto 49, 3) := by decide +kernel
theorem dX12_put_49 : decode cX12_put 49 = .ok (.iload 6, 2) := by decide +kernel
theorem dX12_put_51 : decode cX12_put 51 = .ok (.iconst 1, 1) := by decide +kernel
theorem dX12_put_52 : decode cX12_put 52 = .ok (.if_icmp .ne 10, 3) := by decide +kernel
theorem dX12_put_55 : decode cX12_put 55 = .ok (.lload_n 3, 1) := by decide +kernel
theorem dX12_put_56 : decode cX12_put 56 = .ok (.l2i, 1) := by decide +kernel
theorem dX12_put_57 : decode cX12_put 57 = .ok (.i2s, 1) := by decide +kernel
theorem dX12_put_58 : decode cX12_put 58 = .ok (.i2l, 1) := by decide +kernel
theorem dX12_put_59 : decode cX12_put 59 = .ok (.goto 36, 3) := by decide +kernel
theorem dX12_put_62 : decode cX12_put 62 = .ok (.iload 6, 2) := by decide +kernel
theorem dX12_put_64 : decode cX12_put 64 = .ok (.iconst 2, 1) := by decide +kernel
theorem dX12_put_65 : decode cX12_put 65 = .ok (.if_icmp .ne 9, 3) := by decide +kernel
theorem dX12_put_68 : decode cX12_put 68 = .ok (.lload_n 3, 1) := by decide +kernel
theorem dX12_put_69 : decode cX12_put 69 = .ok (.l2i, 1) := by decide +kernel
theorem dX12_put_70 : decode cX12_put 70 = .ok (.i2l, 1) := by decide +kernel
theorem dX12_put_71 : decode cX12_put 71 = .ok (.goto 24, 3) := by decide +kernel
theorem dX12_put_74 : decode cX12_put 74 = .ok (.iload 6, 2) := by decide +kernel
theorem dX12_put_76 : decode cX12_put 76 = .ok (.iconst 3, 1) := by decide +kernel
theorem dX12_put_77 : decode cX12_put 77 = .ok (.if_icmp .ne 7, 3) := by decide +kernel
theorem dX12_put_80 : decode cX12_put 80 = .ok (.lload_n 3, 1) := by decide +kernel
theorem dX12_put_81 : decode cX12_put 81 = .ok (.goto 14, 3) := by decide +kernel
theorem dX12_put_84 : decode cX12_put 84 = .ok (.lload_n 3, 1) := by decide +kernel
theorem dX12_put_85 : decode cX12_put 85 = .ok (.lconst 0, 1) := by decide +kernel
theorem dX12_put_86 : decode cX12_put 86 = .ok (.lcmp, 1) := by decide +kernel
theorem dX12_put_87 : decode cX12_put 87 = .ok (.ifCond .eq 7, 3) := by decide +kernel
theorem dX12_put_90 : decode cX12_put 90 = .ok (.lconst 1, 1) := by decide +kernel
theorem dX12_put_91 : decode cX12_put 91 = .ok (.goto 4, 3) := by decide +kernel
theorem dX12_put_94 : decode cX12_put 94 = .ok (.lconst 0, 1) := by decide +kernel
theorem dX12_put_95 : decode cX12_put 95 = .ok (.lastore, 1) := by decide +kernel
theorem dX12_put_96 : decode cX12_put 96 = .ok (.iconst 1, 1) := by decide +kernel
theorem dX12_put_97 : decode cX12_put 97 = .ok (.ireturn, 1) := by decide +kernel
theorem dX12_element_0 : decode cX12_element 0 = .ok (.aload_n 0, 1) := by decide +kernel
theorem dX12_element_1 : decode cX12_element 1 = .ok (.iload_n 1, 1) := by decide +kernel
theorem dX12_element_2 : decode cX12_element 2 = .ok (.iload_n 2, 1) := by decide +kernel
theorem dX12_element_3 : decode cX12_element 3 = .ok (.invokevirtual 431, 3) := by decide +kernel
theorem dX12_element_6 : decode cX12_element 6 = .ok (.ifCond .ge 9, 3) := by decide +kernel
theorem dX12_element_9 : decode cX12_element 9 = .ok (.ldc2_w 436, 3) := by decide +kernel
theorem dX12_element_12 : decode cX12_element 12 = .ok (.goto 14, 3) := by decide +kernel
theorem dX12_element_15 : decode cX12_element 15 = .ok (.aload_n 0, 1) := by decide +kernel
theorem dX12_element_16 : decode cX12_element 16 = .ok (.getfield 117, 3) := by decide +kernel
theorem dX12_element_19 : decode cX12_element 19 = .ok (.bipush 60, 2) := by decide +kernel
theorem dX12_element_21 : decode cX12_element 21 = .ok (.iload_n 1, 1) := by decide +kernel
theorem dX12_element_22 : decode cX12_element 22 = .ok (.imul, 1) := by decide +kernel
theorem dX12_element_23 : decode cX12_element 23 = .ok (.iload_n 2, 1) := by decide +kernel
theorem dX12_element_24 : decode cX12_element 24 = .ok (.iadd, 1) := by decide +kernel
theorem dX12_element_25 : decode cX12_element 25 = .ok (.laload, 1) := by decide +kernel
theorem dX12_element_26 : decode cX12_element 26 = .ok (.lreturn, 1) := by decide +kernel
theorem dX12_shift_0 : decode cX12_shift 0 = .ok (.iload_n 1, 1) := by decide +kernel
theorem dX12_shift_1 : decode cX12_shift 1 = .ok (.invokestatic 149, 3) := by decide +kernel
theorem dX12_shift_4 : decode cX12_shift 4 = .ok (.ifCond .eq 10, 3) := by decide +kernel
theorem dX12_shift_7 : decode cX12_shift 7 = .ok (.iload_n 3, 1) := by decide +kernel
theorem dX12_shift_8 : decode cX12_shift 8 = .ok (.invokestatic 149, 3) := by decide +kernel
theorem dX12_shift_11 : decode cX12_shift 11 = .ok (.ifCond .ne 5, 3) := by decide +kernel
theorem dX12_shift_14 : decode cX12_shift 14 = .ok (.iconst (-1), 1) := by decide +kernel
theorem dX12_shift_15 : decode cX12_shift 15 = .ok (.ireturn, 1) := by decide +kernel
theorem dX12_shift_16 : decode cX12_shift 16 = .ok (.aload_n 0, 1) := by decide +kernel
theorem dX12_shift_17 : decode cX12_shift 17 = .ok (.getfield 111, 3) := by decide +kernel
theorem dX12_shift_20 : decode cX12_shift 20 = .ok (.iload_n 1, 1) := by decide +kernel
theorem dX12_shift_21 : decode cX12_shift 21 = .ok (.iaload, 1) := by decide +kernel
theorem dX12_shift_22 : decode cX12_shift 22 = .ok (.iconst (-1), 1) := by decide +kernel
theorem dX12_shift_23 : decode cX12_shift 23 = .ok (.if_icmp .eq 13, 3) := by decide +kernel
theorem dX12_shift_26 : decode cX12_shift 26 = .ok (.aload_n 0, 1) := by decide +kernel
theorem dX12_shift_27 : decode cX12_shift 27 = .ok (.getfield 111, 3) := by decide +kernel
theorem dX12_shift_30 : decode cX12_shift 30 = .ok (.iload_n 3, 1) := by decide +kernel
theorem dX12_shift_31 : decode cX12_shift 31 = .ok (.iaload, 1) := by decide +kernel
theorem dX12_shift_32 : decode cX12_shift 32 = .ok (.iconst (-1), 1) := by decide +kernel
theorem dX12_shift_33 : decode cX12_shift 33 = .ok (.if_icmp .ne 6, 3) := by decide +kernel
theorem dX12_shift_36 : decode cX12_shift 36 = .ok (.bipush (-11), 2) := by decide +kernel
theorem dX12_shift_38 : decode cX12_shift 38 = .ok (.ireturn, 1) := by decide +kernel
theorem dX12_shift_39 : decode cX12_shift 39 = .ok (.aload_n 0, 1) := by decide +kernel
theorem dX12_shift_40 : decode cX12_shift 40 = .ok (.getfield 111, 3) := by decide +kernel
theorem dX12_shift_43 : decode cX12_shift 43 = .ok (.iload_n 1, 1) := by decide +kernel
theorem dX12_shift_44 : decode cX12_shift 44 = .ok (.iaload, 1) := by decide +kernel
theorem dX12_shift_45 : decode cX12_shift 45 = .ok (.ifCond .ge 18, 3) := by decide +kernel
theorem dX12_shift_48 : decode cX12_shift 48 = .ok (.aload_n 0, 1) := by decide +kernel
theorem dX12_shift_49 : decode cX12_shift 49 = .ok (.getfield 111, 3) := by decide +kernel
theorem dX12_shift_52 : decode cX12_shift 52 = .ok (.iload_n 1, 1) := by decide +kernel
theorem dX12_shift_53 : decode cX12_shift 53 = .ok (.iaload, 1) := by decide +kernel
theorem dX12_shift_54 : decode cX12_shift 54 = .ok (.aload_n 0, 1) := by decide +kernel
theorem dX12_shift_55 : decode cX12_shift 55 = .ok (.getfield 111, 3) := by decide +kernel
theorem dX12_shift_58 : decode cX12_shift 58 = .ok (.iload_n 3, 1) := by decide +kernel
theorem dX12_shift_59 : decode cX12_shift 59 = .ok (.iaload, 1) := by decide +kernel
theorem dX12_shift_60 : decode cX12_shift 60 = .ok (.if_icmp .eq 6, 3) := by decide +kernel
theorem dX12_shift_63 : decode cX12_shift 63 = .ok (.bipush (-12), 2) := by decide +kernel
theorem dX12_shift_65 : decode cX12_shift 65 = .ok (.ireturn, 1) := by decide +kernel
theorem dX12_shift_66 : decode cX12_shift 66 = .ok (.iload 5, 2) := by decide +kernel
theorem dX12_shift_68 : decode cX12_shift 68 = .ok (.ifCond .lt 39, 3) := by decide +kernel
theorem dX12_shift_71 : decode cX12_shift 71 = .ok (.iload_n 2, 1) := by decide +kernel
theorem dX12_shift_72 : decode cX12_shift 72 = .ok (.ifCond .lt 35, 3) := by decide +kernel
theorem dX12_shift_75 : decode cX12_shift 75 = .ok (.iload 4, 2) := by decide +kernel
theorem dX12_shift_77 : decode cX12_shift 77 = .ok (.ifCond .lt 30, 3) := by decide +kernel
theorem dX12_shift_80 : decode cX12_shift 80 = .ok (.iload_n 2, 1) := by decide +kernel
theorem dX12_shift_81 : decode cX12_shift 81 = .ok (.aload_n 0, 1) := by decide +kernel
theorem dX12_shift_82 : decode cX12_shift 82 = .ok (.getfield 114, 3) := by decide +kernel
theorem dX12_shift_85 : decode cX12_shift 85 = .ok (.iload_n 1, 1) := by decide +kernel
theorem dX12_shift_86 : decode cX12_shift 86 = .ok (.iaload, 1) := by decide +kernel
theorem dX12_shift_87 : decode cX12_shift 87 = .ok (.iload 5, 2) := by decide +kernel
theorem dX12_shift_89 : decode cX12_shift 89 = .ok (.isub, 1) := by decide +kernel
theorem dX12_shift_90 : decode cX12_shift 90 = .ok (.if_icmp .gt 17, 3) := by decide +kernel
theorem dX12_shift_93 : decode cX12_shift 93 = .ok (.iload 4, 2) := by decide +kernel
theorem dX12_shift_95 : decode cX12_shift 95 = .ok (.aload_n 0, 1) := by decide +kernel
theorem dX12_shift_96 : decode cX12_shift 96 = .ok (.getfield 114, 3) := by decide +kernel
theorem dX12_shift_99 : decode cX12_shift 99 = .ok (.iload_n 3, 1) := by decide +kernel
theorem dX12_shift_100 : decode cX12_shift 100 = .ok (.iaload, 1) := by decide +kernel
theorem dX12_shift_101 : decode cX12_shift 101 = .ok (.iload 5, 2) := by decide +kernel
theorem dX12_shift_103 : decode cX12_shift 103 = .ok (.isub, 1) := by decide +kernel
theorem dX12_shift_104 : decode cX12_shift 104 = .ok (.if_icmp .le 6, 3) := by decide +kernel
theorem dX12_shift_107 : decode cX12_shift 107 = .ok (.bipush (-13), 2) := by decide +kernel
theorem dX12_shift_109 : decode cX12_shift 109 = .ok (.ireturn, 1) := by decide +kernel
theorem dX12_shift_110 : decode cX12_shift 110 = .ok (.iconst 0, 1) := by decide +kernel
theorem dX12_shift_111 : decode cX12_shift 111 = .ok (.istore 6, 2) := by decide +kernel
theorem dX12_shift_113 : decode cX12_shift 113 = .ok (.iload 6, 2) := by decide +kernel
theorem dX12_shift_115 : decode cX12_shift 115 = .ok (.iload 5, 2) := by decide +kernel
theorem dX12_shift_117 : decode cX12_shift 117 = .ok (.if_icmp .ge 30, 3) := by decide +kernel
theorem dX12_shift_120 : decode cX12_shift 120 = .ok (.aload_n 0, 1) := by decide +kernel
theorem dX12_shift_121 : decode cX12_shift 121 = .ok (.getfield 121, 3) := by decide +kernel
theorem dX12_shift_124 : decode cX12_shift 124 = .ok (.iload 6, 2) := by decide +kernel
theorem dX12_shift_126 : decode cX12_shift 126 = .ok (.aload_n 0, 1) := by decide +kernel
theorem dX12_shift_127 : decode cX12_shift 127 = .ok (.getfield 117, 3) := by decide +kernel
theorem dX12_shift_130 : decode cX12_shift 130 = .ok (.bipush 60, 2) := by decide +kernel
theorem dX12_shift_132 : decode cX12_shift 132 = .ok (.iload_n 1, 1) := by decide +kernel
theorem dX12_shift_133 : decode cX12_shift 133 = .ok (.imul, 1) := by decide +kernel
theorem dX12_shift_134 : decode cX12_shift 134 = .ok (.iload_n 2, 1) := by decide +kernel
theorem dX12_shift_135 : decode cX12_shift 135 = .ok (.iadd, 1) := by decide +kernel
theorem dX12_shift_136 : decode cX12_shift 136 = .ok (.iload 6, 2) := by decide +kernel
theorem dX12_shift_138 : decode cX12_shift 138 = .ok (.iadd, 1) := by decide +kernel
theorem dX12_shift_139 : decode cX12_shift 139 = .ok (.laload, 1) := by decide +kernel
theorem dX12_shift_140 : decode cX12_shift 140 = .ok (.lastore, 1) := by decide +kernel
theorem dX12_shift_141 : decode cX12_shift 141 = .ok (.iinc 6 1, 3) := by decide +kernel
theorem dX12_shift_144 : decode cX12_shift 144 = .ok (.goto (-31), 3) := by decide +kernel
theorem dX12_shift_147 : decode cX12_shift 147 = .ok (.iconst 0, 1) := by decide +kernel
theorem dX12_shift_148 : decode cX12_shift 148 = .ok (.istore 6, 2) := by decide +kernel
theorem dX12_shift_150 : decode cX12_shift 150 = .ok (.iload 6, 2) := by decide +kernel
theorem dX12_shift_152 : decode cX12_shift 152 = .ok (.iload 5, 2) := by decide +kernel
theorem dX12_shift_154 : decode cX12_shift 154 = .ok (.if_icmp .ge 31, 3) := by decide +kernel
theorem dX12_shift_157 : decode cX12_shift 157 = .ok (.aload_n 0, 1) := by decide +kernel
theorem dX12_shift_158 : decode cX12_shift 158 = .ok (.getfield 117, 3) := by decide +kernel
theorem dX12_shift_161 : decode cX12_shift 161 = .ok (.bipush 60, 2) := by decide +kernel
theorem dX12_shift_163 : decode cX12_shift 163 = .ok (.iload_n 3, 1) := by decide +kernel
theorem dX12_shift_164 : decode cX12_shift 164 = .ok (.imul, 1) := by decide +kernel
theorem dX12_shift_165 : decode cX12_shift 165 = .ok (.iload 4, 2) := by decide +kernel
theorem dX12_shift_167 : decode cX12_shift 167 = .ok (.iadd, 1) := by decide +kernel
theorem dX12_shift_168 : decode cX12_shift 168 = .ok (.iload 6, 2) := by decide +kernel
theorem dX12_shift_170 : decode cX12_shift 170 = .ok (.iadd, 1) := by decide +kernel
theorem dX12_shift_171 : decode cX12_shift 171 = .ok (.aload_n 0, 1) := by decide +kernel
theorem dX12_shift_172 : decode cX12_shift 172 = .ok (.getfield 121, 3) := by decide +kernel
theorem dX12_shift_175 : decode cX12_shift 175 = .ok (.iload 6, 2) := by decide +kernel
theorem dX12_shift_177 : decode cX12_shift 177 = .ok (.laload, 1) := by decide +kernel
theorem dX12_shift_178 : decode cX12_shift 178 = .ok (.lastore, 1) := by decide +kernel
theorem dX12_shift_179 : decode cX12_shift 179 = .ok (.iinc 6 1, 3) := by decide +kernel
theorem dX12_shift_182 : decode cX12_shift 182 = .ok (.goto (-32), 3) := by decide +kernel
theorem dX12_shift_185 : decode cX12_shift 185 = .ok (.iload 5, 2) := by decide +kernel
theorem dX12_shift_187 : decode cX12_shift 187 = .ok (.ireturn, 1) := by decide +kernel
theorem dX12_taken_0 : decode cX12_taken 0 = .ok (.iload_n 1, 1) := by decide +kernel
theorem dX12_taken_1 : decode cX12_taken 1 = .ok (.invokestatic 149, 3) := by decide +kernel
theorem dX12_taken_4 : decode cX12_taken 4 = .ok (.ifCond .eq 13, 3) := by decide +kernel
theorem dX12_taken_7 : decode cX12_taken 7 = .ok (.iload_n 2, 1) := by decide +kernel
theorem dX12_taken_8 : decode cX12_taken 8 = .ok (.iconst 0, 1) := by decide +kernel
theorem dX12_taken_9 : decode cX12_taken 9 = .ok (.bipush 7, 2) := by decide +kernel
theorem dX12_taken_11 : decode cX12_taken 11 = .ok (.invokestatic 131, 3) := by decide +kernel
theorem dX12_taken_14 : decode cX12_taken 14 = .ok (.ifCond .ne 5, 3) := by decide +kernel
theorem dX12_taken_17 : decode cX12_taken 17 = .ok (.iconst (-1), 1) := by decide +kernel
theorem dX12_taken_18 : decode cX12_taken 18 = .ok (.ireturn, 1) := by decide +kernel
theorem dX12_taken_19 : decode cX12_taken 19 = .ok (.aload_n 0, 1) := by decide +kernel
theorem dX12_taken_20 : decode cX12_taken 20 = .ok (.getfield 111, 3) := by decide +kernel
theorem dX12_taken_23 : decode cX12_taken 23 = .ok (.iload_n 1, 1) := by decide +kernel
theorem dX12_taken_24 : decode cX12_taken 24 = .ok (.iaload, 1) := by decide +kernel
theorem dX12_taken_25 : decode cX12_taken 25 = .ok (.iconst (-1), 1) := by decide +kernel
theorem dX12_taken_26 : decode cX12_taken 26 = .ok (.if_icmp .ne 6, 3) := by decide +kernel
theorem dX12_taken_29 : decode cX12_taken 29 = .ok (.bipush (-11), 2) := by decide +kernel
theorem dX12_taken_31 : decode cX12_taken 31 = .ok (.ireturn, 1) := by decide +kernel
theorem dX12_taken_32 : decode cX12_taken 32 = .ok (.aload_n 0, 1) := by decide +kernel
theorem dX12_taken_33 : decode cX12_taken 33 = .ok (.getfield 111, 3) := by decide +kernel
theorem dX12_taken_36 : decode cX12_taken 36 = .ok (.iload_n 1, 1) := by decide +kernel
theorem dX12_taken_37 : decode cX12_taken 37 = .ok (.iaload, 1) := by decide +kernel
theorem dX12_taken_38 : decode cX12_taken 38 = .ok (.ifCond .lt 35, 3) := by decide +kernel
theorem dX12_taken_41 : decode cX12_taken 41 = .ok (.aload_n 0, 1) := by decide +kernel
theorem dX12_taken_42 : decode cX12_taken 42 = .ok (.getfield 105, 3) := by decide +kernel
theorem dX12_taken_45 : decode cX12_taken 45 = .ok (.aload_n 0, 1) := by decide +kernel
theorem dX12_taken_46 : decode cX12_taken 46 = .ok (.getfield 111, 3) := by decide +kernel
theorem dX12_taken_49 : decode cX12_taken 49 = .ok (.iload_n 1, 1) := by decide +kernel
theorem dX12_taken_50 : decode cX12_taken 50 = .ok (.iaload, 1) := by decide +kernel
theorem dX12_taken_51 : decode cX12_taken 51 = .ok (.iaload, 1) := by decide +kernel
theorem dX12_taken_52 : decode cX12_taken 52 = .ok (.iload_n 2, 1) := by decide +kernel
theorem dX12_taken_53 : decode cX12_taken 53 = .ok (.invokestatic 395, 3) := by decide +kernel
theorem dX12_taken_56 : decode cX12_taken 56 = .ok (.ifCond .eq 17, 3) := by decide +kernel
theorem dX12_taken_59 : decode cX12_taken 59 = .ok (.aload_n 0, 1) := by decide +kernel
theorem dX12_taken_60 : decode cX12_taken 60 = .ok (.getfield 105, 3) := by decide +kernel
theorem dX12_taken_63 : decode cX12_taken 63 = .ok (.aload_n 0, 1) := by decide +kernel
theorem dX12_taken_64 : decode cX12_taken 64 = .ok (.getfield 111, 3) := by decide +kernel
theorem dX12_taken_67 : decode cX12_taken 67 = .ok (.iload_n 1, 1) := by decide +kernel
theorem dX12_taken_68 : decode cX12_taken 68 = .ok (.iaload, 1) := by decide +kernel
theorem dX12_taken_69 : decode cX12_taken 69 = .ok (.iaload, 1) := by decide +kernel
theorem dX12_taken_70 : decode cX12_taken 70 = .ok (.goto 5, 3) := by decide +kernel
theorem dX12_taken_73 : decode cX12_taken 73 = .ok (.bipush (-12), 2) := by decide +kernel
theorem dX12_taken_75 : decode cX12_taken 75 = .ok (.ireturn, 1) := by decide +kernel
