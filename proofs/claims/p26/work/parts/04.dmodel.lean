theorem dX10_init_0 : decode cX10_init 0 = .ok (.aload_n 0, 1) := by decide +kernel
theorem dX10_init_1 : decode cX10_init 1 = .ok (.invokespecial 1, 3) := by decide +kernel
theorem dX10_init_4 : decode cX10_init 4 = .ok (.aload_n 0, 1) := by decide +kernel
theorem dX10_init_5 : decode cX10_init 5 = .ok (.bipush 24, 2) := by decide +kernel
theorem dX10_init_7 : decode cX10_init 7 = .ok (.newarray .int, 2) := by decide +kernel
theorem dX10_init_9 : decode cX10_init 9 = .ok (.dup, 1) := by decide +kernel
theorem dX10_init_10 : decode cX10_init 10 = .ok (.iconst 0, 1) := by decide +kernel
theorem dX10_init_11 : decode cX10_init 11 = .ok (.iconst (-1), 1) := by decide +kernel
theorem dX10_init_12 : decode cX10_init 12 = .ok (.iastore, 1) := by decide +kernel
theorem dX10_init_13 : decode cX10_init 13 = .ok (.dup, 1) := by decide +kernel
theorem dX10_init_14 : decode cX10_init 14 = .ok (.iconst 1, 1) := by decide +kernel
theorem dX10_init_15 : decode cX10_init 15 = .ok (.iconst (-1), 1) := by decide +kernel
theorem dX10_init_16 : decode cX10_init 16 = .ok (.iastore, 1) := by decide +kernel
theorem dX10_init_17 : decode cX10_init 17 = .ok (.dup, 1) := by decide +kernel
theorem dX10_init_18 : decode cX10_init 18 = .ok (.iconst 2, 1) := by decide +kernel
theorem dX10_init_19 : decode cX10_init 19 = .ok (.iconst (-1), 1) := by decide +kernel
theorem dX10_init_20 : decode cX10_init 20 = .ok (.iastore, 1) := by decide +kernel
theorem dX10_init_21 : decode cX10_init 21 = .ok (.dup, 1) := by decide +kernel
theorem dX10_init_22 : decode cX10_init 22 = .ok (.iconst 3, 1) := by decide +kernel
theorem dX10_init_23 : decode cX10_init 23 = .ok (.iconst (-1), 1) := by decide +kernel
theorem dX10_init_24 : decode cX10_init 24 = .ok (.iastore, 1) := by decide +kernel
theorem dX10_init_25 : decode cX10_init 25 = .ok (.dup, 1) := by decide +kernel
theorem dX10_init_26 : decode cX10_init 26 = .ok (.iconst 4, 1) := by decide +kernel
theorem dX10_init_27 : decode cX10_init 27 = .ok (.iconst (-1), 1) := by decide +kernel
theorem dX10_init_28 : decode cX10_init 28 = .ok (.iastore, 1) := by decide +kernel
theorem dX10_init_29 : decode cX10_init 29 = .ok (.dup, 1) := by decide +kernel
theorem dX10_init_30 : decode cX10_init 30 = .ok (.iconst 5, 1) := by decide +kernel
theorem dX10_init_31 : decode cX10_init 31 = .ok (.iconst (-1), 1) := by decide +kernel
theorem dX10_init_32 : decode cX10_init 32 = .ok (.iastore, 1) := by decide +kernel
theorem dX10_init_33 : decode cX10_init 33 = .ok (.dup, 1) := by decide +kernel
theorem dX10_init_34 : decode cX10_init 34 = .ok (.bipush 6, 2) := by decide +kernel
theorem dX10_init_36 : decode cX10_init 36 = .ok (.iconst (-1), 1) := by decide +kernel
theorem dX10_init_37 : decode cX10_init 37 = .ok (.iastore, 1) := by decide +kernel
theorem dX10_init_38 : decode cX10_init 38 = .ok (.dup, 1) := by decide +kernel
theorem dX10_init_39 : decode cX10_init 39 = .ok (.bipush 7, 2) := by decide +kernel
theorem dX10_init_41 : decode cX10_init 41 = .ok (.iconst (-1), 1) := by decide +kernel
theorem dX10_init_42 : decode cX10_init 42 = .ok (.iastore, 1) := by decide +kernel
theorem dX10_init_43 : decode cX10_init 43 = .ok (.dup, 1) := by decide +kernel
theorem dX10_init_44 : decode cX10_init 44 = .ok (.bipush 8, 2) := by decide +kernel
theorem dX10_init_46 : decode cX10_init 46 = .ok (.iconst (-1), 1) := by decide +kernel
theorem dX10_init_47 : decode cX10_init 47 = .ok (.iastore, 1) := by decide +kernel
theorem dX10_init_48 : decode cX10_init 48 = .ok (.dup, 1) := by decide +kernel
theorem dX10_init_49 : decode cX10_init 49 = .ok (.bipush 9, 2) := by decide +kernel
theorem dX10_init_51 : decode cX10_init 51 = .ok (.iconst (-1), 1) := by decide +kernel
theorem dX10_init_52 : decode cX10_init 52 = .ok (.iastore, 1) := by decide +kernel
theorem dX10_init_53 : decode cX10_init 53 = .ok (.dup, 1) := by decide +kernel
theorem dX10_init_54 : decode cX10_init 54 = .ok (.bipush 10, 2) := by decide +kernel
theorem dX10_init_56 : decode cX10_init 56 = .ok (.iconst (-1), 1) := by decide +kernel
theorem dX10_init_57 : decode cX10_init 57 = .ok (.iastore, 1) := by decide +kernel
theorem dX10_init_58 : decode cX10_init 58 = .ok (.dup, 1) := by decide +kernel
theorem dX10_init_59 : decode cX10_init 59 = .ok (.bipush 11, 2) := by decide +kernel
theorem dX10_init_61 : decode cX10_init 61 = .ok (.iconst (-1), 1) := by decide +kernel
theorem dX10_init_62 : decode cX10_init 62 = .ok (.iastore, 1) := by decide +kernel
theorem dX10_init_63 : decode cX10_init 63 = .ok (.dup, 1) := by decide +kernel
theorem dX10_init_64 : decode cX10_init 64 = .ok (.bipush 12, 2) := by decide +kernel
theorem dX10_init_66 : decode cX10_init 66 = .ok (.iconst (-1), 1) := by decide +kernel
theorem dX10_init_67 : decode cX10_init 67 = .ok (.iastore, 1) := by decide +kernel
theorem dX10_init_68 : decode cX10_init 68 = .ok (.dup, 1) := by decide +kernel
theorem dX10_init_69 : decode cX10_init 69 = .ok (.bipush 13, 2) := by decide +kernel
theorem dX10_init_71 : decode cX10_init 71 = .ok (.iconst (-1), 1) := by decide +kernel
theorem dX10_init_72 : decode cX10_init 72 = .ok (.iastore, 1) := by decide +kernel
theorem dX10_init_73 : decode cX10_init 73 = .ok (.dup, 1) := by decide +kernel
theorem dX10_init_74 : decode cX10_init 74 = .ok (.bipush 14, 2) := by decide +kernel
theorem dX10_init_76 : decode cX10_init 76 = .ok (.iconst (-1), 1) := by decide +kernel
theorem dX10_init_77 : decode cX10_init 77 = .ok (.iastore, 1) := by decide +kernel
theorem dX10_init_78 : decode cX10_init 78 = .ok (.dup, 1) := by decide +kernel
theorem dX10_init_79 : decode cX10_init 79 = .ok (.bipush 15, 2) := by decide +kernel
theorem dX10_init_81 : decode cX10_init 81 = .ok (.iconst (-1), 1) := by decide +kernel
theorem dX10_init_82 : decode cX10_init 82 = .ok (.iastore, 1) := by decide +kernel
theorem dX10_init_83 : decode cX10_init 83 = .ok (.dup, 1) := by decide +kernel
theorem dX10_init_84 : decode cX10_init 84 = .ok (.bipush 16, 2) := by decide +kernel
theorem dX10_init_86 : decode cX10_init 86 = .ok (.iconst (-1), 1) := by decide +kernel
theorem dX10_init_87 : decode cX10_init 87 = .ok (.iastore, 1) := by decide +kernel
theorem dX10_init_88 : decode cX10_init 88 = .ok (.dup, 1) := by decide +kernel
theorem dX10_init_89 : decode cX10_init 89 = .ok (.bipush 17, 2) := by decide +kernel
theorem dX10_init_91 : decode cX10_init 91 = .ok (.iconst (-1), 1) := by decide +kernel
theorem dX10_init_92 : decode cX10_init 92 = .ok (.iastore, 1) := by decide +kernel
theorem dX10_init_93 : decode cX10_init 93 = .ok (.dup, 1) := by decide +kernel
theorem dX10_init_94 : decode cX10_init 94 = .ok (.bipush 18, 2) := by decide +kernel
theorem dX10_init_96 : decode cX10_init 96 = .ok (.iconst (-1), 1) := by decide +kernel
theorem dX10_init_97 : decode cX10_init 97 = .ok (.iastore, 1) := by decide +kernel
theorem dX10_init_98 : decode cX10_init 98 = .ok (.dup, 1) := by decide +kernel
theorem dX10_init_99 : decode cX10_init 99 = .ok (.bipush 19, 2) := by decide +kernel
theorem dX10_init_101 : decode cX10_init 101 = .ok (.iconst (-1), 1) := by decide +kernel
theorem dX10_init_102 : decode cX10_init 102 = .ok (.iastore, 1) := by decide +kernel
theorem dX10_init_103 : decode cX10_init 103 = .ok (.dup, 1) := by decide +kernel
theorem dX10_init_104 : decode cX10_init 104 = .ok (.bipush 20, 2) := by decide +kernel
theorem dX10_init_106 : decode cX10_init 106 = .ok (.iconst (-1), 1) := by decide +kernel
theorem dX10_init_107 : decode cX10_init 107 = .ok (.iastore, 1) := by decide +kernel
theorem dX10_init_108 : decode cX10_init 108 = .ok (.dup, 1) := by decide +kernel
theorem dX10_init_109 : decode cX10_init 109 = .ok (.bipush 21, 2) := by decide +kernel
theorem dX10_init_111 : decode cX10_init 111 = .ok (.iconst (-1), 1) := by decide +kernel
theorem dX10_init_112 : decode cX10_init 112 = .ok (.iastore, 1) := by decide +kernel
theorem dX10_init_113 : decode cX10_init 113 = .ok (.dup, 1) := by decide +kernel
theorem dX10_init_114 : decode cX10_init 114 = .ok (.bipush 22, 2) := by decide +kernel
theorem dX10_init_116 : decode cX10_init 116 = .ok (.iconst (-1), 1) := by decide +kernel
theorem dX10_init_117 : decode cX10_init 117 = .ok (.iastore, 1) := by decide +kernel
theorem dX10_init_118 : decode cX10_init 118 = .ok (.dup, 1) := by decide +kernel
theorem dX10_init_119 : decode cX10_init 119 = .ok (.bipush 23, 2) := by decide +kernel
theorem dX10_init_121 : decode cX10_init 121 = .ok (.iconst (-1), 1) := by decide +kernel
theorem dX10_init_122 : decode cX10_init 122 = .ok (.iastore, 1) := by decide +kernel
theorem dX10_init_123 : decode cX10_init 123 = .ok (.putfield 9, 3) := by decide +kernel
theorem dX10_init_126 : decode cX10_init 126 = .ok (.aload_n 0, 1) := by decide +kernel
theorem dX10_init_127 : decode cX10_init 127 = .ok (.bipush 24, 2) := by decide +kernel
theorem dX10_init_129 : decode cX10_init 129 = .ok (.newarray .int, 2) := by decide +kernel
theorem dX10_init_131 : decode cX10_init 131 = .ok (.putfield 13, 3) := by decide +kernel
theorem dX10_init_134 : decode cX10_init 134 = .ok (.aload_n 0, 1) := by decide +kernel
theorem dX10_init_135 : decode cX10_init 135 = .ok (.bipush 24, 2) := by decide +kernel
theorem dX10_init_137 : decode cX10_init 137 = .ok (.newarray .int, 2) := by decide +kernel
theorem dX10_init_139 : decode cX10_init 139 = .ok (.putfield 16, 3) := by decide +kernel
theorem dX10_init_142 : decode cX10_init 142 = .ok (.aload_n 0, 1) := by decide +kernel
theorem dX10_init_143 : decode cX10_init 143 = .ok (.bipush 24, 2) := by decide +kernel
theorem dX10_init_145 : decode cX10_init 145 = .ok (.newarray .boolean, 2) := by decide +kernel
theorem dX10_init_147 : decode cX10_init 147 = .ok (.putfield 19, 3) := by decide +kernel
theorem dX10_init_150 : decode cX10_init 150 = .ok (.aload_n 0, 1) := by decide +kernel
theorem dX10_init_151 : decode cX10_init 151 = .ok (.bipush 24, 2) := by decide +kernel
theorem dX10_init_153 : decode cX10_init 153 = .ok (.newarray .boolean, 2) := by decide +kernel
theorem dX10_init_155 : decode cX10_init 155 = .ok (.putfield 23, 3) := by decide +kernel
theorem dX10_init_158 : decode cX10_init 158 = .ok (.aload_n 0, 1) := by decide +kernel
theorem dX10_init_159 : decode cX10_init 159 = .ok (.bipush 24, 2) := by decide +kernel
theorem dX10_init_161 : decode cX10_init 161 = .ok (.newarray .boolean, 2) := by decide +kernel
theorem dX10_init_163 : decode cX10_init 163 = .ok (.putfield 26, 3) := by decide +kernel
theorem dX10_init_166 : decode cX10_init 166 = .ok (.aload_n 0, 1) := by decide +kernel
theorem dX10_init_167 : decode cX10_init 167 = .ok (.bipush 24, 2) := by decide +kernel
theorem dX10_init_169 : decode cX10_init 169 = .ok (.newarray .int, 2) := by decide +kernel
theorem dX10_init_171 : decode cX10_init 171 = .ok (.putfield 29, 3) := by decide +kernel
theorem dX10_init_174 : decode cX10_init 174 = .ok (.aload_n 0, 1) := by decide +kernel
theorem dX10_init_175 : decode cX10_init 175 = .ok (.bipush 24, 2) := by decide +kernel
theorem dX10_init_177 : decode cX10_init 177 = .ok (.newarray .int, 2) := by decide +kernel
theorem dX10_init_179 : decode cX10_init 179 = .ok (.putfield 32, 3) := by decide +kernel
theorem dX10_init_182 : decode cX10_init 182 = .ok (.aload_n 0, 1) := by decide +kernel
theorem dX10_init_183 : decode cX10_init 183 = .ok (.bipush 24, 2) := by decide +kernel
theorem dX10_init_185 : decode cX10_init 185 = .ok (.newarray .int, 2) := by decide +kernel
theorem dX10_init_187 : decode cX10_init 187 = .ok (.putfield 35, 3) := by decide +kernel
theorem dX10_init_190 : decode cX10_init 190 = .ok (.aload_n 0, 1) := by decide +kernel
theorem dX10_init_191 : decode cX10_init 191 = .ok (.bipush 24, 2) := by decide +kernel
theorem dX10_init_193 : decode cX10_init 193 = .ok (.newarray .int, 2) := by decide +kernel
theorem dX10_init_195 : decode cX10_init 195 = .ok (.putfield 38, 3) := by decide +kernel
theorem dX10_init_198 : decode cX10_init 198 = .ok (.aload_n 0, 1) := by decide +kernel
theorem dX10_init_199 : decode cX10_init 199 = .ok (.bipush 24, 2) := by decide +kernel
theorem dX10_init_201 : decode cX10_init 201 = .ok (.newarray .int, 2) := by decide +kernel
theorem dX10_init_203 : decode cX10_init 203 = .ok (.putfield 41, 3) := by decide +kernel
theorem dX10_init_206 : decode cX10_init 206 = .ok (.aload_n 0, 1) := by decide +kernel
theorem dX10_init_207 : decode cX10_init 207 = .ok (.bipush 24, 2) := by decide +kernel
theorem dX10_init_209 : decode cX10_init 209 = .ok (.newarray .int, 2) := by decide +kernel
theorem dX10_init_211 : decode cX10_init 211 = .ok (.putfield 44, 3) := by decide +kernel
theorem dX10_init_214 : decode cX10_init 214 = .ok (.aload_n 0, 1) := by decide +kernel
theorem dX10_init_215 : decode cX10_init 215 = .ok (.sipush 4824, 3) := by decide +kernel
theorem dX10_init_218 : decode cX10_init 218 = .ok (.newarray .int, 2) := by decide +kernel
theorem dX10_init_220 : decode cX10_init 220 = .ok (.putfield 47, 3) := by decide +kernel
theorem dX10_init_223 : decode cX10_init 223 = .ok (.aload_n 0, 1) := by decide +kernel
theorem dX10_init_224 : decode cX10_init 224 = .ok (.sipush 4824, 3) := by decide +kernel
theorem dX10_init_227 : decode cX10_init 227 = .ok (.newarray .int, 2) := by decide +kernel
theorem dX10_init_229 : decode cX10_init 229 = .ok (.putfield 50, 3) := by decide +kernel
theorem dX10_init_232 : decode cX10_init 232 = .ok (.aload_n 0, 1) := by decide +kernel
theorem dX10_init_233 : decode cX10_init 233 = .ok (.sipush 4824, 3) := by decide +kernel
theorem dX10_init_236 : decode cX10_init 236 = .ok (.newarray .boolean, 2) := by decide +kernel
theorem dX10_init_238 : decode cX10_init 238 = .ok (.putfield 53, 3) := by decide +kernel
theorem dX10_init_241 : decode cX10_init 241 = .ok (.aload_n 0, 1) := by decide +kernel
theorem dX10_init_242 : decode cX10_init 242 = .ok (.sipush 4824, 3) := by decide +kernel
theorem dX10_init_245 : decode cX10_init 245 = .ok (.newarray .boolean, 2) := by decide +kernel
theorem dX10_init_247 : decode cX10_init 247 = .ok (.putfield 56, 3) := by decide +kernel
theorem dX10_init_250 : decode cX10_init 250 = .ok (.aload_n 0, 1) := by decide +kernel
theorem dX10_init_251 : decode cX10_init 251 = .ok (.sipush 4824, 3) := by decide +kernel
theorem dX10_init_254 : decode cX10_init 254 = .ok (.newarray .boolean, 2) := by decide +kernel
theorem dX10_init_256 : decode cX10_init 256 = .ok (.putfield 59, 3) := by decide +kernel
theorem dX10_init_259 : decode cX10_init 259 = .ok (.aload_n 0, 1) := by decide +kernel
theorem dX10_init_260 : decode cX10_init 260 = .ok (.sipush 4824, 3) := by decide +kernel
theorem dX10_init_263 : decode cX10_init 263 = .ok (.newarray .boolean, 2) := by decide +kernel
theorem dX10_init_265 : decode cX10_init 265 = .ok (.putfield 62, 3) := by decide +kernel
theorem dX10_init_268 : decode cX10_init 268 = .ok (.aload_n 0, 1) := by decide +kernel
theorem dX10_init_269 : decode cX10_init 269 = .ok (.sipush 4824, 3) := by decide +kernel
theorem dX10_init_272 : decode cX10_init 272 = .ok (.newarray .int, 2) := by decide +kernel
theorem dX10_init_274 : decode cX10_init 274 = .ok (.putfield 65, 3) := by decide +kernel
theorem dX10_init_277 : decode cX10_init 277 = .ok (.aload_n 0, 1) := by decide +kernel
theorem dX10_init_278 : decode cX10_init 278 = .ok (.sipush 4824, 3) := by decide +kernel
theorem dX10_init_281 : decode cX10_init 281 = .ok (.newarray .int, 2) := by decide +kernel
theorem dX10_init_283 : decode cX10_init 283 = .ok (.putfield 68, 3) := by decide +kernel
theorem dX10_init_286 : decode cX10_init 286 = .ok (.aload_n 0, 1) := by decide +kernel
theorem dX10_init_287 : decode cX10_init 287 = .ok (.sipush 4824, 3) := by decide +kernel
theorem dX10_init_290 : decode cX10_init 290 = .ok (.newarray .int, 2) := by decide +kernel
theorem dX10_init_292 : decode cX10_init 292 = .ok (.putfield 71, 3) := by decide +kernel
theorem dX10_init_295 : decode cX10_init 295 = .ok (.aload_n 0, 1) := by decide +kernel
theorem dX10_init_296 : decode cX10_init 296 = .ok (.sipush 4824, 3) := by decide +kernel
theorem dX10_init_299 : decode cX10_init 299 = .ok (.newarray .int, 2) := by decide +kernel
theorem dX10_init_301 : decode cX10_init 301 = .ok (.putfield 74, 3) := by decide +kernel
theorem dX10_init_304 : decode cX10_init 304 = .ok (.aload_n 0, 1) := by decide +kernel
theorem dX10_init_305 : decode cX10_init 305 = .ok (.sipush 4824, 3) := by decide +kernel
theorem dX10_init_308 : decode cX10_init 308 = .ok (.newarray .int, 2) := by decide +kernel
theorem dX10_init_310 : decode cX10_init 310 = .ok (.putfield 77, 3) := by decide +kernel
theorem dX10_init_313 : decode cX10_init 313 = .ok (.aload_n 0, 1) := by decide +kernel
theorem dX10_init_314 : decode cX10_init 314 = .ok (.sipush 201, 3) := by decide +kernel
theorem dX10_init_317 : decode cX10_init 317 = .ok (.newarray .int, 2) := by decide +kernel
theorem dX10_init_319 : decode cX10_init 319 = .ok (.putfield 80, 3) := by decide +kernel
theorem dX10_init_322 : decode cX10_init 322 = .ok (.aload_n 0, 1) := by decide +kernel
theorem dX10_init_323 : decode cX10_init 323 = .ok (.sipush 201, 3) := by decide +kernel
theorem dX10_init_326 : decode cX10_init 326 = .ok (.newarray .int, 2) := by decide +kernel
theorem dX10_init_328 : decode cX10_init 328 = .ok (.putfield 83, 3) := by decide +kernel
theorem dX10_init_331 : decode cX10_init 331 = .ok (.aload_n 0, 1) := by decide +kernel
theorem dX10_init_332 : decode cX10_init 332 = .ok (.sipush 201, 3) := by decide +kernel
theorem dX10_init_335 : decode cX10_init 335 = .ok (.newarray .int, 2) := by decide +kernel
theorem dX10_init_337 : decode cX10_init 337 = .ok (.putfield 86, 3) := by decide +kernel
theorem dX10_init_340 : decode cX10_init 340 = .ok (.aload_n 0, 1) := by decide +kernel
theorem dX10_init_341 : decode cX10_init 341 = .ok (.sipush 201, 3) := by decide +kernel
theorem dX10_init_344 : decode cX10_init 344 = .ok (.newarray .int, 2) := by decide +kernel
theorem dX10_init_346 : decode cX10_init 346 = .ok (.putfield 89, 3) := by decide +kernel
theorem dX10_init_349 : decode cX10_init 349 = .ok (.aload_n 0, 1) := by decide +kernel
theorem dX10_init_350 : decode cX10_init 350 = .ok (.sipush 201, 3) := by decide +kernel
theorem dX10_init_353 : decode cX10_init 353 = .ok (.newarray .int, 2) := by decide +kernel
theorem dX10_init_355 : decode cX10_init 355 = .ok (.putfield 92, 3) := by decide +kernel
theorem dX10_init_358 : decode cX10_init 358 = .ok (.aload_n 0, 1) := by decide +kernel
theorem dX10_init_359 : decode cX10_init 359 = .ok (.sipush 201, 3) := by decide +kernel
theorem dX10_init_362 : decode cX10_init 362 = .ok (.newarray .int, 2) := by decide +kernel
theorem dX10_init_364 : decode cX10_init 364 = .ok (.putfield 95, 3) := by decide +kernel
theorem dX10_init_367 : decode cX10_init 367 = .ok (.aload_n 0, 1) := by decide +kernel
theorem dX10_init_368 : decode cX10_init 368 = .ok (.bipush 40, 2) := by decide +kernel
theorem dX10_init_370 : decode cX10_init 370 = .ok (.putfield 98, 3) := by decide +kernel
theorem dX10_init_373 : decode cX10_init 373 = .ok (.aload_n 0, 1) := by decide +kernel
theorem dX10_init_374 : decode cX10_init 374 = .ok (.iconst 5, 1) := by decide +kernel
theorem dX10_init_375 : decode cX10_init 375 = .ok (.putfield 102, 3) := by decide +kernel
theorem dX10_init_378 : decode cX10_init 378 = .ok (.aload_n 0, 1) := by decide +kernel
theorem dX10_init_379 : decode cX10_init 379 = .ok (.bipush 10, 2) := by decide +kernel
theorem dX10_init_381 : decode cX10_init 381 = .ok (.putfield 105, 3) := by decide +kernel
theorem dX10_init_384 : decode cX10_init 384 = .ok (.aload_n 0, 1) := by decide +kernel
theorem dX10_init_385 : decode cX10_init 385 = .ok (.bipush 100, 2) := by decide +kernel
theorem dX10_init_387 : decode cX10_init 387 = .ok (.newarray .int, 2) := by decide +kernel
theorem dX10_init_389 : decode cX10_init 389 = .ok (.putfield 108, 3) := by decide +kernel
theorem dX10_init_392 : decode cX10_init 392 = .ok (.aload_n 0, 1) := by decide +kernel
theorem dX10_init_393 : decode cX10_init 393 = .ok (.bipush 100, 2) := by decide +kernel
theorem dX10_init_395 : decode cX10_init 395 = .ok (.newarray .int, 2) := by decide +kernel
theorem dX10_init_397 : decode cX10_init 397 = .ok (.putfield 111, 3) := by decide +kernel
theorem dX10_init_400 : decode cX10_init 400 = .ok (.aload_n 0, 1) := by decide +kernel
theorem dX10_init_401 : decode cX10_init 401 = .ok (.bipush 100, 2) := by decide +kernel
theorem dX10_init_403 : decode cX10_init 403 = .ok (.newarray .int, 2) := by decide +kernel
theorem dX10_init_405 : decode cX10_init 405 = .ok (.putfield 114, 3) := by decide +kernel
theorem dX10_init_408 : decode cX10_init 408 = .ok (.aload_n 0, 1) := by decide +kernel
theorem dX10_init_409 : decode cX10_init 409 = .ok (.bipush 24, 2) := by decide +kernel
theorem dX10_init_411 : decode cX10_init 411 = .ok (.newarray .int, 2) := by decide +kernel
theorem dX10_init_413 : decode cX10_init 413 = .ok (.putfield 117, 3) := by decide +kernel
theorem dX10_init_416 : decode cX10_init 416 = .ok (.aload_n 0, 1) := by decide +kernel
theorem dX10_init_417 : decode cX10_init 417 = .ok (.bipush 24, 2) := by decide +kernel
theorem dX10_init_419 : decode cX10_init 419 = .ok (.newarray .int, 2) := by decide +kernel
theorem dX10_init_421 : decode cX10_init 421 = .ok (.putfield 120, 3) := by decide +kernel
theorem dX10_init_424 : decode cX10_init 424 = .ok (.aload_n 0, 1) := by decide +kernel
theorem dX10_init_425 : decode cX10_init 425 = .ok (.bipush 24, 2) := by decide +kernel
theorem dX10_init_427 : decode cX10_init 427 = .ok (.newarray .int, 2) := by decide +kernel
theorem dX10_init_429 : decode cX10_init 429 = .ok (.putfield 123, 3) := by decide +kernel
theorem dX10_init_432 : decode cX10_init 432 = .ok (.aload_n 0, 1) := by decide +kernel
theorem dX10_init_433 : decode cX10_init 433 = .ok (.bipush 24, 2) := by decide +kernel
theorem dX10_init_435 : decode cX10_init 435 = .ok (.newarray .boolean, 2) := by decide +kernel
theorem dX10_init_437 : decode cX10_init 437 = .ok (.putfield 126, 3) := by decide +kernel
theorem dX10_init_440 : decode cX10_init 440 = .ok (.return_, 1) := by decide +kernel
theorem dX10_isIn_0 : decode cX10_isIn 0 = .ok (.iload_n 0, 1) := by decide +kernel
theorem dX10_isIn_1 : decode cX10_isIn 1 = .ok (.iload_n 1, 1) := by decide +kernel
theorem dX10_isIn_2 : decode cX10_isIn 2 = .ok (.if_icmp .lt 12, 3) := by decide +kernel
theorem dX10_isIn_5 : decode cX10_isIn 5 = .ok (.iload_n 0, 1) := by decide +kernel
theorem dX10_isIn_6 : decode cX10_isIn 6 = .ok (.iload_n 2, 1) := by decide +kernel
theorem dX10_isIn_7 : decode cX10_isIn 7 = .ok (.if_icmp .gt 7, 3) := by decide +kernel
theorem dX10_isIn_10 : decode cX10_isIn 10 = .ok (.iconst 1, 1) := by decide +kernel
theorem dX10_isIn_11 : decode cX10_isIn 11 = .ok (.goto 4, 3) := by decide +kernel
theorem dX10_isIn_14 : decode cX10_isIn 14 = .ok (.iconst 0, 1) := by decide +kernel
theorem dX10_isIn_15 : decode cX10_isIn 15 = .ok (.ireturn, 1) := by decide +kernel
theorem dX10_at_0 : decode cX10_at 0 = .ok (.bipush 24, 2) := by decide +kernel
theorem dX10_at_2 : decode cX10_at 2 = .ok (.iload_n 1, 1) := by decide +kernel
theorem dX10_at_3 : decode cX10_at 3 = .ok (.imul, 1) := by decide +kernel
theorem dX10_at_4 : decode cX10_at 4 = .ok (.iload_n 2, 1) := by decide +kernel
theorem dX10_at_5 : decode cX10_at 5 = .ok (.iadd, 1) := by decide +kernel
theorem dX10_at_6 : decode cX10_at 6 = .ok (.ireturn, 1) := by decide +kernel
theorem dX10_isClock_0 : decode cX10_isClock 0 = .ok (.iload_n 1, 1) := by decide +kernel
theorem dX10_isClock_1 : decode cX10_isClock 1 = .ok (.iconst 0, 1) := by decide +kernel
theorem dX10_isClock_2 : decode cX10_isClock 2 = .ok (.bipush 23, 2) := by decide +kernel
theorem dX10_isClock_4 : decode cX10_isClock 4 = .ok (.invokestatic 129, 3) := by decide +kernel
theorem dX10_isClock_7 : decode cX10_isClock 7 = .ok (.ifCond .eq 21, 3) := by decide +kernel
theorem dX10_isClock_10 : decode cX10_isClock 10 = .ok (.aload_n 0, 1) := by decide +kernel
theorem dX10_isClock_11 : decode cX10_isClock 11 = .ok (.getfield 9, 3) := by decide +kernel
theorem dX10_isClock_14 : decode cX10_isClock 14 = .ok (.iload_n 1, 1) := by decide +kernel
theorem dX10_isClock_15 : decode cX10_isClock 15 = .ok (.iaload, 1) := by decide +kernel
theorem dX10_isClock_16 : decode cX10_isClock 16 = .ok (.iconst 0, 1) := by decide +kernel
theorem dX10_isClock_17 : decode cX10_isClock 17 = .ok (.iconst 3, 1) := by decide +kernel
theorem dX10_isClock_18 : decode cX10_isClock 18 = .ok (.invokestatic 129, 3) := by decide +kernel
theorem dX10_isClock_21 : decode cX10_isClock 21 = .ok (.ifCond .eq 7, 3) := by decide +kernel
theorem dX10_isClock_24 : decode cX10_isClock 24 = .ok (.iconst 1, 1) := by decide +kernel
theorem dX10_isClock_25 : decode cX10_isClock 25 = .ok (.goto 4, 3) := by decide +kernel
theorem dX10_isClock_28 : decode cX10_isClock 28 = .ok (.iconst 0, 1) := by decide +kernel
theorem dX10_isClock_29 : decode cX10_isClock 29 = .ok (.ireturn, 1) := by decide +kernel
theorem dX10_isLink_0 : decode cX10_isLink 0 = .ok (.iload_n 1, 1) := by decide +kernel
theorem dX10_isLink_1 : decode cX10_isLink 1 = .ok (.iconst 0, 1) := by decide +kernel
theorem dX10_isLink_2 : decode cX10_isLink 2 = .ok (.bipush 23, 2) := by decide +kernel
theorem dX10_isLink_4 : decode cX10_isLink 4 = .ok (.invokestatic 129, 3) := by decide +kernel
theorem dX10_isLink_7 : decode cX10_isLink 7 = .ok (.ifCond .eq 22, 3) := by decide +kernel
theorem dX10_isLink_10 : decode cX10_isLink 10 = .ok (.aload_n 0, 1) := by decide +kernel
theorem dX10_isLink_11 : decode cX10_isLink 11 = .ok (.getfield 9, 3) := by decide +kernel
theorem dX10_isLink_14 : decode cX10_isLink 14 = .ok (.iload_n 1, 1) := by decide +kernel
theorem dX10_isLink_15 : decode cX10_isLink 15 = .ok (.iaload, 1) := by decide +kernel
theorem dX10_isLink_16 : decode cX10_isLink 16 = .ok (.iconst 4, 1) := by decide +kernel
theorem dX10_isLink_17 : decode cX10_isLink 17 = .ok (.bipush 6, 2) := by decide +kernel
theorem dX10_isLink_19 : decode cX10_isLink 19 = .ok (.invokestatic 129, 3) := by decide +kernel
theorem dX10_isLink_22 : decode cX10_isLink 22 = .ok (.ifCond .eq 7, 3) := by decide +kernel
theorem dX10_isLink_25 : decode cX10_isLink 25 = .ok (.iconst 1, 1) := by decide +kernel
theorem dX10_isLink_26 : decode cX10_isLink 26 = .ok (.goto 4, 3) := by decide +kernel
theorem dX10_isLink_29 : decode cX10_isLink 29 = .ok (.iconst 0, 1) := by decide +kernel
theorem dX10_isLink_30 : decode cX10_isLink 30 = .ok (.ireturn, 1) := by decide +kernel
theorem dX10_fails_0 : decode cX10_fails 0 = .ok (.iload_n 1, 1) := by decide +kernel
theorem dX10_fails_1 : decode cX10_fails 1 = .ok (.iconst 0, 1) := by decide +kernel
theorem dX10_fails_2 : decode cX10_fails 2 = .ok (.bipush 23, 2) := by decide +kernel
theorem dX10_fails_4 : decode cX10_fails 4 = .ok (.invokestatic 129, 3) := by decide +kernel
theorem dX10_fails_7 : decode cX10_fails 7 = .ok (.ifCond .eq 13, 3) := by decide +kernel
theorem dX10_fails_10 : decode cX10_fails 10 = .ok (.aload_n 0, 1) := by decide +kernel
theorem dX10_fails_11 : decode cX10_fails 11 = .ok (.getfield 9, 3) := by decide +kernel
theorem dX10_fails_14 : decode cX10_fails 14 = .ok (.iload_n 1, 1) := by decide +kernel
theorem dX10_fails_15 : decode cX10_fails 15 = .ok (.iaload, 1) := by decide +kernel
theorem dX10_fails_16 : decode cX10_fails 16 = .ok (.iconst (-1), 1) := by decide +kernel
theorem dX10_fails_17 : decode cX10_fails 17 = .ok (.if_icmp .ne 5, 3) := by decide +kernel
theorem dX10_fails_20 : decode cX10_fails 20 = .ok (.iconst (-1), 1) := by decide +kernel
theorem dX10_fails_21 : decode cX10_fails 21 = .ok (.ireturn, 1) := by decide +kernel
theorem dX10_fails_22 : decode cX10_fails 22 = .ok (.aload_n 0, 1) := by decide +kernel
theorem dX10_fails_23 : decode cX10_fails 23 = .ok (.getfield 9, 3) := by decide +kernel
theorem dX10_fails_26 : decode cX10_fails 26 = .ok (.iload_n 1, 1) := by decide +kernel
theorem dX10_fails_27 : decode cX10_fails 27 = .ok (.iaload, 1) := by decide +kernel
theorem dX10_fails_28 : decode cX10_fails 28 = .ok (.iload_n 2, 1) := by decide +kernel
theorem dX10_fails_29 : decode cX10_fails 29 = .ok (.iload_n 3, 1) := by decide +kernel
theorem dX10_fails_30 : decode cX10_fails 30 = .ok (.invokestatic 129, 3) := by decide +kernel
theorem dX10_fails_33 : decode cX10_fails 33 = .ok (.ifCond .eq 7, 3) := by decide +kernel
theorem dX10_fails_36 : decode cX10_fails 36 = .ok (.iconst 0, 1) := by decide +kernel
theorem dX10_fails_37 : decode cX10_fails 37 = .ok (.goto 5, 3) := by decide +kernel
theorem dX10_fails_40 : decode cX10_fails 40 = .ok (.bipush (-2), 2) := by decide +kernel
theorem dX10_fails_42 : decode cX10_fails 42 = .ok (.ireturn, 1) := by decide +kernel
theorem dX10_put_0 : decode cX10_put 0 = .ok (.iload_n 1, 1) := by decide +kernel
theorem dX10_put_1 : decode cX10_put 1 = .ok (.iconst 0, 1) := by decide +kernel
theorem dX10_put_2 : decode cX10_put 2 = .ok (.bipush 23, 2) := by decide +kernel
theorem dX10_put_4 : decode cX10_put 4 = .ok (.invokestatic 129, 3) := by decide +kernel
theorem dX10_put_7 : decode cX10_put 7 = .ok (.ifCond .eq 23, 3) := by decide +kernel
theorem dX10_put_10 : decode cX10_put 10 = .ok (.aload_n 0, 1) := by decide +kernel
theorem dX10_put_11 : decode cX10_put 11 = .ok (.getfield 9, 3) := by decide +kernel
theorem dX10_put_14 : decode cX10_put 14 = .ok (.iload_n 1, 1) := by decide +kernel
theorem dX10_put_15 : decode cX10_put 15 = .ok (.iaload, 1) := by decide +kernel
theorem dX10_put_16 : decode cX10_put 16 = .ok (.iconst (-1), 1) := by decide +kernel
theorem dX10_put_17 : decode cX10_put 17 = .ok (.if_icmp .ne 13, 3) := by decide +kernel
theorem dX10_put_20 : decode cX10_put 20 = .ok (.iload_n 2, 1) := by decide +kernel
theorem dX10_put_21 : decode cX10_put 21 = .ok (.iconst 0, 1) := by decide +kernel
theorem dX10_put_22 : decode cX10_put 22 = .ok (.bipush 7, 2) := by decide +kernel
theorem dX10_put_24 : decode cX10_put 24 = .ok (.invokestatic 129, 3) := by decide +kernel
theorem dX10_put_27 : decode cX10_put 27 = .ok (.ifCond .ne 5, 3) := by decide +kernel
theorem dX10_put_30 : decode cX10_put 30 = .ok (.iconst (-1), 1) := by decide +kernel
theorem dX10_put_31 : decode cX10_put 31 = .ok (.ireturn, 1) := by decide +kernel
theorem dX10_put_32 : decode cX10_put 32 = .ok (.iload_n 2, 1) := by decide +kernel
theorem dX10_put_33 : decode cX10_put 33 = .ok (.iconst 3, 1) := by decide +kernel
theorem dX10_put_34 : decode cX10_put 34 = .ok (.if_icmp .gt 26, 3) := by decide +kernel
theorem dX10_put_37 : decode cX10_put 37 = .ok (.iload_n 3, 1) := by decide +kernel
theorem dX10_put_38 : decode cX10_put 38 = .ok (.iconst 2, 1) := by decide +kernel
theorem dX10_put_39 : decode cX10_put 39 = .ok (.bipush 12, 2) := by decide +kernel
theorem dX10_put_41 : decode cX10_put 41 = .ok (.invokestatic 129, 3) := by decide +kernel
theorem dX10_put_44 : decode cX10_put 44 = .ok (.ifCond .eq 14, 3) := by decide +kernel
theorem dX10_put_47 : decode cX10_put 47 = .ok (.iload 4, 2) := by decide +kernel
theorem dX10_put_49 : decode cX10_put 49 = .ok (.iconst 1, 1) := by decide +kernel
theorem dX10_put_50 : decode cX10_put 50 = .ok (.bipush 12, 2) := by decide +kernel
theorem dX10_put_52 : decode cX10_put 52 = .ok (.invokestatic 129, 3) := by decide +kernel
theorem dX10_put_55 : decode cX10_put 55 = .ok (.ifCond .ne 5, 3) := by decide +kernel
theorem dX10_put_58 : decode cX10_put 58 = .ok (.iconst (-1), 1) := by decide +kernel
theorem dX10_put_59 : decode cX10_put 59 = .ok (.ireturn, 1) := by decide +kernel
theorem dX10_put_60 : decode cX10_put 60 = .ok (.iload_n 2, 1) := by decide +kernel
theorem dX10_put_61 : decode cX10_put 61 = .ok (.iconst 4, 1) := by decide +kernel
theorem dX10_put_62 : decode cX10_put 62 = .ok (.bipush 6, 2) := by decide +kernel
theorem dX10_put_64 : decode cX10_put 64 = .ok (.invokestatic 129, 3) := by decide +kernel
theorem dX10_put_67 : decode cX10_put 67 = .ok (.ifCond .eq 28, 3) := by decide +kernel
theorem dX10_put_70 : decode cX10_put 70 = .ok (.iload_n 3, 1) := by decide +kernel
theorem dX10_put_71 : decode cX10_put 71 = .ok (.iload 4, 2) := by decide +kernel
theorem dX10_put_73 : decode cX10_put 73 = .ok (.if_icmp .eq 20, 3) := by decide +kernel
theorem dX10_put_76 : decode cX10_put 76 = .ok (.aload_n 0, 1) := by decide +kernel
theorem dX10_put_77 : decode cX10_put 77 = .ok (.iload_n 3, 1) := by decide +kernel
theorem dX10_put_78 : decode cX10_put 78 = .ok (.invokevirtual 133, 3) := by decide +kernel
theorem dX10_put_81 : decode cX10_put 81 = .ok (.ifCond .eq 12, 3) := by decide +kernel
theorem dX10_put_84 : decode cX10_put 84 = .ok (.aload_n 0, 1) := by decide +kernel
theorem dX10_put_85 : decode cX10_put 85 = .ok (.iload 4, 2) := by decide +kernel
theorem dX10_put_87 : decode cX10_put 87 = .ok (.invokevirtual 133, 3) := by decide +kernel
theorem dX10_put_90 : decode cX10_put 90 = .ok (.ifCond .ne 5, 3) := by decide +kernel
theorem dX10_put_93 : decode cX10_put 93 = .ok (.iconst (-1), 1) := by decide +kernel
theorem dX10_put_94 : decode cX10_put 94 = .ok (.ireturn, 1) := by decide +kernel
theorem dX10_put_95 : decode cX10_put 95 = .ok (.aload_n 0, 1) := by decide +kernel
theorem dX10_put_96 : decode cX10_put 96 = .ok (.getfield 9, 3) := by decide +kernel
theorem dX10_put_99 : decode cX10_put 99 = .ok (.iload_n 1, 1) := by decide +kernel
theorem dX10_put_100 : decode cX10_put 100 = .ok (.iload_n 2, 1) := by decide +kernel
theorem dX10_put_101 : decode cX10_put 101 = .ok (.iastore, 1) := by decide +kernel
theorem dX10_put_102 : decode cX10_put 102 = .ok (.aload_n 0, 1) := by decide +kernel
theorem dX10_put_103 : decode cX10_put 103 = .ok (.getfield 13, 3) := by decide +kernel
theorem dX10_put_106 : decode cX10_put 106 = .ok (.iload_n 1, 1) := by decide +kernel
theorem dX10_put_107 : decode cX10_put 107 = .ok (.iload_n 3, 1) := by decide +kernel
theorem dX10_put_108 : decode cX10_put 108 = .ok (.iastore, 1) := by decide +kernel
theorem dX10_put_109 : decode cX10_put 109 = .ok (.aload_n 0, 1) := by decide +kernel
theorem dX10_put_110 : decode cX10_put 110 = .ok (.getfield 16, 3) := by decide +kernel
theorem dX10_put_113 : decode cX10_put 113 = .ok (.iload_n 1, 1) := by decide +kernel
theorem dX10_put_114 : decode cX10_put 114 = .ok (.iload 4, 2) := by decide +kernel
theorem dX10_put_116 : decode cX10_put 116 = .ok (.iastore, 1) := by decide +kernel
theorem dX10_put_117 : decode cX10_put 117 = .ok (.aload_n 0, 1) := by decide +kernel
theorem dX10_put_118 : decode cX10_put 118 = .ok (.getfield 19, 3) := by decide +kernel
theorem dX10_put_121 : decode cX10_put 121 = .ok (.iload_n 1, 1) := by decide +kernel
theorem dX10_put_122 : decode cX10_put 122 = .ok (.iconst 0, 1) := by decide +kernel
theorem dX10_put_123 : decode cX10_put 123 = .ok (.bastore, 1) := by decide +kernel
theorem dX10_put_124 : decode cX10_put 124 = .ok (.aload_n 0, 1) := by decide +kernel
theorem dX10_put_125 : decode cX10_put 125 = .ok (.getfield 23, 3) := by decide +kernel
theorem dX10_put_128 : decode cX10_put 128 = .ok (.iload_n 1, 1) := by decide +kernel
theorem dX10_put_129 : decode cX10_put 129 = .ok (.iconst 0, 1) := by decide +kernel
theorem dX10_put_130 : decode cX10_put 130 = .ok (.bastore, 1) := by decide +kernel
theorem dX10_put_131 : decode cX10_put 131 = .ok (.aload_n 0, 1) := by decide +kernel
theorem dX10_put_132 : decode cX10_put 132 = .ok (.getfield 26, 3) := by decide +kernel
theorem dX10_put_135 : decode cX10_put 135 = .ok (.iload_n 1, 1) := by decide +kernel
theorem dX10_put_136 : decode cX10_put 136 = .ok (.iconst 0, 1) := by decide +kernel
theorem dX10_put_137 : decode cX10_put 137 = .ok (.bastore, 1) := by decide +kernel
theorem dX10_put_138 : decode cX10_put 138 = .ok (.aload_n 0, 1) := by decide +kernel
theorem dX10_put_139 : decode cX10_put 139 = .ok (.getfield 29, 3) := by decide +kernel
theorem dX10_put_142 : decode cX10_put 142 = .ok (.iload_n 1, 1) := by decide +kernel
theorem dX10_put_143 : decode cX10_put 143 = .ok (.iconst 0, 1) := by decide +kernel
theorem dX10_put_144 : decode cX10_put 144 = .ok (.iastore, 1) := by decide +kernel
theorem dX10_put_145 : decode cX10_put 145 = .ok (.aload_n 0, 1) := by decide +kernel
theorem dX10_put_146 : decode cX10_put 146 = .ok (.getfield 32, 3) := by decide +kernel
theorem dX10_put_149 : decode cX10_put 149 = .ok (.iload_n 1, 1) := by decide +kernel
theorem dX10_put_150 : decode cX10_put 150 = .ok (.aload_n 0, 1) := by decide +kernel
theorem dX10_put_151 : decode cX10_put 151 = .ok (.getfield 137, 3) := by decide +kernel
theorem dX10_put_154 : decode cX10_put 154 = .ok (.iastore, 1) := by decide +kernel
theorem dX10_put_155 : decode cX10_put 155 = .ok (.aload_n 0, 1) := by decide +kernel
theorem dX10_put_156 : decode cX10_put 156 = .ok (.getfield 35, 3) := by decide +kernel
theorem dX10_put_159 : decode cX10_put 159 = .ok (.iload_n 1, 1) := by decide +kernel
theorem dX10_put_160 : decode cX10_put 160 = .ok (.bipush (-9), 2) := by decide +kernel
theorem dX10_put_162 : decode cX10_put 162 = .ok (.iastore, 1) := by decide +kernel
theorem dX10_put_163 : decode cX10_put 163 = .ok (.aload_n 0, 1) := by decide +kernel
theorem dX10_put_164 : decode cX10_put 164 = .ok (.getfield 38, 3) := by decide +kernel
theorem dX10_put_167 : decode cX10_put 167 = .ok (.iload_n 1, 1) := by decide +kernel
theorem dX10_put_168 : decode cX10_put 168 = .ok (.iconst 0, 1) := by decide +kernel
theorem dX10_put_169 : decode cX10_put 169 = .ok (.iastore, 1) := by decide +kernel
theorem dX10_put_170 : decode cX10_put 170 = .ok (.aload_n 0, 1) := by decide +kernel
theorem dX10_put_171 : decode cX10_put 171 = .ok (.getfield 41, 3) := by decide +kernel
theorem dX10_put_174 : decode cX10_put 174 = .ok (.iload_n 1, 1) := by decide +kernel
theorem dX10_put_175 : decode cX10_put 175 = .ok (.iconst 0, 1) := by decide +kernel
theorem dX10_put_176 : decode cX10_put 176 = .ok (.iastore, 1) := by decide +kernel
theorem dX10_put_177 : decode cX10_put 177 = .ok (.aload_n 0, 1) := by decide +kernel
theorem dX10_put_178 : decode cX10_put 178 = .ok (.getfield 44, 3) := by decide +kernel
theorem dX10_put_181 : decode cX10_put 181 = .ok (.iload_n 1, 1) := by decide +kernel
theorem dX10_put_182 : decode cX10_put 182 = .ok (.iconst 0, 1) := by decide +kernel
theorem dX10_put_183 : decode cX10_put 183 = .ok (.iastore, 1) := by decide +kernel
theorem dX10_put_184 : decode cX10_put 184 = .ok (.iconst 0, 1) := by decide +kernel
theorem dX10_put_185 : decode cX10_put 185 = .ok (.istore 5, 2) := by decide +kernel
theorem dX10_put_187 : decode cX10_put 187 = .ok (.iload 5, 2) := by decide +kernel
theorem dX10_put_189 : decode cX10_put 189 = .ok (.sipush 201, 3) := by decide +kernel
theorem dX10_put_192 : decode cX10_put 192 = .ok (.if_icmp .ge 35, 3) := by decide +kernel
theorem dX10_put_195 : decode cX10_put 195 = .ok (.aload_n 0, 1) := by decide +kernel
theorem dX10_put_196 : decode cX10_put 196 = .ok (.getfield 53, 3) := by decide +kernel
theorem dX10_put_199 : decode cX10_put 199 = .ok (.aload_n 0, 1) := by decide +kernel
theorem dX10_put_200 : decode cX10_put 200 = .ok (.iload 5, 2) := by decide +kernel
theorem dX10_put_202 : decode cX10_put 202 = .ok (.iload_n 1, 1) := by decide +kernel
theorem dX10_put_203 : decode cX10_put 203 = .ok (.invokevirtual 140, 3) := by decide +kernel
theorem dX10_put_206 : decode cX10_put 206 = .ok (.iconst 0, 1) := by decide +kernel
theorem dX10_put_207 : decode cX10_put 207 = .ok (.bastore, 1) := by decide +kernel
theorem dX10_put_208 : decode cX10_put 208 = .ok (.aload_n 0, 1) := by decide +kernel
theorem dX10_put_209 : decode cX10_put 209 = .ok (.getfield 56, 3) := by decide +kernel
theorem dX10_put_212 : decode cX10_put 212 = .ok (.aload_n 0, 1) := by decide +kernel
theorem dX10_put_213 : decode cX10_put 213 = .ok (.iload 5, 2) := by decide +kernel
theorem dX10_put_215 : decode cX10_put 215 = .ok (.iload_n 1, 1) := by decide +kernel
theorem dX10_put_216 : decode cX10_put 216 = .ok (.invokevirtual 140, 3) := by decide +kernel
theorem dX10_put_219 : decode cX10_put 219 = .ok (.iconst 0, 1) := by decide +kernel
theorem dX10_put_220 : decode cX10_put 220 = .ok (.bastore, 1) := by decide +kernel
theorem dX10_put_221 : decode cX10_put 221 = .ok (.iinc 5 1, 3) := by decide +kernel
theorem dX10_put_224 : decode cX10_put 224 = .ok (.goto (-37), 3) := by decide +kernel
theorem dX10_put_227 : decode cX10_put 227 = .ok (.iload_n 1, 1) := by decide +kernel
theorem dX10_put_228 : decode cX10_put 228 = .ok (.ireturn, 1) := by decide +kernel
theorem dX10_lift_0 : decode cX10_lift 0 = .ok (.aload_n 0, 1) := by decide +kernel
theorem dX10_lift_1 : decode cX10_lift 1 = .ok (.iload_n 1, 1) := by decide +kernel
theorem dX10_lift_2 : decode cX10_lift 2 = .ok (.iconst 0, 1) := by decide +kernel
theorem dX10_lift_3 : decode cX10_lift 3 = .ok (.bipush 7, 2) := by decide +kernel
theorem dX10_lift_5 : decode cX10_lift 5 = .ok (.invokevirtual 144, 3) := by decide +kernel
theorem dX10_lift_8 : decode cX10_lift 8 = .ok (.ifCond .eq 5, 3) := by decide +kernel
theorem dX10_lift_11 : decode cX10_lift 11 = .ok (.iconst (-1), 1) := by decide +kernel
theorem dX10_lift_12 : decode cX10_lift 12 = .ok (.ireturn, 1) := by decide +kernel
theorem dX10_lift_13 : decode cX10_lift 13 = .ok (.iconst 0, 1) := by decide +kernel
theorem dX10_lift_14 : decode cX10_lift 14 = .ok (.istore_n 2, 1) := by decide +kernel
theorem dX10_lift_15 : decode cX10_lift 15 = .ok (.iload_n 2, 1) := by decide +kernel
theorem dX10_lift_16 : decode cX10_lift 16 = .ok (.bipush 24, 2) := by decide +kernel
theorem dX10_lift_18 : decode cX10_lift 18 = .ok (.if_icmp .ge 48, 3) := by decide +kernel
theorem dX10_lift_21 : decode cX10_lift 21 = .ok (.aload_n 0, 1) := by decide +kernel
theorem dX10_lift_22 : decode cX10_lift 22 = .ok (.iload_n 1, 1) := by decide +kernel
theorem dX10_lift_23 : decode cX10_lift 23 = .ok (.invokevirtual 133, 3) := by decide +kernel
theorem dX10_lift_26 : decode cX10_lift 26 = .ok (.ifCond .eq 40, 3) := by decide +kernel
theorem dX10_lift_29 : decode cX10_lift 29 = .ok (.aload_n 0, 1) := by decide +kernel
theorem dX10_lift_30 : decode cX10_lift 30 = .ok (.iload_n 2, 1) := by decide +kernel
theorem dX10_lift_31 : decode cX10_lift 31 = .ok (.invokevirtual 148, 3) := by decide +kernel
theorem dX10_lift_34 : decode cX10_lift 34 = .ok (.ifCond .eq 26, 3) := by decide +kernel
theorem dX10_lift_37 : decode cX10_lift 37 = .ok (.aload_n 0, 1) := by decide +kernel
theorem dX10_lift_38 : decode cX10_lift 38 = .ok (.getfield 13, 3) := by decide +kernel
theorem dX10_lift_41 : decode cX10_lift 41 = .ok (.iload_n 2, 1) := by decide +kernel
theorem dX10_lift_42 : decode cX10_lift 42 = .ok (.iaload, 1) := by decide +kernel
theorem dX10_lift_43 : decode cX10_lift 43 = .ok (.iload_n 1, 1) := by decide +kernel
theorem dX10_lift_44 : decode cX10_lift 44 = .ok (.if_icmp .eq 13, 3) := by decide +kernel
theorem dX10_lift_47 : decode cX10_lift 47 = .ok (.aload_n 0, 1) := by decide +kernel
theorem dX10_lift_48 : decode cX10_lift 48 = .ok (.getfield 16, 3) := by decide +kernel
theorem dX10_lift_51 : decode cX10_lift 51 = .ok (.iload_n 2, 1) := by decide +kernel
theorem dX10_lift_52 : decode cX10_lift 52 = .ok (.iaload, 1) := by decide +kernel
theorem dX10_lift_53 : decode cX10_lift 53 = .ok (.iload_n 1, 1) := by decide +kernel
theorem dX10_lift_54 : decode cX10_lift 54 = .ok (.if_icmp .ne 6, 3) := by decide +kernel
theorem dX10_lift_57 : decode cX10_lift 57 = .ok (.bipush (-2), 2) := by decide +kernel
theorem dX10_lift_59 : decode cX10_lift 59 = .ok (.ireturn, 1) := by decide +kernel
theorem dX10_lift_60 : decode cX10_lift 60 = .ok (.iinc 2 1, 3) := by decide +kernel
theorem dX10_lift_63 : decode cX10_lift 63 = .ok (.goto (-48), 3) := by decide +kernel
theorem dX10_lift_66 : decode cX10_lift 66 = .ok (.aload_n 0, 1) := by decide +kernel
theorem dX10_lift_67 : decode cX10_lift 67 = .ok (.getfield 9, 3) := by decide +kernel
theorem dX10_lift_70 : decode cX10_lift 70 = .ok (.iload_n 1, 1) := by decide +kernel
theorem dX10_lift_71 : decode cX10_lift 71 = .ok (.iaload, 1) := by decide +kernel
theorem dX10_lift_72 : decode cX10_lift 72 = .ok (.istore_n 2, 1) := by decide +kernel
theorem dX10_lift_73 : decode cX10_lift 73 = .ok (.aload_n 0, 1) := by decide +kernel
theorem dX10_lift_74 : decode cX10_lift 74 = .ok (.getfield 9, 3) := by decide +kernel
theorem dX10_lift_77 : decode cX10_lift 77 = .ok (.iload_n 1, 1) := by decide +kernel
theorem dX10_lift_78 : decode cX10_lift 78 = .ok (.iconst (-1), 1) := by decide +kernel
theorem dX10_lift_79 : decode cX10_lift 79 = .ok (.iastore, 1) := by decide +kernel
theorem dX10_lift_80 : decode cX10_lift 80 = .ok (.iload_n 2, 1) := by decide +kernel
theorem dX10_lift_81 : decode cX10_lift 81 = .ok (.ireturn, 1) := by decide +kernel
theorem dX10_kind_0 : decode cX10_kind 0 = .ok (.iload_n 1, 1) := by decide +kernel
theorem dX10_kind_1 : decode cX10_kind 1 = .ok (.iconst 0, 1) := by decide +kernel
theorem dX10_kind_2 : decode cX10_kind 2 = .ok (.bipush 23, 2) := by decide +kernel
theorem dX10_kind_4 : decode cX10_kind 4 = .ok (.invokestatic 129, 3) := by decide +kernel
theorem dX10_kind_7 : decode cX10_kind 7 = .ok (.ifCond .eq 12, 3) := by decide +kernel
theorem dX10_kind_10 : decode cX10_kind 10 = .ok (.aload_n 0, 1) := by decide +kernel
theorem dX10_kind_11 : decode cX10_kind 11 = .ok (.getfield 9, 3) := by decide +kernel
theorem dX10_kind_14 : decode cX10_kind 14 = .ok (.iload_n 1, 1) := by decide +kernel
theorem dX10_kind_15 : decode cX10_kind 15 = .ok (.iaload, 1) := by decide +kernel
theorem dX10_kind_16 : decode cX10_kind 16 = .ok (.goto 4, 3) := by decide +kernel
theorem dX10_kind_19 : decode cX10_kind 19 = .ok (.iconst (-1), 1) := by decide +kernel
theorem dX10_kind_20 : decode cX10_kind 20 = .ok (.ireturn, 1) := by decide +kernel
theorem dX10_read_0 : decode cX10_read 0 = .ok (.aload_n 0, 1) := by decide +kernel
theorem dX10_read_1 : decode cX10_read 1 = .ok (.iload_n 1, 1) := by decide +kernel
theorem dX10_read_2 : decode cX10_read 2 = .ok (.iconst 4, 1) := by decide +kernel
theorem dX10_read_3 : decode cX10_read 3 = .ok (.bipush 6, 2) := by decide +kernel
theorem dX10_read_5 : decode cX10_read 5 = .ok (.invokevirtual 144, 3) := by decide +kernel
theorem dX10_read_8 : decode cX10_read 8 = .ok (.istore_n 3, 1) := by decide +kernel
theorem dX10_read_9 : decode cX10_read 9 = .ok (.iload_n 3, 1) := by decide +kernel
theorem dX10_read_10 : decode cX10_read 10 = .ok (.ifCond .eq 5, 3) := by decide +kernel
theorem dX10_read_13 : decode cX10_read 13 = .ok (.iload_n 3, 1) := by decide +kernel
theorem dX10_read_14 : decode cX10_read 14 = .ok (.ireturn, 1) := by decide +kernel
theorem dX10_read_15 : decode cX10_read 15 = .ok (.iload_n 2, 1) := by decide +kernel
theorem dX10_read_16 : decode cX10_read 16 = .ok (.sipush (-10000), 3) := by decide +kernel
theorem dX10_read_19 : decode cX10_read 19 = .ok (.sipush 10000, 3) := by decide +kernel
theorem dX10_read_22 : decode cX10_read 22 = .ok (.invokestatic 129, 3) := by decide +kernel
theorem dX10_read_25 : decode cX10_read 25 = .ok (.ifCond .ne 5, 3) := by decide +kernel
theorem dX10_read_28 : decode cX10_read 28 = .ok (.iconst (-1), 1) := by decide +kernel
theorem dX10_read_29 : decode cX10_read 29 = .ok (.ireturn, 1) := by decide +kernel
theorem dX10_read_30 : decode cX10_read 30 = .ok (.aload_n 0, 1) := by decide +kernel
theorem dX10_read_31 : decode cX10_read 31 = .ok (.getfield 47, 3) := by decide +kernel
theorem dX10_read_34 : decode cX10_read 34 = .ok (.aload_n 0, 1) := by decide +kernel
theorem dX10_read_35 : decode cX10_read 35 = .ok (.aload_n 0, 1) := by decide +kernel
theorem dX10_read_36 : decode cX10_read 36 = .ok (.getfield 137, 3) := by decide +kernel
theorem dX10_read_39 : decode cX10_read 39 = .ok (.iload_n 1, 1) := by decide +kernel
theorem dX10_read_40 : decode cX10_read 40 = .ok (.invokevirtual 140, 3) := by decide +kernel
theorem dX10_read_43 : decode cX10_read 43 = .ok (.iload_n 2, 1) := by decide +kernel
theorem dX10_read_44 : decode cX10_read 44 = .ok (.iastore, 1) := by decide +kernel
theorem dX10_read_45 : decode cX10_read 45 = .ok (.aload_n 0, 1) := by decide +kernel
theorem dX10_read_46 : decode cX10_read 46 = .ok (.getfield 53, 3) := by decide +kernel
theorem dX10_read_49 : decode cX10_read 49 = .ok (.aload_n 0, 1) := by decide +kernel
theorem dX10_read_50 : decode cX10_read 50 = .ok (.aload_n 0, 1) := by decide +kernel
theorem dX10_read_51 : decode cX10_read 51 = .ok (.getfield 137, 3) := by decide +kernel
theorem dX10_read_54 : decode cX10_read 54 = .ok (.iload_n 1, 1) := by decide +kernel
theorem dX10_read_55 : decode cX10_read 55 = .ok (.invokevirtual 140, 3) := by decide +kernel
theorem dX10_read_58 : decode cX10_read 58 = .ok (.iconst 1, 1) := by decide +kernel
theorem dX10_read_59 : decode cX10_read 59 = .ok (.bastore, 1) := by decide +kernel
theorem dX10_read_60 : decode cX10_read 60 = .ok (.iconst 1, 1) := by decide +kernel
theorem dX10_read_61 : decode cX10_read 61 = .ok (.ireturn, 1) := by decide +kernel
theorem dX10_back_0 : decode cX10_back 0 = .ok (.aload_n 0, 1) := by decide +kernel
theorem dX10_back_1 : decode cX10_back 1 = .ok (.iload_n 1, 1) := by decide +kernel
theorem dX10_back_2 : decode cX10_back 2 = .ok (.bipush 6, 2) := by decide +kernel
theorem dX10_back_4 : decode cX10_back 4 = .ok (.bipush 6, 2) := by decide +kernel
theorem dX10_back_6 : decode cX10_back 6 = .ok (.invokevirtual 144, 3) := by decide +kernel
theorem dX10_back_9 : decode cX10_back 9 = .ok (.istore_n 3, 1) := by decide +kernel
theorem dX10_back_10 : decode cX10_back 10 = .ok (.iload_n 3, 1) := by decide +kernel
theorem dX10_back_11 : decode cX10_back 11 = .ok (.ifCond .eq 5, 3) := by decide +kernel
theorem dX10_back_14 : decode cX10_back 14 = .ok (.iload_n 3, 1) := by decide +kernel
theorem dX10_back_15 : decode cX10_back 15 = .ok (.ireturn, 1) := by decide +kernel
theorem dX10_back_16 : decode cX10_back 16 = .ok (.iload_n 2, 1) := by decide +kernel
theorem dX10_back_17 : decode cX10_back 17 = .ok (.sipush (-10000), 3) := by decide +kernel
theorem dX10_back_20 : decode cX10_back 20 = .ok (.sipush 10000, 3) := by decide +kernel
theorem dX10_back_23 : decode cX10_back 23 = .ok (.invokestatic 129, 3) := by decide +kernel
theorem dX10_back_26 : decode cX10_back 26 = .ok (.ifCond .ne 5, 3) := by decide +kernel
theorem dX10_back_29 : decode cX10_back 29 = .ok (.iconst (-1), 1) := by decide +kernel
theorem dX10_back_30 : decode cX10_back 30 = .ok (.ireturn, 1) := by decide +kernel
theorem dX10_back_31 : decode cX10_back 31 = .ok (.aload_n 0, 1) := by decide +kernel
theorem dX10_back_32 : decode cX10_back 32 = .ok (.getfield 50, 3) := by decide +kernel
theorem dX10_back_35 : decode cX10_back 35 = .ok (.aload_n 0, 1) := by decide +kernel
theorem dX10_back_36 : decode cX10_back 36 = .ok (.aload_n 0, 1) := by decide +kernel
theorem dX10_back_37 : decode cX10_back 37 = .ok (.getfield 137, 3) := by decide +kernel
theorem dX10_back_40 : decode cX10_back 40 = .ok (.iload_n 1, 1) := by decide +kernel
theorem dX10_back_41 : decode cX10_back 41 = .ok (.invokevirtual 140, 3) := by decide +kernel
theorem dX10_back_44 : decode cX10_back 44 = .ok (.iload_n 2, 1) := by decide +kernel
theorem dX10_back_45 : decode cX10_back 45 = .ok (.iastore, 1) := by decide +kernel
theorem dX10_back_46 : decode cX10_back 46 = .ok (.aload_n 0, 1) := by decide +kernel
theorem dX10_back_47 : decode cX10_back 47 = .ok (.getfield 56, 3) := by decide +kernel
theorem dX10_back_50 : decode cX10_back 50 = .ok (.aload_n 0, 1) := by decide +kernel
theorem dX10_back_51 : decode cX10_back 51 = .ok (.aload_n 0, 1) := by decide +kernel
theorem dX10_back_52 : decode cX10_back 52 = .ok (.getfield 137, 3) := by decide +kernel
theorem dX10_back_55 : decode cX10_back 55 = .ok (.iload_n 1, 1) := by decide +kernel
theorem dX10_back_56 : decode cX10_back 56 = .ok (.invokevirtual 140, 3) := by decide +kernel
theorem dX10_back_59 : decode cX10_back 59 = .ok (.iconst 1, 1) := by decide +kernel
theorem dX10_back_60 : decode cX10_back 60 = .ok (.bastore, 1) := by decide +kernel
theorem dX10_back_61 : decode cX10_back 61 = .ok (.iconst 1, 1) := by decide +kernel
theorem dX10_back_62 : decode cX10_back 62 = .ok (.ireturn, 1) := by decide +kernel
theorem dX10_tear_0 : decode cX10_tear 0 = .ok (.aload_n 0, 1) := by decide +kernel
theorem dX10_tear_1 : decode cX10_tear 1 = .ok (.iload_n 1, 1) := by decide +kernel
theorem dX10_tear_2 : decode cX10_tear 2 = .ok (.iconst 4, 1) := by decide +kernel
theorem dX10_tear_3 : decode cX10_tear 3 = .ok (.bipush 6, 2) := by decide +kernel
theorem dX10_tear_5 : decode cX10_tear 5 = .ok (.invokevirtual 144, 3) := by decide +kernel
theorem dX10_tear_8 : decode cX10_tear 8 = .ok (.istore_n 2, 1) := by decide +kernel
theorem dX10_tear_9 : decode cX10_tear 9 = .ok (.iload_n 2, 1) := by decide +kernel
theorem dX10_tear_10 : decode cX10_tear 10 = .ok (.ifCond .eq 5, 3) := by decide +kernel
theorem dX10_tear_13 : decode cX10_tear 13 = .ok (.iload_n 2, 1) := by decide +kernel
theorem dX10_tear_14 : decode cX10_tear 14 = .ok (.ireturn, 1) := by decide +kernel
theorem dX10_tear_15 : decode cX10_tear 15 = .ok (.iconst 0, 1) := by decide +kernel
theorem dX10_tear_16 : decode cX10_tear 16 = .ok (.istore_n 3, 1) := by decide +kernel
theorem dX10_tear_17 : decode cX10_tear 17 = .ok (.iconst 0, 1) := by decide +kernel
theorem dX10_tear_18 : decode cX10_tear 18 = .ok (.istore 4, 2) := by decide +kernel
theorem dX10_tear_20 : decode cX10_tear 20 = .ok (.iload 4, 2) := by decide +kernel
theorem dX10_tear_22 : decode cX10_tear 22 = .ok (.sipush 201, 3) := by decide +kernel
theorem dX10_tear_25 : decode cX10_tear 25 = .ok (.if_icmp .ge 73, 3) := by decide +kernel
theorem dX10_tear_28 : decode cX10_tear 28 = .ok (.iload_n 3, 1) := by decide +kernel
theorem dX10_tear_29 : decode cX10_tear 29 = .ok (.aload_n 0, 1) := by decide +kernel
theorem dX10_tear_30 : decode cX10_tear 30 = .ok (.getfield 53, 3) := by decide +kernel
theorem dX10_tear_33 : decode cX10_tear 33 = .ok (.aload_n 0, 1) := by decide +kernel
theorem dX10_tear_34 : decode cX10_tear 34 = .ok (.iload 4, 2) := by decide +kernel
theorem dX10_tear_36 : decode cX10_tear 36 = .ok (.iload_n 1, 1) := by decide +kernel
theorem dX10_tear_37 : decode cX10_tear 37 = .ok (.invokevirtual 140, 3) := by decide +kernel
theorem dX10_tear_40 : decode cX10_tear 40 = .ok (.baload, 1) := by decide +kernel
theorem dX10_tear_41 : decode cX10_tear 41 = .ok (.ifCond .ne 18, 3) := by decide +kernel
theorem dX10_tear_44 : decode cX10_tear 44 = .ok (.aload_n 0, 1) := by decide +kernel
theorem dX10_tear_45 : decode cX10_tear 45 = .ok (.getfield 56, 3) := by decide +kernel
theorem dX10_tear_48 : decode cX10_tear 48 = .ok (.aload_n 0, 1) := by decide +kernel
theorem dX10_tear_49 : decode cX10_tear 49 = .ok (.iload 4, 2) := by decide +kernel
theorem dX10_tear_51 : decode cX10_tear 51 = .ok (.iload_n 1, 1) := by decide +kernel
theorem dX10_tear_52 : decode cX10_tear 52 = .ok (.invokevirtual 140, 3) := by decide +kernel
theorem dX10_tear_55 : decode cX10_tear 55 = .ok (.baload, 1) := by decide +kernel
theorem dX10_tear_56 : decode cX10_tear 56 = .ok (.ifCond .eq 7, 3) := by decide +kernel
theorem dX10_tear_59 : decode cX10_tear 59 = .ok (.iconst 1, 1) := by decide +kernel
theorem dX10_tear_60 : decode cX10_tear 60 = .ok (.goto 4, 3) := by decide +kernel
theorem dX10_tear_63 : decode cX10_tear 63 = .ok (.iconst 0, 1) := by decide +kernel
theorem dX10_tear_64 : decode cX10_tear 64 = .ok (.iadd, 1) := by decide +kernel
theorem dX10_tear_65 : decode cX10_tear 65 = .ok (.istore_n 3, 1) := by decide +kernel
theorem dX10_tear_66 : decode cX10_tear 66 = .ok (.aload_n 0, 1) := by decide +kernel
theorem dX10_tear_67 : decode cX10_tear 67 = .ok (.getfield 53, 3) := by decide +kernel
theorem dX10_tear_70 : decode cX10_tear 70 = .ok (.aload_n 0, 1) := by decide +kernel
theorem dX10_tear_71 : decode cX10_tear 71 = .ok (.iload 4, 2) := by decide +kernel
theorem dX10_tear_73 : decode cX10_tear 73 = .ok (.iload_n 1, 1) := by decide +kernel
theorem dX10_tear_74 : decode cX10_tear 74 = .ok (.invokevirtual 140, 3) := by decide +kernel
theorem dX10_tear_77 : decode cX10_tear 77 = .ok (.iconst 0, 1) := by decide +kernel
theorem dX10_tear_78 : decode cX10_tear 78 = .ok (.bastore, 1) := by decide +kernel
theorem dX10_tear_79 : decode cX10_tear 79 = .ok (.aload_n 0, 1) := by decide +kernel
theorem dX10_tear_80 : decode cX10_tear 80 = .ok (.getfield 56, 3) := by decide +kernel
theorem dX10_tear_83 : decode cX10_tear 83 = .ok (.aload_n 0, 1) := by decide +kernel
theorem dX10_tear_84 : decode cX10_tear 84 = .ok (.iload 4, 2) := by decide +kernel
theorem dX10_tear_86 : decode cX10_tear 86 = .ok (.iload_n 1, 1) := by decide +kernel
theorem dX10_tear_87 : decode cX10_tear 87 = .ok (.invokevirtual 140, 3) := by decide +kernel
theorem dX10_tear_90 : decode cX10_tear 90 = .ok (.iconst 0, 1) := by decide +kernel
theorem dX10_tear_91 : decode cX10_tear 91 = .ok (.bastore, 1) := by decide +kernel
theorem dX10_tear_92 : decode cX10_tear 92 = .ok (.iinc 4 1, 3) := by decide +kernel
theorem dX10_tear_95 : decode cX10_tear 95 = .ok (.goto (-75), 3) := by decide +kernel
theorem dX10_tear_98 : decode cX10_tear 98 = .ok (.iload_n 3, 1) := by decide +kernel
theorem dX10_tear_99 : decode cX10_tear 99 = .ok (.ireturn, 1) := by decide +kernel
theorem dX10_way_0 : decode cX10_way 0 = .ok (.aload_n 0, 1) := by decide +kernel
theorem dX10_way_1 : decode cX10_way 1 = .ok (.iload_n 1, 1) := by decide +kernel
theorem dX10_way_2 : decode cX10_way 2 = .ok (.iconst 5, 1) := by decide +kernel
theorem dX10_way_3 : decode cX10_way 3 = .ok (.iconst 5, 1) := by decide +kernel
theorem dX10_way_4 : decode cX10_way 4 = .ok (.invokevirtual 144, 3) := by decide +kernel
theorem dX10_way_7 : decode cX10_way 7 = .ok (.istore_n 3, 1) := by decide +kernel
theorem dX10_way_8 : decode cX10_way 8 = .ok (.iload_n 3, 1) := by decide +kernel
theorem dX10_way_9 : decode cX10_way 9 = .ok (.ifCond .eq 5, 3) := by decide +kernel
theorem dX10_way_12 : decode cX10_way 12 = .ok (.iload_n 3, 1) := by decide +kernel
theorem dX10_way_13 : decode cX10_way 13 = .ok (.ireturn, 1) := by decide +kernel
theorem dX10_way_14 : decode cX10_way 14 = .ok (.iload_n 2, 1) := by decide +kernel
theorem dX10_way_15 : decode cX10_way 15 = .ok (.sipush (-10000), 3) := by decide +kernel
theorem dX10_way_18 : decode cX10_way 18 = .ok (.sipush 10000, 3) := by decide +kernel
theorem dX10_way_21 : decode cX10_way 21 = .ok (.invokestatic 129, 3) := by decide +kernel
theorem dX10_way_24 : decode cX10_way 24 = .ok (.ifCond .ne 5, 3) := by decide +kernel
theorem dX10_way_27 : decode cX10_way 27 = .ok (.iconst (-1), 1) := by decide +kernel
theorem dX10_way_28 : decode cX10_way 28 = .ok (.ireturn, 1) := by decide +kernel
theorem dX10_way_29 : decode cX10_way 29 = .ok (.aload_n 0, 1) := by decide +kernel
theorem dX10_way_30 : decode cX10_way 30 = .ok (.getfield 44, 3) := by decide +kernel
theorem dX10_way_33 : decode cX10_way 33 = .ok (.iload_n 1, 1) := by decide +kernel
theorem dX10_way_34 : decode cX10_way 34 = .ok (.iload_n 2, 1) := by decide +kernel
theorem dX10_way_35 : decode cX10_way 35 = .ok (.iastore, 1) := by decide +kernel
theorem dX10_way_36 : decode cX10_way 36 = .ok (.iconst 1, 1) := by decide +kernel
theorem dX10_way_37 : decode cX10_way 37 = .ok (.ireturn, 1) := by decide +kernel
theorem dX10_told_0 : decode cX10_told 0 = .ok (.iload_n 2, 1) := by decide +kernel
theorem dX10_told_1 : decode cX10_told 1 = .ok (.iconst 0, 1) := by decide +kernel
theorem dX10_told_2 : decode cX10_told 2 = .ok (.aload_n 0, 1) := by decide +kernel
theorem dX10_told_3 : decode cX10_told 3 = .ok (.getfield 137, 3) := by decide +kernel
theorem dX10_told_6 : decode cX10_told 6 = .ok (.invokestatic 129, 3) := by decide +kernel
theorem dX10_told_9 : decode cX10_told 9 = .ok (.ifCond .eq 17, 3) := by decide +kernel
theorem dX10_told_12 : decode cX10_told 12 = .ok (.aload_n 0, 1) := by decide +kernel
theorem dX10_told_13 : decode cX10_told 13 = .ok (.getfield 53, 3) := by decide +kernel
theorem dX10_told_16 : decode cX10_told 16 = .ok (.aload_n 0, 1) := by decide +kernel
theorem dX10_told_17 : decode cX10_told 17 = .ok (.iload_n 2, 1) := by decide +kernel
theorem dX10_told_18 : decode cX10_told 18 = .ok (.iload_n 1, 1) := by decide +kernel
theorem dX10_told_19 : decode cX10_told 19 = .ok (.invokevirtual 140, 3) := by decide +kernel
theorem dX10_told_22 : decode cX10_told 22 = .ok (.baload, 1) := by decide +kernel
theorem dX10_told_23 : decode cX10_told 23 = .ok (.ifCond .ne 6, 3) := by decide +kernel
theorem dX10_told_26 : decode cX10_told 26 = .ok (.ldc 151, 2) := by decide +kernel
theorem dX10_told_28 : decode cX10_told 28 = .ok (.ireturn, 1) := by decide +kernel
theorem dX10_told_29 : decode cX10_told 29 = .ok (.aload_n 0, 1) := by decide +kernel
theorem dX10_told_30 : decode cX10_told 30 = .ok (.getfield 47, 3) := by decide +kernel
theorem dX10_told_33 : decode cX10_told 33 = .ok (.aload_n 0, 1) := by decide +kernel
theorem dX10_told_34 : decode cX10_told 34 = .ok (.iload_n 2, 1) := by decide +kernel
theorem dX10_told_35 : decode cX10_told 35 = .ok (.iload_n 1, 1) := by decide +kernel
theorem dX10_told_36 : decode cX10_told 36 = .ok (.invokevirtual 140, 3) := by decide +kernel
theorem dX10_told_39 : decode cX10_told 39 = .ok (.iaload, 1) := by decide +kernel
theorem dX10_told_40 : decode cX10_told 40 = .ok (.istore_n 3, 1) := by decide +kernel
theorem dX10_told_41 : decode cX10_told 41 = .ok (.aload_n 0, 1) := by decide +kernel
theorem dX10_told_42 : decode cX10_told 42 = .ok (.getfield 9, 3) := by decide +kernel
theorem dX10_told_45 : decode cX10_told 45 = .ok (.iload_n 1, 1) := by decide +kernel
theorem dX10_told_46 : decode cX10_told 46 = .ok (.iaload, 1) := by decide +kernel
theorem dX10_told_47 : decode cX10_told 47 = .ok (.iconst 4, 1) := by decide +kernel
theorem dX10_told_48 : decode cX10_told 48 = .ok (.if_icmp .ne 5, 3) := by decide +kernel
theorem dX10_told_51 : decode cX10_told 51 = .ok (.iload_n 3, 1) := by decide +kernel
theorem dX10_told_52 : decode cX10_told 52 = .ok (.ireturn, 1) := by decide +kernel
theorem dX10_told_53 : decode cX10_told 53 = .ok (.aload_n 0, 1) := by decide +kernel
theorem dX10_told_54 : decode cX10_told 54 = .ok (.getfield 9, 3) := by decide +kernel
theorem dX10_told_57 : decode cX10_told 57 = .ok (.iload_n 1, 1) := by decide +kernel
theorem dX10_told_58 : decode cX10_told 58 = .ok (.iaload, 1) := by decide +kernel
theorem dX10_told_59 : decode cX10_told 59 = .ok (.iconst 5, 1) := by decide +kernel
theorem dX10_told_60 : decode cX10_told 60 = .ok (.if_icmp .ne 12, 3) := by decide +kernel
theorem dX10_told_63 : decode cX10_told 63 = .ok (.iload_n 3, 1) := by decide +kernel
theorem dX10_told_64 : decode cX10_told 64 = .ok (.aload_n 0, 1) := by decide +kernel
theorem dX10_told_65 : decode cX10_told 65 = .ok (.getfield 44, 3) := by decide +kernel
theorem dX10_told_68 : decode cX10_told 68 = .ok (.iload_n 1, 1) := by decide +kernel
theorem dX10_told_69 : decode cX10_told 69 = .ok (.iaload, 1) := by decide +kernel
theorem dX10_told_70 : decode cX10_told 70 = .ok (.isub, 1) := by decide +kernel
theorem dX10_told_71 : decode cX10_told 71 = .ok (.ireturn, 1) := by decide +kernel
theorem dX10_told_72 : decode cX10_told 72 = .ok (.aload_n 0, 1) := by decide +kernel
theorem dX10_told_73 : decode cX10_told 73 = .ok (.getfield 56, 3) := by decide +kernel
theorem dX10_told_76 : decode cX10_told 76 = .ok (.aload_n 0, 1) := by decide +kernel
theorem dX10_told_77 : decode cX10_told 77 = .ok (.iload_n 2, 1) := by decide +kernel
theorem dX10_told_78 : decode cX10_told 78 = .ok (.iload_n 1, 1) := by decide +kernel
theorem dX10_told_79 : decode cX10_told 79 = .ok (.invokevirtual 140, 3) := by decide +kernel
theorem dX10_told_82 : decode cX10_told 82 = .ok (.baload, 1) := by decide +kernel
theorem dX10_told_83 : decode cX10_told 83 = .ok (.ifCond .eq 22, 3) := by decide +kernel
theorem dX10_told_86 : decode cX10_told 86 = .ok (.iload_n 3, 1) := by decide +kernel
theorem dX10_told_87 : decode cX10_told 87 = .ok (.aload_n 0, 1) := by decide +kernel
theorem dX10_told_88 : decode cX10_told 88 = .ok (.getfield 50, 3) := by decide +kernel
theorem dX10_told_91 : decode cX10_told 91 = .ok (.aload_n 0, 1) := by decide +kernel
theorem dX10_told_92 : decode cX10_told 92 = .ok (.iload_n 2, 1) := by decide +kernel
theorem dX10_told_93 : decode cX10_told 93 = .ok (.iload_n 1, 1) := by decide +kernel
theorem dX10_told_94 : decode cX10_told 94 = .ok (.invokevirtual 140, 3) := by decide +kernel
theorem dX10_told_97 : decode cX10_told 97 = .ok (.iaload, 1) := by decide +kernel
theorem dX10_told_98 : decode cX10_told 98 = .ok (.iadd, 1) := by decide +kernel
theorem dX10_told_99 : decode cX10_told 99 = .ok (.bipush 8, 2) := by decide +kernel
theorem dX10_told_101 : decode cX10_told 101 = .ok (.idiv, 1) := by decide +kernel
theorem dX10_told_102 : decode cX10_told 102 = .ok (.goto 5, 3) := by decide +kernel
theorem dX10_told_105 : decode cX10_told 105 = .ok (.ldc 151, 2) := by decide +kernel
theorem dX10_told_107 : decode cX10_told 107 = .ok (.ireturn, 1) := by decide +kernel
theorem dX10_tells_0 : decode cX10_tells 0 = .ok (.aload_n 0, 1) := by decide +kernel
theorem dX10_tells_1 : decode cX10_tells 1 = .ok (.iload_n 1, 1) := by decide +kernel
theorem dX10_tells_2 : decode cX10_tells 2 = .ok (.iconst 4, 1) := by decide +kernel
theorem dX10_tells_3 : decode cX10_tells 3 = .ok (.bipush 6, 2) := by decide +kernel
theorem dX10_tells_5 : decode cX10_tells 5 = .ok (.invokevirtual 144, 3) := by decide +kernel
theorem dX10_tells_8 : decode cX10_tells 8 = .ok (.istore_n 3, 1) := by decide +kernel
theorem dX10_tells_9 : decode cX10_tells 9 = .ok (.iload_n 3, 1) := by decide +kernel
theorem dX10_tells_10 : decode cX10_tells 10 = .ok (.ifCond .eq 7, 3) := by decide +kernel
theorem dX10_tells_13 : decode cX10_tells 13 = .ok (.iload_n 3, 1) := by decide +kernel
theorem dX10_tells_14 : decode cX10_tells 14 = .ok (.goto 9, 3) := by decide +kernel
theorem dX10_tells_17 : decode cX10_tells 17 = .ok (.aload_n 0, 1) := by decide +kernel
theorem dX10_tells_18 : decode cX10_tells 18 = .ok (.iload_n 1, 1) := by decide +kernel
theorem dX10_tells_19 : decode cX10_tells 19 = .ok (.iload_n 2, 1) := by decide +kernel
theorem dX10_tells_20 : decode cX10_tells 20 = .ok (.invokevirtual 152, 3) := by decide +kernel
theorem dX10_tells_23 : decode cX10_tells 23 = .ok (.ireturn, 1) := by decide +kernel
theorem dX10_other_0 : decode cX10_other 0 = .ok (.aload_n 0, 1) := by decide +kernel
theorem dX10_other_1 : decode cX10_other 1 = .ok (.getfield 13, 3) := by decide +kernel
theorem dX10_other_4 : decode cX10_other 4 = .ok (.iload_n 1, 1) := by decide +kernel
theorem dX10_other_5 : decode cX10_other 5 = .ok (.iaload, 1) := by decide +kernel
theorem dX10_other_6 : decode cX10_other 6 = .ok (.iload_n 2, 1) := by decide +kernel
theorem dX10_other_7 : decode cX10_other 7 = .ok (.if_icmp .ne 12, 3) := by decide +kernel
theorem dX10_other_10 : decode cX10_other 10 = .ok (.aload_n 0, 1) := by decide +kernel
theorem dX10_other_11 : decode cX10_other 11 = .ok (.getfield 16, 3) := by decide +kernel
theorem dX10_other_14 : decode cX10_other 14 = .ok (.iload_n 1, 1) := by decide +kernel
theorem dX10_other_15 : decode cX10_other 15 = .ok (.iaload, 1) := by decide +kernel
theorem dX10_other_16 : decode cX10_other 16 = .ok (.goto 23, 3) := by decide +kernel
theorem dX10_other_19 : decode cX10_other 19 = .ok (.aload_n 0, 1) := by decide +kernel
theorem dX10_other_20 : decode cX10_other 20 = .ok (.getfield 16, 3) := by decide +kernel
theorem dX10_other_23 : decode cX10_other 23 = .ok (.iload_n 1, 1) := by decide +kernel
theorem dX10_other_24 : decode cX10_other 24 = .ok (.iaload, 1) := by decide +kernel
theorem dX10_other_25 : decode cX10_other 25 = .ok (.iload_n 2, 1) := by decide +kernel
theorem dX10_other_26 : decode cX10_other 26 = .ok (.if_icmp .ne 12, 3) := by decide +kernel
theorem dX10_other_29 : decode cX10_other 29 = .ok (.aload_n 0, 1) := by decide +kernel
theorem dX10_other_30 : decode cX10_other 30 = .ok (.getfield 13, 3) := by decide +kernel
theorem dX10_other_33 : decode cX10_other 33 = .ok (.iload_n 1, 1) := by decide +kernel
theorem dX10_other_34 : decode cX10_other 34 = .ok (.iaload, 1) := by decide +kernel
theorem dX10_other_35 : decode cX10_other 35 = .ok (.goto 4, 3) := by decide +kernel
theorem dX10_other_38 : decode cX10_other 38 = .ok (.iconst (-1), 1) := by decide +kernel
theorem dX10_other_39 : decode cX10_other 39 = .ok (.ireturn, 1) := by decide +kernel
theorem dX10_goes_0 : decode cX10_goes 0 = .ok (.iload_n 1, 1) := by decide +kernel
theorem dX10_goes_1 : decode cX10_goes 1 = .ok (.iload_n 2, 1) := by decide +kernel
theorem dX10_goes_2 : decode cX10_goes 2 = .ok (.if_icmp .ge 7, 3) := by decide +kernel
theorem dX10_goes_5 : decode cX10_goes 5 = .ok (.iload_n 1, 1) := by decide +kernel
theorem dX10_goes_6 : decode cX10_goes 6 = .ok (.goto 4, 3) := by decide +kernel
theorem dX10_goes_9 : decode cX10_goes 9 = .ok (.iload_n 2, 1) := by decide +kernel
theorem dX10_goes_10 : decode cX10_goes 10 = .ok (.istore 4, 2) := by decide +kernel
theorem dX10_goes_12 : decode cX10_goes 12 = .ok (.iload_n 1, 1) := by decide +kernel
theorem dX10_goes_13 : decode cX10_goes 13 = .ok (.iload_n 2, 1) := by decide +kernel
theorem dX10_goes_14 : decode cX10_goes 14 = .ok (.if_icmp .ge 7, 3) := by decide +kernel
theorem dX10_goes_17 : decode cX10_goes 17 = .ok (.iload_n 2, 1) := by decide +kernel
theorem dX10_goes_18 : decode cX10_goes 18 = .ok (.goto 4, 3) := by decide +kernel
theorem dX10_goes_21 : decode cX10_goes 21 = .ok (.iload_n 1, 1) := by decide +kernel
theorem dX10_goes_22 : decode cX10_goes 22 = .ok (.istore 5, 2) := by decide +kernel
theorem dX10_goes_24 : decode cX10_goes 24 = .ok (.iconst 0, 1) := by decide +kernel
theorem dX10_goes_25 : decode cX10_goes 25 = .ok (.istore 6, 2) := by decide +kernel
theorem dX10_goes_27 : decode cX10_goes 27 = .ok (.iload 6, 2) := by decide +kernel
theorem dX10_goes_29 : decode cX10_goes 29 = .ok (.bipush 24, 2) := by decide +kernel
theorem dX10_goes_31 : decode cX10_goes 31 = .ok (.if_icmp .ge 18, 3) := by decide +kernel
theorem dX10_goes_34 : decode cX10_goes 34 = .ok (.aload_n 0, 1) := by decide +kernel
theorem dX10_goes_35 : decode cX10_goes 35 = .ok (.getfield 117, 3) := by decide +kernel
theorem dX10_goes_38 : decode cX10_goes 38 = .ok (.iload 6, 2) := by decide +kernel
theorem dX10_goes_40 : decode cX10_goes 40 = .ok (.bipush 99, 2) := by decide +kernel
theorem dX10_goes_42 : decode cX10_goes 42 = .ok (.iastore, 1) := by decide +kernel
theorem dX10_goes_43 : decode cX10_goes 43 = .ok (.iinc 6 1, 3) := by decide +kernel
theorem dX10_goes_46 : decode cX10_goes 46 = .ok (.goto (-19), 3) := by decide +kernel
theorem dX10_goes_49 : decode cX10_goes 49 = .ok (.aload_n 0, 1) := by decide +kernel
theorem dX10_goes_50 : decode cX10_goes 50 = .ok (.getfield 117, 3) := by decide +kernel
theorem dX10_goes_53 : decode cX10_goes 53 = .ok (.iload 5, 2) := by decide +kernel
theorem dX10_goes_55 : decode cX10_goes 55 = .ok (.iconst 0, 1) := by decide +kernel
theorem dX10_goes_56 : decode cX10_goes 56 = .ok (.iastore, 1) := by decide +kernel
theorem dX10_goes_57 : decode cX10_goes 57 = .ok (.iconst 0, 1) := by decide +kernel
theorem dX10_goes_58 : decode cX10_goes 58 = .ok (.istore 6, 2) := by decide +kernel
theorem dX10_goes_60 : decode cX10_goes 60 = .ok (.iload 6, 2) := by decide +kernel
theorem dX10_goes_62 : decode cX10_goes 62 = .ok (.bipush 24, 2) := by decide +kernel
theorem dX10_goes_64 : decode cX10_goes 64 = .ok (.if_icmp .ge 159, 3) := by decide +kernel
theorem dX10_goes_67 : decode cX10_goes 67 = .ok (.iconst 0, 1) := by decide +kernel
theorem dX10_goes_68 : decode cX10_goes 68 = .ok (.istore 7, 2) := by decide +kernel
theorem dX10_goes_70 : decode cX10_goes 70 = .ok (.iload 7, 2) := by decide +kernel
theorem dX10_goes_72 : decode cX10_goes 72 = .ok (.bipush 24, 2) := by decide +kernel
theorem dX10_goes_74 : decode cX10_goes 74 = .ok (.if_icmp .ge 143, 3) := by decide +kernel
theorem dX10_goes_77 : decode cX10_goes 77 = .ok (.aload_n 0, 1) := by decide +kernel
theorem dX10_goes_78 : decode cX10_goes 78 = .ok (.iload 7, 2) := by decide +kernel
theorem dX10_goes_80 : decode cX10_goes 80 = .ok (.invokevirtual 148, 3) := by decide +kernel
theorem dX10_goes_83 : decode cX10_goes 83 = .ok (.ifCond .eq 128, 3) := by decide +kernel
theorem dX10_goes_86 : decode cX10_goes 86 = .ok (.aload_n 0, 1) := by decide +kernel
theorem dX10_goes_87 : decode cX10_goes 87 = .ok (.iload 7, 2) := by decide +kernel
theorem dX10_goes_89 : decode cX10_goes 89 = .ok (.iload_n 3, 1) := by decide +kernel
theorem dX10_goes_90 : decode cX10_goes 90 = .ok (.invokevirtual 152, 3) := by decide +kernel
theorem dX10_goes_93 : decode cX10_goes 93 = .ok (.ldc 151, 2) := by decide +kernel
theorem dX10_goes_95 : decode cX10_goes 95 = .ok (.if_icmp .ne 6, 3) := by decide +kernel
theorem dX10_goes_98 : decode cX10_goes 98 = .ok (.goto 113, 3) := by decide +kernel
theorem dX10_goes_101 : decode cX10_goes 101 = .ok (.aload_n 0, 1) := by decide +kernel
theorem dX10_goes_102 : decode cX10_goes 102 = .ok (.getfield 117, 3) := by decide +kernel
theorem dX10_goes_105 : decode cX10_goes 105 = .ok (.aload_n 0, 1) := by decide +kernel
theorem dX10_goes_106 : decode cX10_goes 106 = .ok (.getfield 13, 3) := by decide +kernel
theorem dX10_goes_109 : decode cX10_goes 109 = .ok (.iload 7, 2) := by decide +kernel
theorem dX10_goes_111 : decode cX10_goes 111 = .ok (.iaload, 1) := by decide +kernel
theorem dX10_goes_112 : decode cX10_goes 112 = .ok (.iaload, 1) := by decide +kernel
theorem dX10_goes_113 : decode cX10_goes 113 = .ok (.aload_n 0, 1) := by decide +kernel
theorem dX10_goes_114 : decode cX10_goes 114 = .ok (.getfield 117, 3) := by decide +kernel
theorem dX10_goes_117 : decode cX10_goes 117 = .ok (.aload_n 0, 1) := by decide +kernel
theorem dX10_goes_118 : decode cX10_goes 118 = .ok (.getfield 16, 3) := by decide +kernel
theorem dX10_goes_121 : decode cX10_goes 121 = .ok (.iload 7, 2) := by decide +kernel
theorem dX10_goes_123 : decode cX10_goes 123 = .ok (.iaload, 1) := by decide +kernel
theorem dX10_goes_124 : decode cX10_goes 124 = .ok (.iaload, 1) := by decide +kernel
theorem dX10_goes_125 : decode cX10_goes 125 = .ok (.iconst 1, 1) := by decide +kernel
theorem dX10_goes_126 : decode cX10_goes 126 = .ok (.iadd, 1) := by decide +kernel
theorem dX10_goes_127 : decode cX10_goes 127 = .ok (.if_icmp .le 29, 3) := by decide +kernel
theorem dX10_goes_130 : decode cX10_goes 130 = .ok (.aload_n 0, 1) := by decide +kernel
theorem dX10_goes_131 : decode cX10_goes 131 = .ok (.getfield 117, 3) := by decide +kernel
theorem dX10_goes_134 : decode cX10_goes 134 = .ok (.aload_n 0, 1) := by decide +kernel
theorem dX10_goes_135 : decode cX10_goes 135 = .ok (.getfield 13, 3) := by decide +kernel
theorem dX10_goes_138 : decode cX10_goes 138 = .ok (.iload 7, 2) := by decide +kernel
theorem dX10_goes_140 : decode cX10_goes 140 = .ok (.iaload, 1) := by decide +kernel
theorem dX10_goes_141 : decode cX10_goes 141 = .ok (.aload_n 0, 1) := by decide +kernel
theorem dX10_goes_142 : decode cX10_goes 142 = .ok (.getfield 117, 3) := by decide +kernel
theorem dX10_goes_145 : decode cX10_goes 145 = .ok (.aload_n 0, 1) := by decide +kernel
theorem dX10_goes_146 : decode cX10_goes 146 = .ok (.getfield 16, 3) := by decide +kernel
theorem dX10_goes_149 : decode cX10_goes 149 = .ok (.iload 7, 2) := by decide +kernel
theorem dX10_goes_151 : decode cX10_goes 151 = .ok (.iaload, 1) := by decide +kernel
theorem dX10_goes_152 : decode cX10_goes 152 = .ok (.iaload, 1) := by decide +kernel
theorem dX10_goes_153 : decode cX10_goes 153 = .ok (.iconst 1, 1) := by decide +kernel
theorem dX10_goes_154 : decode cX10_goes 154 = .ok (.iadd, 1) := by decide +kernel
theorem dX10_goes_155 : decode cX10_goes 155 = .ok (.iastore, 1) := by decide +kernel
theorem dX10_goes_156 : decode cX10_goes 156 = .ok (.aload_n 0, 1) := by decide +kernel
theorem dX10_goes_157 : decode cX10_goes 157 = .ok (.getfield 117, 3) := by decide +kernel
theorem dX10_goes_160 : decode cX10_goes 160 = .ok (.aload_n 0, 1) := by decide +kernel
theorem dX10_goes_161 : decode cX10_goes 161 = .ok (.getfield 16, 3) := by decide +kernel
theorem dX10_goes_164 : decode cX10_goes 164 = .ok (.iload 7, 2) := by decide +kernel
theorem dX10_goes_166 : decode cX10_goes 166 = .ok (.iaload, 1) := by decide +kernel
theorem dX10_goes_167 : decode cX10_goes 167 = .ok (.iaload, 1) := by decide +kernel
theorem dX10_goes_168 : decode cX10_goes 168 = .ok (.aload_n 0, 1) := by decide +kernel
theorem dX10_goes_169 : decode cX10_goes 169 = .ok (.getfield 117, 3) := by decide +kernel
theorem dX10_goes_172 : decode cX10_goes 172 = .ok (.aload_n 0, 1) := by decide +kernel
theorem dX10_goes_173 : decode cX10_goes 173 = .ok (.getfield 13, 3) := by decide +kernel
theorem dX10_goes_176 : decode cX10_goes 176 = .ok (.iload 7, 2) := by decide +kernel
theorem dX10_goes_178 : decode cX10_goes 178 = .ok (.iaload, 1) := by decide +kernel
theorem dX10_goes_179 : decode cX10_goes 179 = .ok (.iaload, 1) := by decide +kernel
theorem dX10_goes_180 : decode cX10_goes 180 = .ok (.iconst 1, 1) := by decide +kernel
theorem dX10_goes_181 : decode cX10_goes 181 = .ok (.iadd, 1) := by decide +kernel
theorem dX10_goes_182 : decode cX10_goes 182 = .ok (.if_icmp .le 29, 3) := by decide +kernel
theorem dX10_goes_185 : decode cX10_goes 185 = .ok (.aload_n 0, 1) := by decide +kernel
theorem dX10_goes_186 : decode cX10_goes 186 = .ok (.getfield 117, 3) := by decide +kernel
theorem dX10_goes_189 : decode cX10_goes 189 = .ok (.aload_n 0, 1) := by decide +kernel
theorem dX10_goes_190 : decode cX10_goes 190 = .ok (.getfield 16, 3) := by decide +kernel
theorem dX10_goes_193 : decode cX10_goes 193 = .ok (.iload 7, 2) := by decide +kernel
theorem dX10_goes_195 : decode cX10_goes 195 = .ok (.iaload, 1) := by decide +kernel
theorem dX10_goes_196 : decode cX10_goes 196 = .ok (.aload_n 0, 1) := by decide +kernel
theorem dX10_goes_197 : decode cX10_goes 197 = .ok (.getfield 117, 3) := by decide +kernel
theorem dX10_goes_200 : decode cX10_goes 200 = .ok (.aload_n 0, 1) := by decide +kernel
theorem dX10_goes_201 : decode cX10_goes 201 = .ok (.getfield 13, 3) := by decide +kernel
theorem dX10_goes_204 : decode cX10_goes 204 = .ok (.iload 7, 2) := by decide +kernel
theorem dX10_goes_206 : decode cX10_goes 206 = .ok (.iaload, 1) := by decide +kernel
theorem dX10_goes_207 : decode cX10_goes 207 = .ok (.iaload, 1) := by decide +kernel
theorem dX10_goes_208 : decode cX10_goes 208 = .ok (.iconst 1, 1) := by decide +kernel
theorem dX10_goes_209 : decode cX10_goes 209 = .ok (.iadd, 1) := by decide +kernel
theorem dX10_goes_210 : decode cX10_goes 210 = .ok (.iastore, 1) := by decide +kernel
theorem dX10_goes_211 : decode cX10_goes 211 = .ok (.iinc 7 1, 3) := by decide +kernel
theorem dX10_goes_214 : decode cX10_goes 214 = .ok (.goto (-144), 3) := by decide +kernel
theorem dX10_goes_217 : decode cX10_goes 217 = .ok (.iinc 6 1, 3) := by decide +kernel
theorem dX10_goes_220 : decode cX10_goes 220 = .ok (.goto (-160), 3) := by decide +kernel
theorem dX10_goes_223 : decode cX10_goes 223 = .ok (.aload_n 0, 1) := by decide +kernel
theorem dX10_goes_224 : decode cX10_goes 224 = .ok (.iconst 0, 1) := by decide +kernel
theorem dX10_goes_225 : decode cX10_goes 225 = .ok (.putfield 155, 3) := by decide +kernel
theorem dX10_goes_228 : decode cX10_goes 228 = .ok (.aload_n 0, 1) := by decide +kernel
theorem dX10_goes_229 : decode cX10_goes 229 = .ok (.iconst 0, 1) := by decide +kernel
theorem dX10_goes_230 : decode cX10_goes 230 = .ok (.putfield 158, 3) := by decide +kernel
theorem dX10_goes_233 : decode cX10_goes 233 = .ok (.aload_n 0, 1) := by decide +kernel
theorem dX10_goes_234 : decode cX10_goes 234 = .ok (.getfield 117, 3) := by decide +kernel
theorem dX10_goes_237 : decode cX10_goes 237 = .ok (.iload 4, 2) := by decide +kernel
theorem dX10_goes_239 : decode cX10_goes 239 = .ok (.iaload, 1) := by decide +kernel
theorem dX10_goes_240 : decode cX10_goes 240 = .ok (.bipush 99, 2) := by decide +kernel
theorem dX10_goes_242 : decode cX10_goes 242 = .ok (.if_icmp .lt 5, 3) := by decide +kernel
theorem dX10_goes_245 : decode cX10_goes 245 = .ok (.iconst 0, 1) := by decide +kernel
theorem dX10_goes_246 : decode cX10_goes 246 = .ok (.ireturn, 1) := by decide +kernel
theorem dX10_goes_247 : decode cX10_goes 247 = .ok (.iload 4, 2) := by decide +kernel
theorem dX10_goes_249 : decode cX10_goes 249 = .ok (.istore 6, 2) := by decide +kernel
theorem dX10_goes_251 : decode cX10_goes 251 = .ok (.iload 6, 2) := by decide +kernel
theorem dX10_goes_253 : decode cX10_goes 253 = .ok (.iload 5, 2) := by decide +kernel
theorem dX10_goes_255 : decode cX10_goes 255 = .ok (.if_icmp .eq 143, 3) := by decide +kernel
theorem dX10_goes_258 : decode cX10_goes 258 = .ok (.iconst 0, 1) := by decide +kernel
theorem dX10_goes_259 : decode cX10_goes 259 = .ok (.istore 7, 2) := by decide +kernel
theorem dX10_goes_261 : decode cX10_goes 261 = .ok (.aload_n 0, 1) := by decide +kernel
theorem dX10_goes_262 : decode cX10_goes 262 = .ok (.iload 7, 2) := by decide +kernel
theorem dX10_goes_264 : decode cX10_goes 264 = .ok (.invokevirtual 148, 3) := by decide +kernel
theorem dX10_goes_267 : decode cX10_goes 267 = .ok (.ifCond .eq 52, 3) := by decide +kernel
theorem dX10_goes_270 : decode cX10_goes 270 = .ok (.aload_n 0, 1) := by decide +kernel
theorem dX10_goes_271 : decode cX10_goes 271 = .ok (.iload 7, 2) := by decide +kernel
theorem dX10_goes_273 : decode cX10_goes 273 = .ok (.iload_n 3, 1) := by decide +kernel
theorem dX10_goes_274 : decode cX10_goes 274 = .ok (.invokevirtual 152, 3) := by decide +kernel
theorem dX10_goes_277 : decode cX10_goes 277 = .ok (.ldc 151, 2) := by decide +kernel
theorem dX10_goes_279 : decode cX10_goes 279 = .ok (.if_icmp .eq 40, 3) := by decide +kernel
theorem dX10_goes_282 : decode cX10_goes 282 = .ok (.aload_n 0, 1) := by decide +kernel
theorem dX10_goes_283 : decode cX10_goes 283 = .ok (.iload 7, 2) := by decide +kernel
theorem dX10_goes_285 : decode cX10_goes 285 = .ok (.iload 6, 2) := by decide +kernel
theorem dX10_goes_287 : decode cX10_goes 287 = .ok (.invokevirtual 161, 3) := by decide +kernel
theorem dX10_goes_290 : decode cX10_goes 290 = .ok (.iconst (-1), 1) := by decide +kernel
theorem dX10_goes_291 : decode cX10_goes 291 = .ok (.if_icmp .eq 28, 3) := by decide +kernel
theorem dX10_goes_294 : decode cX10_goes 294 = .ok (.aload_n 0, 1) := by decide +kernel
theorem dX10_goes_295 : decode cX10_goes 295 = .ok (.getfield 117, 3) := by decide +kernel
theorem dX10_goes_298 : decode cX10_goes 298 = .ok (.aload_n 0, 1) := by decide +kernel
theorem dX10_goes_299 : decode cX10_goes 299 = .ok (.iload 7, 2) := by decide +kernel
theorem dX10_goes_301 : decode cX10_goes 301 = .ok (.iload 6, 2) := by decide +kernel
theorem dX10_goes_303 : decode cX10_goes 303 = .ok (.invokevirtual 161, 3) := by decide +kernel
theorem dX10_goes_306 : decode cX10_goes 306 = .ok (.iaload, 1) := by decide +kernel
theorem dX10_goes_307 : decode cX10_goes 307 = .ok (.aload_n 0, 1) := by decide +kernel
theorem dX10_goes_308 : decode cX10_goes 308 = .ok (.getfield 117, 3) := by decide +kernel
theorem dX10_goes_311 : decode cX10_goes 311 = .ok (.iload 6, 2) := by decide +kernel
theorem dX10_goes_313 : decode cX10_goes 313 = .ok (.iaload, 1) := by decide +kernel
theorem dX10_goes_314 : decode cX10_goes 314 = .ok (.iconst 1, 1) := by decide +kernel
theorem dX10_goes_315 : decode cX10_goes 315 = .ok (.isub, 1) := by decide +kernel
theorem dX10_goes_316 : decode cX10_goes 316 = .ok (.if_icmp .eq 9, 3) := by decide +kernel
theorem dX10_goes_319 : decode cX10_goes 319 = .ok (.iinc 7 1, 3) := by decide +kernel
theorem dX10_goes_322 : decode cX10_goes 322 = .ok (.goto (-61), 3) := by decide +kernel
theorem dX10_goes_325 : decode cX10_goes 325 = .ok (.aload_n 0, 1) := by decide +kernel
theorem dX10_goes_326 : decode cX10_goes 326 = .ok (.dup, 1) := by decide +kernel
theorem dX10_goes_327 : decode cX10_goes 327 = .ok (.getfield 158, 3) := by decide +kernel
theorem dX10_goes_330 : decode cX10_goes 330 = .ok (.aload_n 0, 1) := by decide +kernel
theorem dX10_goes_331 : decode cX10_goes 331 = .ok (.getfield 13, 3) := by decide +kernel
theorem dX10_goes_334 : decode cX10_goes 334 = .ok (.iload 7, 2) := by decide +kernel
theorem dX10_goes_336 : decode cX10_goes 336 = .ok (.iaload, 1) := by decide +kernel
theorem dX10_goes_337 : decode cX10_goes 337 = .ok (.iload 6, 2) := by decide +kernel
theorem dX10_goes_339 : decode cX10_goes 339 = .ok (.if_icmp .ne 13, 3) := by decide +kernel
theorem dX10_goes_342 : decode cX10_goes 342 = .ok (.aload_n 0, 1) := by decide +kernel
theorem dX10_goes_343 : decode cX10_goes 343 = .ok (.iload 7, 2) := by decide +kernel
theorem dX10_goes_345 : decode cX10_goes 345 = .ok (.iload_n 3, 1) := by decide +kernel
theorem dX10_goes_346 : decode cX10_goes 346 = .ok (.invokevirtual 152, 3) := by decide +kernel
theorem dX10_goes_349 : decode cX10_goes 349 = .ok (.goto 11, 3) := by decide +kernel
theorem dX10_goes_352 : decode cX10_goes 352 = .ok (.aload_n 0, 1) := by decide +kernel
theorem dX10_goes_353 : decode cX10_goes 353 = .ok (.iload 7, 2) := by decide +kernel
theorem dX10_goes_355 : decode cX10_goes 355 = .ok (.iload_n 3, 1) := by decide +kernel
theorem dX10_goes_356 : decode cX10_goes 356 = .ok (.invokevirtual 152, 3) := by decide +kernel
theorem dX10_goes_359 : decode cX10_goes 359 = .ok (.ineg, 1) := by decide +kernel
theorem dX10_goes_360 : decode cX10_goes 360 = .ok (.iadd, 1) := by decide +kernel
theorem dX10_goes_361 : decode cX10_goes 361 = .ok (.putfield 158, 3) := by decide +kernel
theorem dX10_goes_364 : decode cX10_goes 364 = .ok (.aload_n 0, 1) := by decide +kernel
theorem dX10_goes_365 : decode cX10_goes 365 = .ok (.getfield 120, 3) := by decide +kernel
theorem dX10_goes_368 : decode cX10_goes 368 = .ok (.aload_n 0, 1) := by decide +kernel
theorem dX10_goes_369 : decode cX10_goes 369 = .ok (.getfield 155, 3) := by decide +kernel
theorem dX10_goes_372 : decode cX10_goes 372 = .ok (.iload 7, 2) := by decide +kernel
theorem dX10_goes_374 : decode cX10_goes 374 = .ok (.iastore, 1) := by decide +kernel
theorem dX10_goes_375 : decode cX10_goes 375 = .ok (.aload_n 0, 1) := by decide +kernel
theorem dX10_goes_376 : decode cX10_goes 376 = .ok (.dup, 1) := by decide +kernel
theorem dX10_goes_377 : decode cX10_goes 377 = .ok (.getfield 155, 3) := by decide +kernel
theorem dX10_goes_380 : decode cX10_goes 380 = .ok (.iconst 1, 1) := by decide +kernel
theorem dX10_goes_381 : decode cX10_goes 381 = .ok (.iadd, 1) := by decide +kernel
theorem dX10_goes_382 : decode cX10_goes 382 = .ok (.putfield 155, 3) := by decide +kernel
theorem dX10_goes_385 : decode cX10_goes 385 = .ok (.aload_n 0, 1) := by decide +kernel
theorem dX10_goes_386 : decode cX10_goes 386 = .ok (.iload 7, 2) := by decide +kernel
theorem dX10_goes_388 : decode cX10_goes 388 = .ok (.iload 6, 2) := by decide +kernel
theorem dX10_goes_390 : decode cX10_goes 390 = .ok (.invokevirtual 161, 3) := by decide +kernel
theorem dX10_goes_393 : decode cX10_goes 393 = .ok (.istore 6, 2) := by decide +kernel
theorem dX10_goes_395 : decode cX10_goes 395 = .ok (.goto (-144), 3) := by decide +kernel
theorem dX10_goes_398 : decode cX10_goes 398 = .ok (.iload_n 1, 1) := by decide +kernel
theorem dX10_goes_399 : decode cX10_goes 399 = .ok (.iload_n 2, 1) := by decide +kernel
theorem dX10_goes_400 : decode cX10_goes 400 = .ok (.if_icmp .gt 5, 3) := by decide +kernel
theorem dX10_goes_403 : decode cX10_goes 403 = .ok (.iconst 1, 1) := by decide +kernel
theorem dX10_goes_404 : decode cX10_goes 404 = .ok (.ireturn, 1) := by decide +kernel
theorem dX10_goes_405 : decode cX10_goes 405 = .ok (.aload_n 0, 1) := by decide +kernel
theorem dX10_goes_406 : decode cX10_goes 406 = .ok (.aload_n 0, 1) := by decide +kernel
theorem dX10_goes_407 : decode cX10_goes 407 = .ok (.getfield 158, 3) := by decide +kernel
theorem dX10_goes_410 : decode cX10_goes 410 = .ok (.ineg, 1) := by decide +kernel
theorem dX10_goes_411 : decode cX10_goes 411 = .ok (.putfield 158, 3) := by decide +kernel
theorem dX10_goes_414 : decode cX10_goes 414 = .ok (.iconst 0, 1) := by decide +kernel
theorem dX10_goes_415 : decode cX10_goes 415 = .ok (.istore 7, 2) := by decide +kernel
theorem dX10_goes_417 : decode cX10_goes 417 = .ok (.iconst 2, 1) := by decide +kernel
theorem dX10_goes_418 : decode cX10_goes 418 = .ok (.iload 7, 2) := by decide +kernel
theorem dX10_goes_420 : decode cX10_goes 420 = .ok (.imul, 1) := by decide +kernel
theorem dX10_goes_421 : decode cX10_goes 421 = .ok (.aload_n 0, 1) := by decide +kernel
theorem dX10_goes_422 : decode cX10_goes 422 = .ok (.getfield 155, 3) := by decide +kernel
theorem dX10_goes_425 : decode cX10_goes 425 = .ok (.iconst 1, 1) := by decide +kernel
theorem dX10_goes_426 : decode cX10_goes 426 = .ok (.isub, 1) := by decide +kernel
theorem dX10_goes_427 : decode cX10_goes 427 = .ok (.if_icmp .ge 55, 3) := by decide +kernel
theorem dX10_goes_430 : decode cX10_goes 430 = .ok (.aload_n 0, 1) := by decide +kernel
theorem dX10_goes_431 : decode cX10_goes 431 = .ok (.getfield 120, 3) := by decide +kernel
theorem dX10_goes_434 : decode cX10_goes 434 = .ok (.iload 7, 2) := by decide +kernel
theorem dX10_goes_436 : decode cX10_goes 436 = .ok (.iaload, 1) := by decide +kernel
theorem dX10_goes_437 : decode cX10_goes 437 = .ok (.istore 8, 2) := by decide +kernel
theorem dX10_goes_439 : decode cX10_goes 439 = .ok (.aload_n 0, 1) := by decide +kernel
theorem dX10_goes_440 : decode cX10_goes 440 = .ok (.getfield 120, 3) := by decide +kernel
theorem dX10_goes_443 : decode cX10_goes 443 = .ok (.iload 7, 2) := by decide +kernel
theorem dX10_goes_445 : decode cX10_goes 445 = .ok (.aload_n 0, 1) := by decide +kernel
theorem dX10_goes_446 : decode cX10_goes 446 = .ok (.getfield 120, 3) := by decide +kernel
theorem dX10_goes_449 : decode cX10_goes 449 = .ok (.aload_n 0, 1) := by decide +kernel
theorem dX10_goes_450 : decode cX10_goes 450 = .ok (.getfield 155, 3) := by decide +kernel
theorem dX10_goes_453 : decode cX10_goes 453 = .ok (.iconst 1, 1) := by decide +kernel
theorem dX10_goes_454 : decode cX10_goes 454 = .ok (.isub, 1) := by decide +kernel
theorem dX10_goes_455 : decode cX10_goes 455 = .ok (.iload 7, 2) := by decide +kernel
theorem dX10_goes_457 : decode cX10_goes 457 = .ok (.isub, 1) := by decide +kernel
theorem dX10_goes_458 : decode cX10_goes 458 = .ok (.iaload, 1) := by decide +kernel
theorem dX10_goes_459 : decode cX10_goes 459 = .ok (.iastore, 1) := by decide +kernel
theorem dX10_goes_460 : decode cX10_goes 460 = .ok (.aload_n 0, 1) := by decide +kernel
theorem dX10_goes_461 : decode cX10_goes 461 = .ok (.getfield 120, 3) := by decide +kernel
theorem dX10_goes_464 : decode cX10_goes 464 = .ok (.aload_n 0, 1) := by decide +kernel
theorem dX10_goes_465 : decode cX10_goes 465 = .ok (.getfield 155, 3) := by decide +kernel
theorem dX10_goes_468 : decode cX10_goes 468 = .ok (.iconst 1, 1) := by decide +kernel
theorem dX10_goes_469 : decode cX10_goes 469 = .ok (.isub, 1) := by decide +kernel
theorem dX10_goes_470 : decode cX10_goes 470 = .ok (.iload 7, 2) := by decide +kernel
theorem dX10_goes_472 : decode cX10_goes 472 = .ok (.isub, 1) := by decide +kernel
theorem dX10_goes_473 : decode cX10_goes 473 = .ok (.iload 8, 2) := by decide +kernel
theorem dX10_goes_475 : decode cX10_goes 475 = .ok (.iastore, 1) := by decide +kernel
theorem dX10_goes_476 : decode cX10_goes 476 = .ok (.iinc 7 1, 3) := by decide +kernel
theorem dX10_goes_479 : decode cX10_goes 479 = .ok (.goto (-62), 3) := by decide +kernel
theorem dX10_goes_482 : decode cX10_goes 482 = .ok (.iconst 1, 1) := by decide +kernel
theorem dX10_goes_483 : decode cX10_goes 483 = .ok (.ireturn, 1) := by decide +kernel
theorem dX10_difference_0 : decode cX10_difference 0 = .ok (.aload_n 0, 1) := by decide +kernel
theorem dX10_difference_1 : decode cX10_difference 1 = .ok (.iload_n 1, 1) := by decide +kernel
theorem dX10_difference_2 : decode cX10_difference 2 = .ok (.iconst 0, 1) := by decide +kernel
theorem dX10_difference_3 : decode cX10_difference 3 = .ok (.iconst 3, 1) := by decide +kernel
theorem dX10_difference_4 : decode cX10_difference 4 = .ok (.invokevirtual 144, 3) := by decide +kernel
theorem dX10_difference_7 : decode cX10_difference 7 = .ok (.istore 4, 2) := by decide +kernel
theorem dX10_difference_9 : decode cX10_difference 9 = .ok (.iload 4, 2) := by decide +kernel
theorem dX10_difference_11 : decode cX10_difference 11 = .ok (.ifCond .ne 12, 3) := by decide +kernel
theorem dX10_difference_14 : decode cX10_difference 14 = .ok (.aload_n 0, 1) := by decide +kernel
theorem dX10_difference_15 : decode cX10_difference 15 = .ok (.iload_n 2, 1) := by decide +kernel
theorem dX10_difference_16 : decode cX10_difference 16 = .ok (.iconst 0, 1) := by decide +kernel
theorem dX10_difference_17 : decode cX10_difference 17 = .ok (.iconst 3, 1) := by decide +kernel
theorem dX10_difference_18 : decode cX10_difference 18 = .ok (.invokevirtual 144, 3) := by decide +kernel
theorem dX10_difference_21 : decode cX10_difference 21 = .ok (.istore 4, 2) := by decide +kernel
theorem dX10_difference_23 : decode cX10_difference 23 = .ok (.iload 4, 2) := by decide +kernel
theorem dX10_difference_25 : decode cX10_difference 25 = .ok (.ifCond .eq 6, 3) := by decide +kernel
theorem dX10_difference_28 : decode cX10_difference 28 = .ok (.iload 4, 2) := by decide +kernel
theorem dX10_difference_30 : decode cX10_difference 30 = .ok (.ireturn, 1) := by decide +kernel
theorem dX10_difference_31 : decode cX10_difference 31 = .ok (.iload_n 3, 1) := by decide +kernel
theorem dX10_difference_32 : decode cX10_difference 32 = .ok (.iconst 0, 1) := by decide +kernel
theorem dX10_difference_33 : decode cX10_difference 33 = .ok (.aload_n 0, 1) := by decide +kernel
theorem dX10_difference_34 : decode cX10_difference 34 = .ok (.getfield 137, 3) := by decide +kernel
theorem dX10_difference_37 : decode cX10_difference 37 = .ok (.invokestatic 129, 3) := by decide +kernel
theorem dX10_difference_40 : decode cX10_difference 40 = .ok (.ifCond .eq 20, 3) := by decide +kernel
theorem dX10_difference_43 : decode cX10_difference 43 = .ok (.aload_n 0, 1) := by decide +kernel
theorem dX10_difference_44 : decode cX10_difference 44 = .ok (.iload_n 1, 1) := by decide +kernel
theorem dX10_difference_45 : decode cX10_difference 45 = .ok (.iload_n 2, 1) := by decide +kernel
theorem dX10_difference_46 : decode cX10_difference 46 = .ok (.iload_n 3, 1) := by decide +kernel
theorem dX10_difference_47 : decode cX10_difference 47 = .ok (.invokevirtual 164, 3) := by decide +kernel
theorem dX10_difference_50 : decode cX10_difference 50 = .ok (.ifCond .eq 10, 3) := by decide +kernel
theorem dX10_difference_53 : decode cX10_difference 53 = .ok (.aload_n 0, 1) := by decide +kernel
theorem dX10_difference_54 : decode cX10_difference 54 = .ok (.getfield 158, 3) := by decide +kernel
theorem dX10_difference_57 : decode cX10_difference 57 = .ok (.goto 5, 3) := by decide +kernel
theorem dX10_difference_60 : decode cX10_difference 60 = .ok (.ldc 151, 2) := by decide +kernel
theorem dX10_difference_62 : decode cX10_difference 62 = .ok (.ireturn, 1) := by decide +kernel
theorem dX10_along_0 : decode cX10_along 0 = .ok (.aload_n 0, 1) := by decide +kernel
theorem dX10_along_1 : decode cX10_along 1 = .ok (.iload_n 1, 1) := by decide +kernel
theorem dX10_along_2 : decode cX10_along 2 = .ok (.iconst 0, 1) := by decide +kernel
theorem dX10_along_3 : decode cX10_along 3 = .ok (.iconst 3, 1) := by decide +kernel
theorem dX10_along_4 : decode cX10_along 4 = .ok (.invokevirtual 144, 3) := by decide +kernel
theorem dX10_along_7 : decode cX10_along 7 = .ok (.istore 4, 2) := by decide +kernel
theorem dX10_along_9 : decode cX10_along 9 = .ok (.iload 4, 2) := by decide +kernel
theorem dX10_along_11 : decode cX10_along 11 = .ok (.ifCond .ne 12, 3) := by decide +kernel
theorem dX10_along_14 : decode cX10_along 14 = .ok (.aload_n 0, 1) := by decide +kernel
theorem dX10_along_15 : decode cX10_along 15 = .ok (.iload_n 2, 1) := by decide +kernel
theorem dX10_along_16 : decode cX10_along 16 = .ok (.iconst 0, 1) := by decide +kernel
theorem dX10_along_17 : decode cX10_along 17 = .ok (.iconst 3, 1) := by decide +kernel
theorem dX10_along_18 : decode cX10_along 18 = .ok (.invokevirtual 144, 3) := by decide +kernel
theorem dX10_along_21 : decode cX10_along 21 = .ok (.istore 4, 2) := by decide +kernel
theorem dX10_along_23 : decode cX10_along 23 = .ok (.iload 4, 2) := by decide +kernel
theorem dX10_along_25 : decode cX10_along 25 = .ok (.ifCond .eq 6, 3) := by decide +kernel
theorem dX10_along_28 : decode cX10_along 28 = .ok (.iload 4, 2) := by decide +kernel
theorem dX10_along_30 : decode cX10_along 30 = .ok (.ireturn, 1) := by decide +kernel
theorem dX10_along_31 : decode cX10_along 31 = .ok (.iload_n 3, 1) := by decide +kernel
theorem dX10_along_32 : decode cX10_along 32 = .ok (.iconst 0, 1) := by decide +kernel
theorem dX10_along_33 : decode cX10_along 33 = .ok (.aload_n 0, 1) := by decide +kernel
theorem dX10_along_34 : decode cX10_along 34 = .ok (.getfield 137, 3) := by decide +kernel
theorem dX10_along_37 : decode cX10_along 37 = .ok (.invokestatic 129, 3) := by decide +kernel
theorem dX10_along_40 : decode cX10_along 40 = .ok (.ifCond .eq 13, 3) := by decide +kernel
theorem dX10_along_43 : decode cX10_along 43 = .ok (.aload_n 0, 1) := by decide +kernel
theorem dX10_along_44 : decode cX10_along 44 = .ok (.iload_n 1, 1) := by decide +kernel
theorem dX10_along_45 : decode cX10_along 45 = .ok (.iload_n 2, 1) := by decide +kernel
theorem dX10_along_46 : decode cX10_along 46 = .ok (.iload_n 3, 1) := by decide +kernel
theorem dX10_along_47 : decode cX10_along 47 = .ok (.invokevirtual 164, 3) := by decide +kernel
theorem dX10_along_50 : decode cX10_along 50 = .ok (.ifCond .ne 5, 3) := by decide +kernel
theorem dX10_along_53 : decode cX10_along 53 = .ok (.iconst (-1), 1) := by decide +kernel
theorem dX10_along_54 : decode cX10_along 54 = .ok (.ireturn, 1) := by decide +kernel
theorem dX10_along_55 : decode cX10_along 55 = .ok (.aload_n 0, 1) := by decide +kernel
theorem dX10_along_56 : decode cX10_along 56 = .ok (.aload_n 0, 1) := by decide +kernel
theorem dX10_along_57 : decode cX10_along 57 = .ok (.getfield 155, 3) := by decide +kernel
theorem dX10_along_60 : decode cX10_along 60 = .ok (.putfield 167, 3) := by decide +kernel
theorem dX10_along_63 : decode cX10_along 63 = .ok (.iconst 0, 1) := by decide +kernel
theorem dX10_along_64 : decode cX10_along 64 = .ok (.istore 5, 2) := by decide +kernel
theorem dX10_along_66 : decode cX10_along 66 = .ok (.iload 5, 2) := by decide +kernel
theorem dX10_along_68 : decode cX10_along 68 = .ok (.aload_n 0, 1) := by decide +kernel
theorem dX10_along_69 : decode cX10_along 69 = .ok (.getfield 167, 3) := by decide +kernel
theorem dX10_along_72 : decode cX10_along 72 = .ok (.if_icmp .ge 23, 3) := by decide +kernel
theorem dX10_along_75 : decode cX10_along 75 = .ok (.aload_n 0, 1) := by decide +kernel
theorem dX10_along_76 : decode cX10_along 76 = .ok (.getfield 123, 3) := by decide +kernel
theorem dX10_along_79 : decode cX10_along 79 = .ok (.iload 5, 2) := by decide +kernel
theorem dX10_along_81 : decode cX10_along 81 = .ok (.aload_n 0, 1) := by decide +kernel
theorem dX10_along_82 : decode cX10_along 82 = .ok (.getfield 120, 3) := by decide +kernel
theorem dX10_along_85 : decode cX10_along 85 = .ok (.iload 5, 2) := by decide +kernel
theorem dX10_along_87 : decode cX10_along 87 = .ok (.iaload, 1) := by decide +kernel
theorem dX10_along_88 : decode cX10_along 88 = .ok (.iastore, 1) := by decide +kernel
theorem dX10_along_89 : decode cX10_along 89 = .ok (.iinc 5 1, 3) := by decide +kernel
theorem dX10_along_92 : decode cX10_along 92 = .ok (.goto (-26), 3) := by decide +kernel
theorem dX10_along_95 : decode cX10_along 95 = .ok (.aload_n 0, 1) := by decide +kernel
theorem dX10_along_96 : decode cX10_along 96 = .ok (.getfield 167, 3) := by decide +kernel
theorem dX10_along_99 : decode cX10_along 99 = .ok (.ireturn, 1) := by decide +kernel
theorem dX10_link_0 : decode cX10_link 0 = .ok (.iload_n 1, 1) := by decide +kernel
theorem dX10_link_1 : decode cX10_link 1 = .ok (.iconst 0, 1) := by decide +kernel
theorem dX10_link_2 : decode cX10_link 2 = .ok (.aload_n 0, 1) := by decide +kernel
theorem dX10_link_3 : decode cX10_link 3 = .ok (.getfield 167, 3) := by decide +kernel
theorem dX10_link_6 : decode cX10_link 6 = .ok (.iconst 1, 1) := by decide +kernel
theorem dX10_link_7 : decode cX10_link 7 = .ok (.isub, 1) := by decide +kernel
theorem dX10_link_8 : decode cX10_link 8 = .ok (.invokestatic 129, 3) := by decide +kernel
theorem dX10_link_11 : decode cX10_link 11 = .ok (.ifCond .eq 12, 3) := by decide +kernel
theorem dX10_link_14 : decode cX10_link 14 = .ok (.aload_n 0, 1) := by decide +kernel
theorem dX10_link_15 : decode cX10_link 15 = .ok (.getfield 123, 3) := by decide +kernel
theorem dX10_link_18 : decode cX10_link 18 = .ok (.iload_n 1, 1) := by decide +kernel
theorem dX10_link_19 : decode cX10_link 19 = .ok (.iaload, 1) := by decide +kernel
theorem dX10_link_20 : decode cX10_link 20 = .ok (.goto 4, 3) := by decide +kernel
theorem dX10_link_23 : decode cX10_link 23 = .ok (.iconst (-1), 1) := by decide +kernel
theorem dX10_link_24 : decode cX10_link 24 = .ok (.ireturn, 1) := by decide +kernel
theorem dX10_take_0 : decode cX10_take 0 = .ok (.aload_n 0, 1) := by decide +kernel
theorem dX10_take_1 : decode cX10_take 1 = .ok (.iload_n 1, 1) := by decide +kernel
theorem dX10_take_2 : decode cX10_take 2 = .ok (.iconst 0, 1) := by decide +kernel
theorem dX10_take_3 : decode cX10_take 3 = .ok (.iconst 3, 1) := by decide +kernel
theorem dX10_take_4 : decode cX10_take 4 = .ok (.invokevirtual 144, 3) := by decide +kernel
theorem dX10_take_7 : decode cX10_take 7 = .ok (.istore_n 2, 1) := by decide +kernel
theorem dX10_take_8 : decode cX10_take 8 = .ok (.iload_n 2, 1) := by decide +kernel
theorem dX10_take_9 : decode cX10_take 9 = .ok (.ifCond .eq 5, 3) := by decide +kernel
theorem dX10_take_12 : decode cX10_take 12 = .ok (.iload_n 2, 1) := by decide +kernel
theorem dX10_take_13 : decode cX10_take 13 = .ok (.ireturn, 1) := by decide +kernel
theorem dX10_take_14 : decode cX10_take 14 = .ok (.aload_n 0, 1) := by decide +kernel
theorem dX10_take_15 : decode cX10_take 15 = .ok (.getfield 19, 3) := by decide +kernel
theorem dX10_take_18 : decode cX10_take 18 = .ok (.iload_n 1, 1) := by decide +kernel
theorem dX10_take_19 : decode cX10_take 19 = .ok (.iconst 1, 1) := by decide +kernel
theorem dX10_take_20 : decode cX10_take 20 = .ok (.bastore, 1) := by decide +kernel
theorem dX10_take_21 : decode cX10_take 21 = .ok (.aload_n 0, 1) := by decide +kernel
theorem dX10_take_22 : decode cX10_take 22 = .ok (.getfield 32, 3) := by decide +kernel
theorem dX10_take_25 : decode cX10_take 25 = .ok (.iload_n 1, 1) := by decide +kernel
theorem dX10_take_26 : decode cX10_take 26 = .ok (.aload_n 0, 1) := by decide +kernel
theorem dX10_take_27 : decode cX10_take 27 = .ok (.getfield 137, 3) := by decide +kernel
theorem dX10_take_30 : decode cX10_take 30 = .ok (.iastore, 1) := by decide +kernel
theorem dX10_take_31 : decode cX10_take 31 = .ok (.aload_n 0, 1) := by decide +kernel
theorem dX10_take_32 : decode cX10_take 32 = .ok (.getfield 26, 3) := by decide +kernel
theorem dX10_take_35 : decode cX10_take 35 = .ok (.iload_n 1, 1) := by decide +kernel
theorem dX10_take_36 : decode cX10_take 36 = .ok (.iconst 0, 1) := by decide +kernel
theorem dX10_take_37 : decode cX10_take 37 = .ok (.bastore, 1) := by decide +kernel
theorem dX10_take_38 : decode cX10_take 38 = .ok (.aload_n 0, 1) := by decide +kernel
theorem dX10_take_39 : decode cX10_take 39 = .ok (.getfield 35, 3) := by decide +kernel
theorem dX10_take_42 : decode cX10_take 42 = .ok (.iload_n 1, 1) := by decide +kernel
theorem dX10_take_43 : decode cX10_take 43 = .ok (.bipush (-9), 2) := by decide +kernel
theorem dX10_take_45 : decode cX10_take 45 = .ok (.iastore, 1) := by decide +kernel
theorem dX10_take_46 : decode cX10_take 46 = .ok (.iconst 1, 1) := by decide +kernel
theorem dX10_take_47 : decode cX10_take 47 = .ok (.ireturn, 1) := by decide +kernel
theorem dX10_leave_0 : decode cX10_leave 0 = .ok (.aload_n 0, 1) := by decide +kernel
theorem dX10_leave_1 : decode cX10_leave 1 = .ok (.iload_n 1, 1) := by decide +kernel
theorem dX10_leave_2 : decode cX10_leave 2 = .ok (.iconst 0, 1) := by decide +kernel
theorem dX10_leave_3 : decode cX10_leave 3 = .ok (.iconst 3, 1) := by decide +kernel
theorem dX10_leave_4 : decode cX10_leave 4 = .ok (.invokevirtual 144, 3) := by decide +kernel
theorem dX10_leave_7 : decode cX10_leave 7 = .ok (.istore_n 2, 1) := by decide +kernel
theorem dX10_leave_8 : decode cX10_leave 8 = .ok (.iload_n 2, 1) := by decide +kernel
theorem dX10_leave_9 : decode cX10_leave 9 = .ok (.ifCond .eq 5, 3) := by decide +kernel
theorem dX10_leave_12 : decode cX10_leave 12 = .ok (.iload_n 2, 1) := by decide +kernel
theorem dX10_leave_13 : decode cX10_leave 13 = .ok (.ireturn, 1) := by decide +kernel
theorem dX10_leave_14 : decode cX10_leave 14 = .ok (.aload_n 0, 1) := by decide +kernel
theorem dX10_leave_15 : decode cX10_leave 15 = .ok (.getfield 19, 3) := by decide +kernel
theorem dX10_leave_18 : decode cX10_leave 18 = .ok (.iload_n 1, 1) := by decide +kernel
theorem dX10_leave_19 : decode cX10_leave 19 = .ok (.baload, 1) := by decide +kernel
theorem dX10_leave_20 : decode cX10_leave 20 = .ok (.ifCond .eq 7, 3) := by decide +kernel
theorem dX10_leave_23 : decode cX10_leave 23 = .ok (.iconst 1, 1) := by decide +kernel
theorem dX10_leave_24 : decode cX10_leave 24 = .ok (.goto 4, 3) := by decide +kernel
theorem dX10_leave_27 : decode cX10_leave 27 = .ok (.iconst 0, 1) := by decide +kernel
theorem dX10_leave_28 : decode cX10_leave 28 = .ok (.istore_n 3, 1) := by decide +kernel
theorem dX10_leave_29 : decode cX10_leave 29 = .ok (.aload_n 0, 1) := by decide +kernel
theorem dX10_leave_30 : decode cX10_leave 30 = .ok (.getfield 19, 3) := by decide +kernel
theorem dX10_leave_33 : decode cX10_leave 33 = .ok (.iload_n 1, 1) := by decide +kernel
theorem dX10_leave_34 : decode cX10_leave 34 = .ok (.iconst 0, 1) := by decide +kernel
theorem dX10_leave_35 : decode cX10_leave 35 = .ok (.bastore, 1) := by decide +kernel
theorem dX10_leave_36 : decode cX10_leave 36 = .ok (.iload_n 3, 1) := by decide +kernel
theorem dX10_leave_37 : decode cX10_leave 37 = .ok (.ireturn, 1) := by decide +kernel
theorem dX10_call_0 : decode cX10_call 0 = .ok (.aload_n 0, 1) := by decide +kernel
theorem dX10_call_1 : decode cX10_call 1 = .ok (.iload_n 1, 1) := by decide +kernel
theorem dX10_call_2 : decode cX10_call 2 = .ok (.iconst 3, 1) := by decide +kernel
theorem dX10_call_3 : decode cX10_call 3 = .ok (.iconst 3, 1) := by decide +kernel
theorem dX10_call_4 : decode cX10_call 4 = .ok (.invokevirtual 144, 3) := by decide +kernel
theorem dX10_call_7 : decode cX10_call 7 = .ok (.istore_n 3, 1) := by decide +kernel
theorem dX10_call_8 : decode cX10_call 8 = .ok (.iload_n 3, 1) := by decide +kernel
theorem dX10_call_9 : decode cX10_call 9 = .ok (.ifCond .eq 5, 3) := by decide +kernel
theorem dX10_call_12 : decode cX10_call 12 = .ok (.iload_n 3, 1) := by decide +kernel
theorem dX10_call_13 : decode cX10_call 13 = .ok (.ireturn, 1) := by decide +kernel
theorem dX10_call_14 : decode cX10_call 14 = .ok (.aload_n 0, 1) := by decide +kernel
theorem dX10_call_15 : decode cX10_call 15 = .ok (.getfield 23, 3) := by decide +kernel
theorem dX10_call_18 : decode cX10_call 18 = .ok (.iload_n 1, 1) := by decide +kernel
theorem dX10_call_19 : decode cX10_call 19 = .ok (.iload_n 2, 1) := by decide +kernel
theorem dX10_call_20 : decode cX10_call 20 = .ok (.bastore, 1) := by decide +kernel
theorem dX10_call_21 : decode cX10_call 21 = .ok (.iconst 1, 1) := by decide +kernel
theorem dX10_call_22 : decode cX10_call 22 = .ok (.ireturn, 1) := by decide +kernel
theorem dX10_steer_0 : decode cX10_steer 0 = .ok (.aload_n 0, 1) := by decide +kernel
theorem dX10_steer_1 : decode cX10_steer 1 = .ok (.iload_n 1, 1) := by decide +kernel
theorem dX10_steer_2 : decode cX10_steer 2 = .ok (.iconst 0, 1) := by decide +kernel
theorem dX10_steer_3 : decode cX10_steer 3 = .ok (.iconst 3, 1) := by decide +kernel
theorem dX10_steer_4 : decode cX10_steer 4 = .ok (.invokevirtual 144, 3) := by decide +kernel
theorem dX10_steer_7 : decode cX10_steer 7 = .ok (.istore_n 3, 1) := by decide +kernel
theorem dX10_steer_8 : decode cX10_steer 8 = .ok (.iload_n 3, 1) := by decide +kernel
theorem dX10_steer_9 : decode cX10_steer 9 = .ok (.ifCond .eq 5, 3) := by decide +kernel
theorem dX10_steer_12 : decode cX10_steer 12 = .ok (.iload_n 3, 1) := by decide +kernel
theorem dX10_steer_13 : decode cX10_steer 13 = .ok (.ireturn, 1) := by decide +kernel
theorem dX10_steer_14 : decode cX10_steer 14 = .ok (.aload_n 0, 1) := by decide +kernel
theorem dX10_steer_15 : decode cX10_steer 15 = .ok (.getfield 9, 3) := by decide +kernel
theorem dX10_steer_18 : decode cX10_steer 18 = .ok (.iload_n 1, 1) := by decide +kernel
theorem dX10_steer_19 : decode cX10_steer 19 = .ok (.iaload, 1) := by decide +kernel
theorem dX10_steer_20 : decode cX10_steer 20 = .ok (.iconst 1, 1) := by decide +kernel
theorem dX10_steer_21 : decode cX10_steer 21 = .ok (.if_icmp .eq 16, 3) := by decide +kernel
theorem dX10_steer_24 : decode cX10_steer 24 = .ok (.aload_n 0, 1) := by decide +kernel
theorem dX10_steer_25 : decode cX10_steer 25 = .ok (.getfield 9, 3) := by decide +kernel
theorem dX10_steer_28 : decode cX10_steer 28 = .ok (.iload_n 1, 1) := by decide +kernel
theorem dX10_steer_29 : decode cX10_steer 29 = .ok (.iaload, 1) := by decide +kernel
theorem dX10_steer_30 : decode cX10_steer 30 = .ok (.iconst 3, 1) := by decide +kernel
theorem dX10_steer_31 : decode cX10_steer 31 = .ok (.if_icmp .eq 6, 3) := by decide +kernel
theorem dX10_steer_34 : decode cX10_steer 34 = .ok (.bipush (-2), 2) := by decide +kernel
theorem dX10_steer_36 : decode cX10_steer 36 = .ok (.ireturn, 1) := by decide +kernel
theorem dX10_steer_37 : decode cX10_steer 37 = .ok (.iload_n 2, 1) := by decide +kernel
theorem dX10_steer_38 : decode cX10_steer 38 = .ok (.sipush (-10000), 3) := by decide +kernel
theorem dX10_steer_41 : decode cX10_steer 41 = .ok (.sipush 10000, 3) := by decide +kernel
theorem dX10_steer_44 : decode cX10_steer 44 = .ok (.invokestatic 129, 3) := by decide +kernel
theorem dX10_steer_47 : decode cX10_steer 47 = .ok (.ifCond .eq 21, 3) := by decide +kernel
theorem dX10_steer_50 : decode cX10_steer 50 = .ok (.aload_n 0, 1) := by decide +kernel
theorem dX10_steer_51 : decode cX10_steer 51 = .ok (.getfield 29, 3) := by decide +kernel
theorem dX10_steer_54 : decode cX10_steer 54 = .ok (.iload_n 1, 1) := by decide +kernel
theorem dX10_steer_55 : decode cX10_steer 55 = .ok (.iaload, 1) := by decide +kernel
theorem dX10_steer_56 : decode cX10_steer 56 = .ok (.iload_n 2, 1) := by decide +kernel
theorem dX10_steer_57 : decode cX10_steer 57 = .ok (.iadd, 1) := by decide +kernel
theorem dX10_steer_58 : decode cX10_steer 58 = .ok (.ldc 170, 2) := by decide +kernel
theorem dX10_steer_60 : decode cX10_steer 60 = .ok (.ldc 171, 2) := by decide +kernel
theorem dX10_steer_62 : decode cX10_steer 62 = .ok (.invokestatic 129, 3) := by decide +kernel
theorem dX10_steer_65 : decode cX10_steer 65 = .ok (.ifCond .ne 6, 3) := by decide +kernel
theorem dX10_steer_68 : decode cX10_steer 68 = .ok (.ldc 151, 2) := by decide +kernel
theorem dX10_steer_70 : decode cX10_steer 70 = .ok (.ireturn, 1) := by decide +kernel
theorem dX10_steer_71 : decode cX10_steer 71 = .ok (.aload_n 0, 1) := by decide +kernel
theorem dX10_steer_72 : decode cX10_steer 72 = .ok (.getfield 29, 3) := by decide +kernel
theorem dX10_steer_75 : decode cX10_steer 75 = .ok (.iload_n 1, 1) := by decide +kernel
theorem dX10_steer_76 : decode cX10_steer 76 = .ok (.dup2, 1) := by decide +kernel
theorem dX10_steer_77 : decode cX10_steer 77 = .ok (.iaload, 1) := by decide +kernel
theorem dX10_steer_78 : decode cX10_steer 78 = .ok (.iload_n 2, 1) := by decide +kernel
theorem dX10_steer_79 : decode cX10_steer 79 = .ok (.iadd, 1) := by decide +kernel
theorem dX10_steer_80 : decode cX10_steer 80 = .ok (.iastore, 1) := by decide +kernel
theorem dX10_steer_81 : decode cX10_steer 81 = .ok (.aload_n 0, 1) := by decide +kernel
theorem dX10_steer_82 : decode cX10_steer 82 = .ok (.getfield 29, 3) := by decide +kernel
theorem dX10_steer_85 : decode cX10_steer 85 = .ok (.iload_n 1, 1) := by decide +kernel
theorem dX10_steer_86 : decode cX10_steer 86 = .ok (.iaload, 1) := by decide +kernel
theorem dX10_steer_87 : decode cX10_steer 87 = .ok (.ireturn, 1) := by decide +kernel
theorem dX10_set_0 : decode cX10_set 0 = .ok (.iload_n 1, 1) := by decide +kernel
theorem dX10_set_1 : decode cX10_set 1 = .ok (.ifCond .ne 21, 3) := by decide +kernel
theorem dX10_set_4 : decode cX10_set 4 = .ok (.iload_n 2, 1) := by decide +kernel
theorem dX10_set_5 : decode cX10_set 5 = .ok (.iconst 1, 1) := by decide +kernel
theorem dX10_set_6 : decode cX10_set 6 = .ok (.bipush 100, 2) := by decide +kernel
theorem dX10_set_8 : decode cX10_set 8 = .ok (.invokestatic 129, 3) := by decide +kernel
theorem dX10_set_11 : decode cX10_set 11 = .ok (.ifCond .eq 11, 3) := by decide +kernel
theorem dX10_set_14 : decode cX10_set 14 = .ok (.aload_n 0, 1) := by decide +kernel
theorem dX10_set_15 : decode cX10_set 15 = .ok (.iload_n 2, 1) := by decide +kernel
theorem dX10_set_16 : decode cX10_set 16 = .ok (.putfield 98, 3) := by decide +kernel
theorem dX10_set_19 : decode cX10_set 19 = .ok (.goto 52, 3) := by decide +kernel
theorem dX10_set_22 : decode cX10_set 22 = .ok (.iload_n 1, 1) := by decide +kernel
theorem dX10_set_23 : decode cX10_set 23 = .ok (.iconst 1, 1) := by decide +kernel
theorem dX10_set_24 : decode cX10_set 24 = .ok (.if_icmp .ne 21, 3) := by decide +kernel
theorem dX10_set_27 : decode cX10_set 27 = .ok (.iload_n 2, 1) := by decide +kernel
theorem dX10_set_28 : decode cX10_set 28 = .ok (.iconst 2, 1) := by decide +kernel
theorem dX10_set_29 : decode cX10_set 29 = .ok (.bipush 20, 2) := by decide +kernel
theorem dX10_set_31 : decode cX10_set 31 = .ok (.invokestatic 129, 3) := by decide +kernel
theorem dX10_set_34 : decode cX10_set 34 = .ok (.ifCond .eq 11, 3) := by decide +kernel
theorem dX10_set_37 : decode cX10_set 37 = .ok (.aload_n 0, 1) := by decide +kernel
theorem dX10_set_38 : decode cX10_set 38 = .ok (.iload_n 2, 1) := by decide +kernel
theorem dX10_set_39 : decode cX10_set 39 = .ok (.putfield 102, 3) := by decide +kernel
theorem dX10_set_42 : decode cX10_set 42 = .ok (.goto 29, 3) := by decide +kernel
theorem dX10_set_45 : decode cX10_set 45 = .ok (.iload_n 1, 1) := by decide +kernel
theorem dX10_set_46 : decode cX10_set 46 = .ok (.iconst 2, 1) := by decide +kernel
theorem dX10_set_47 : decode cX10_set 47 = .ok (.if_icmp .ne 22, 3) := by decide +kernel
theorem dX10_set_50 : decode cX10_set 50 = .ok (.iload_n 2, 1) := by decide +kernel
theorem dX10_set_51 : decode cX10_set 51 = .ok (.iconst 0, 1) := by decide +kernel
theorem dX10_set_52 : decode cX10_set 52 = .ok (.sipush 3599, 3) := by decide +kernel
theorem dX10_set_55 : decode cX10_set 55 = .ok (.invokestatic 129, 3) := by decide +kernel
theorem dX10_set_58 : decode cX10_set 58 = .ok (.ifCond .eq 11, 3) := by decide +kernel
theorem dX10_set_61 : decode cX10_set 61 = .ok (.aload_n 0, 1) := by decide +kernel
theorem dX10_set_62 : decode cX10_set 62 = .ok (.iload_n 2, 1) := by decide +kernel
theorem dX10_set_63 : decode cX10_set 63 = .ok (.putfield 105, 3) := by decide +kernel
theorem dX10_set_66 : decode cX10_set 66 = .ok (.goto 5, 3) := by decide +kernel
theorem dX10_set_69 : decode cX10_set 69 = .ok (.iconst 0, 1) := by decide +kernel
theorem dX10_set_70 : decode cX10_set 70 = .ok (.ireturn, 1) := by decide +kernel
theorem dX10_set_71 : decode cX10_set 71 = .ok (.iconst 1, 1) := by decide +kernel
theorem dX10_set_72 : decode cX10_set 72 = .ok (.ireturn, 1) := by decide +kernel
theorem dX10_isTaken_0 : decode cX10_isTaken 0 = .ok (.aload_n 0, 1) := by decide +kernel
theorem dX10_isTaken_1 : decode cX10_isTaken 1 = .ok (.iload_n 1, 1) := by decide +kernel
theorem dX10_isTaken_2 : decode cX10_isTaken 2 = .ok (.invokevirtual 133, 3) := by decide +kernel
theorem dX10_isTaken_5 : decode cX10_isTaken 5 = .ok (.ifCond .eq 35, 3) := by decide +kernel
theorem dX10_isTaken_8 : decode cX10_isTaken 8 = .ok (.aload_n 0, 1) := by decide +kernel
theorem dX10_isTaken_9 : decode cX10_isTaken 9 = .ok (.getfield 19, 3) := by decide +kernel
theorem dX10_isTaken_12 : decode cX10_isTaken 12 = .ok (.iload_n 1, 1) := by decide +kernel
theorem dX10_isTaken_13 : decode cX10_isTaken 13 = .ok (.baload, 1) := by decide +kernel
theorem dX10_isTaken_14 : decode cX10_isTaken 14 = .ok (.ifCond .eq 26, 3) := by decide +kernel
theorem dX10_isTaken_17 : decode cX10_isTaken 17 = .ok (.aload_n 0, 1) := by decide +kernel
theorem dX10_isTaken_18 : decode cX10_isTaken 18 = .ok (.getfield 9, 3) := by decide +kernel
theorem dX10_isTaken_21 : decode cX10_isTaken 21 = .ok (.iload_n 1, 1) := by decide +kernel
theorem dX10_isTaken_22 : decode cX10_isTaken 22 = .ok (.iaload, 1) := by decide +kernel
theorem dX10_isTaken_23 : decode cX10_isTaken 23 = .ok (.iconst 3, 1) := by decide +kernel
theorem dX10_isTaken_24 : decode cX10_isTaken 24 = .ok (.if_icmp .ne 12, 3) := by decide +kernel
theorem dX10_isTaken_27 : decode cX10_isTaken 27 = .ok (.aload_n 0, 1) := by decide +kernel
theorem dX10_isTaken_28 : decode cX10_isTaken 28 = .ok (.getfield 23, 3) := by decide +kernel
theorem dX10_isTaken_31 : decode cX10_isTaken 31 = .ok (.iload_n 1, 1) := by decide +kernel
theorem dX10_isTaken_32 : decode cX10_isTaken 32 = .ok (.baload, 1) := by decide +kernel
theorem dX10_isTaken_33 : decode cX10_isTaken 33 = .ok (.ifCond .eq 7, 3) := by decide +kernel
theorem dX10_isTaken_36 : decode cX10_isTaken 36 = .ok (.iconst 1, 1) := by decide +kernel
theorem dX10_isTaken_37 : decode cX10_isTaken 37 = .ok (.goto 4, 3) := by decide +kernel
theorem dX10_isTaken_40 : decode cX10_isTaken 40 = .ok (.iconst 0, 1) := by decide +kernel
theorem dX10_isTaken_41 : decode cX10_isTaken 41 = .ok (.ireturn, 1) := by decide +kernel
theorem dX10_isX_0 : decode cX10_isX 0 = .ok (.iload_n 1, 1) := by decide +kernel
theorem dX10_isX_1 : decode cX10_isX 1 = .ok (.aload_n 0, 1) := by decide +kernel
theorem dX10_isX_2 : decode cX10_isX 2 = .ok (.getfield 32, 3) := by decide +kernel
theorem dX10_isX_5 : decode cX10_isX 5 = .ok (.iload_n 2, 1) := by decide +kernel
theorem dX10_isX_6 : decode cX10_isX 6 = .ok (.iaload, 1) := by decide +kernel
theorem dX10_isX_7 : decode cX10_isX 7 = .ok (.if_icmp .lt 35, 3) := by decide +kernel
theorem dX10_isX_10 : decode cX10_isX 10 = .ok (.iload_n 1, 1) := by decide +kernel
theorem dX10_isX_11 : decode cX10_isX 11 = .ok (.iconst 0, 1) := by decide +kernel
theorem dX10_isX_12 : decode cX10_isX 12 = .ok (.aload_n 0, 1) := by decide +kernel
theorem dX10_isX_13 : decode cX10_isX 13 = .ok (.getfield 137, 3) := by decide +kernel
theorem dX10_isX_16 : decode cX10_isX 16 = .ok (.iconst 1, 1) := by decide +kernel
theorem dX10_isX_17 : decode cX10_isX 17 = .ok (.isub, 1) := by decide +kernel
theorem dX10_isX_18 : decode cX10_isX 18 = .ok (.invokestatic 129, 3) := by decide +kernel
theorem dX10_isX_21 : decode cX10_isX 21 = .ok (.ifCond .eq 21, 3) := by decide +kernel
theorem dX10_isX_24 : decode cX10_isX 24 = .ok (.aload_n 0, 1) := by decide +kernel
theorem dX10_isX_25 : decode cX10_isX 25 = .ok (.getfield 59, 3) := by decide +kernel
theorem dX10_isX_28 : decode cX10_isX 28 = .ok (.aload_n 0, 1) := by decide +kernel
theorem dX10_isX_29 : decode cX10_isX 29 = .ok (.iload_n 1, 1) := by decide +kernel
theorem dX10_isX_30 : decode cX10_isX 30 = .ok (.iload_n 2, 1) := by decide +kernel
theorem dX10_isX_31 : decode cX10_isX 31 = .ok (.invokevirtual 140, 3) := by decide +kernel
theorem dX10_isX_34 : decode cX10_isX 34 = .ok (.baload, 1) := by decide +kernel
theorem dX10_isX_35 : decode cX10_isX 35 = .ok (.ifCond .eq 7, 3) := by decide +kernel
theorem dX10_isX_38 : decode cX10_isX 38 = .ok (.iconst 1, 1) := by decide +kernel
theorem dX10_isX_39 : decode cX10_isX 39 = .ok (.goto 4, 3) := by decide +kernel
theorem dX10_isX_42 : decode cX10_isX 42 = .ok (.iconst 0, 1) := by decide +kernel
theorem dX10_isX_43 : decode cX10_isX 43 = .ok (.ireturn, 1) := by decide +kernel
theorem dX10_isMissed_0 : decode cX10_isMissed 0 = .ok (.aload_n 0, 1) := by decide +kernel
theorem dX10_isMissed_1 : decode cX10_isMissed 1 = .ok (.iload_n 1, 1) := by decide +kernel
theorem dX10_isMissed_2 : decode cX10_isMissed 2 = .ok (.iload_n 2, 1) := by decide +kernel
theorem dX10_isMissed_3 : decode cX10_isMissed 3 = .ok (.invokevirtual 172, 3) := by decide +kernel
theorem dX10_isMissed_6 : decode cX10_isMissed 6 = .ok (.ifCond .eq 21, 3) := by decide +kernel
theorem dX10_isMissed_9 : decode cX10_isMissed 9 = .ok (.aload_n 0, 1) := by decide +kernel
theorem dX10_isMissed_10 : decode cX10_isMissed 10 = .ok (.getfield 62, 3) := by decide +kernel
theorem dX10_isMissed_13 : decode cX10_isMissed 13 = .ok (.aload_n 0, 1) := by decide +kernel
theorem dX10_isMissed_14 : decode cX10_isMissed 14 = .ok (.iload_n 1, 1) := by decide +kernel
theorem dX10_isMissed_15 : decode cX10_isMissed 15 = .ok (.iload_n 2, 1) := by decide +kernel
theorem dX10_isMissed_16 : decode cX10_isMissed 16 = .ok (.invokevirtual 140, 3) := by decide +kernel
theorem dX10_isMissed_19 : decode cX10_isMissed 19 = .ok (.baload, 1) := by decide +kernel
theorem dX10_isMissed_20 : decode cX10_isMissed 20 = .ok (.ifCond .eq 7, 3) := by decide +kernel
theorem dX10_isMissed_23 : decode cX10_isMissed 23 = .ok (.iconst 1, 1) := by decide +kernel
theorem dX10_isMissed_24 : decode cX10_isMissed 24 = .ok (.goto 4, 3) := by decide +kernel
theorem dX10_isMissed_27 : decode cX10_isMissed 27 = .ok (.iconst 0, 1) := by decide +kernel
theorem dX10_isMissed_28 : decode cX10_isMissed 28 = .ok (.ireturn, 1) := by decide +kernel
theorem dX10_isGain_0 : decode cX10_isGain 0 = .ok (.aload_n 0, 1) := by decide +kernel
theorem dX10_isGain_1 : decode cX10_isGain 1 = .ok (.iload_n 1, 1) := by decide +kernel
theorem dX10_isGain_2 : decode cX10_isGain 2 = .ok (.iload_n 2, 1) := by decide +kernel
theorem dX10_isGain_3 : decode cX10_isGain 3 = .ok (.invokevirtual 172, 3) := by decide +kernel
theorem dX10_isGain_6 : decode cX10_isGain 6 = .ok (.ifCond .eq 35, 3) := by decide +kernel
theorem dX10_isGain_9 : decode cX10_isGain 9 = .ok (.aload_n 0, 1) := by decide +kernel
theorem dX10_isGain_10 : decode cX10_isGain 10 = .ok (.iload_n 1, 1) := by decide +kernel
theorem dX10_isGain_11 : decode cX10_isGain 11 = .ok (.iconst 1, 1) := by decide +kernel
theorem dX10_isGain_12 : decode cX10_isGain 12 = .ok (.isub, 1) := by decide +kernel
theorem dX10_isGain_13 : decode cX10_isGain 13 = .ok (.iload_n 2, 1) := by decide +kernel
theorem dX10_isGain_14 : decode cX10_isGain 14 = .ok (.invokevirtual 172, 3) := by decide +kernel
theorem dX10_isGain_17 : decode cX10_isGain 17 = .ok (.ifCond .eq 24, 3) := by decide +kernel
theorem dX10_isGain_20 : decode cX10_isGain 20 = .ok (.iload_n 1, 1) := by decide +kernel
theorem dX10_isGain_21 : decode cX10_isGain 21 = .ok (.iconst 1, 1) := by decide +kernel
theorem dX10_isGain_22 : decode cX10_isGain 22 = .ok (.isub, 1) := by decide +kernel
theorem dX10_isGain_23 : decode cX10_isGain 23 = .ok (.aload_n 0, 1) := by decide +kernel
theorem dX10_isGain_24 : decode cX10_isGain 24 = .ok (.getfield 137, 3) := by decide +kernel
theorem dX10_isGain_27 : decode cX10_isGain 27 = .ok (.aload_n 0, 1) := by decide +kernel
theorem dX10_isGain_28 : decode cX10_isGain 28 = .ok (.getfield 13, 3) := by decide +kernel
theorem dX10_isGain_31 : decode cX10_isGain 31 = .ok (.iload_n 2, 1) := by decide +kernel
theorem dX10_isGain_32 : decode cX10_isGain 32 = .ok (.iaload, 1) := by decide +kernel
theorem dX10_isGain_33 : decode cX10_isGain 33 = .ok (.isub, 1) := by decide +kernel
theorem dX10_isGain_34 : decode cX10_isGain 34 = .ok (.if_icmp .lt 7, 3) := by decide +kernel
theorem dX10_isGain_37 : decode cX10_isGain 37 = .ok (.iconst 1, 1) := by decide +kernel
theorem dX10_isGain_38 : decode cX10_isGain 38 = .ok (.goto 4, 3) := by decide +kernel
theorem dX10_isGain_41 : decode cX10_isGain 41 = .ok (.iconst 0, 1) := by decide +kernel
theorem dX10_isGain_42 : decode cX10_isGain 42 = .ok (.ireturn, 1) := by decide +kernel
theorem dX10_downwards_0 : decode cX10_downwards 0 = .ok (.lload_n 0, 1) := by decide +kernel
theorem dX10_downwards_1 : decode cX10_downwards 1 = .ok (.lconst 0, 1) := by decide +kernel
theorem dX10_downwards_2 : decode cX10_downwards 2 = .ok (.lcmp, 1) := by decide +kernel
theorem dX10_downwards_3 : decode cX10_downwards 3 = .ok (.ifCond .lt 9, 3) := by decide +kernel
theorem dX10_downwards_6 : decode cX10_downwards 6 = .ok (.lload_n 0, 1) := by decide +kernel
theorem dX10_downwards_7 : decode cX10_downwards 7 = .ok (.lload_n 2, 1) := by decide +kernel
theorem dX10_downwards_8 : decode cX10_downwards 8 = .ok (.ldiv, 1) := by decide +kernel
theorem dX10_downwards_9 : decode cX10_downwards 9 = .ok (.goto 12, 3) := by decide +kernel
theorem dX10_downwards_12 : decode cX10_downwards 12 = .ok (.lload_n 0, 1) := by decide +kernel
theorem dX10_downwards_13 : decode cX10_downwards 13 = .ok (.lneg, 1) := by decide +kernel
theorem dX10_downwards_14 : decode cX10_downwards 14 = .ok (.lload_n 2, 1) := by decide +kernel
theorem dX10_downwards_15 : decode cX10_downwards 15 = .ok (.ladd, 1) := by decide +kernel
theorem dX10_downwards_16 : decode cX10_downwards 16 = .ok (.lconst 1, 1) := by decide +kernel
theorem dX10_downwards_17 : decode cX10_downwards 17 = .ok (.lsub, 1) := by decide +kernel
theorem dX10_downwards_18 : decode cX10_downwards 18 = .ok (.lload_n 2, 1) := by decide +kernel
theorem dX10_downwards_19 : decode cX10_downwards 19 = .ok (.ldiv, 1) := by decide +kernel
theorem dX10_downwards_20 : decode cX10_downwards 20 = .ok (.lneg, 1) := by decide +kernel
theorem dX10_downwards_21 : decode cX10_downwards 21 = .ok (.lreturn, 1) := by decide +kernel
theorem dX10_line_0 : decode cX10_line 0 = .ok (.lconst 0, 1) := by decide +kernel
theorem dX10_line_1 : decode cX10_line 1 = .ok (.lstore_n 3, 1) := by decide +kernel
theorem dX10_line_2 : decode cX10_line 2 = .ok (.lconst 0, 1) := by decide +kernel
theorem dX10_line_3 : decode cX10_line 3 = .ok (.lstore 5, 2) := by decide +kernel
theorem dX10_line_5 : decode cX10_line 5 = .ok (.lconst 0, 1) := by decide +kernel
theorem dX10_line_6 : decode cX10_line 6 = .ok (.lstore 7, 2) := by decide +kernel
theorem dX10_line_8 : decode cX10_line 8 = .ok (.lconst 0, 1) := by decide +kernel
theorem dX10_line_9 : decode cX10_line 9 = .ok (.lstore 9, 2) := by decide +kernel
theorem dX10_line_11 : decode cX10_line 11 = .ok (.aload_n 0, 1) := by decide +kernel
theorem dX10_line_12 : decode cX10_line 12 = .ok (.iconst 0, 1) := by decide +kernel
theorem dX10_line_13 : decode cX10_line 13 = .ok (.putfield 176, 3) := by decide +kernel
theorem dX10_line_16 : decode cX10_line 16 = .ok (.aload_n 0, 1) := by decide +kernel
theorem dX10_line_17 : decode cX10_line 17 = .ok (.getfield 137, 3) := by decide +kernel
theorem dX10_line_20 : decode cX10_line 20 = .ok (.aload_n 0, 1) := by decide +kernel
theorem dX10_line_21 : decode cX10_line 21 = .ok (.getfield 13, 3) := by decide +kernel
theorem dX10_line_24 : decode cX10_line 24 = .ok (.iload_n 1, 1) := by decide +kernel
theorem dX10_line_25 : decode cX10_line 25 = .ok (.iaload, 1) := by decide +kernel
theorem dX10_line_26 : decode cX10_line 26 = .ok (.isub, 1) := by decide +kernel
theorem dX10_line_27 : decode cX10_line 27 = .ok (.istore 11, 2) := by decide +kernel
theorem dX10_line_29 : decode cX10_line 29 = .ok (.iload 11, 2) := by decide +kernel
theorem dX10_line_31 : decode cX10_line 31 = .ok (.aload_n 0, 1) := by decide +kernel
theorem dX10_line_32 : decode cX10_line 32 = .ok (.getfield 137, 3) := by decide +kernel
theorem dX10_line_35 : decode cX10_line 35 = .ok (.if_icmp .ge 142, 3) := by decide +kernel
theorem dX10_line_38 : decode cX10_line 38 = .ok (.iload_n 2, 1) := by decide +kernel
theorem dX10_line_39 : decode cX10_line 39 = .ok (.ifCond .eq 16, 3) := by decide +kernel
theorem dX10_line_42 : decode cX10_line 42 = .ok (.aload_n 0, 1) := by decide +kernel
theorem dX10_line_43 : decode cX10_line 43 = .ok (.iload 11, 2) := by decide +kernel
theorem dX10_line_45 : decode cX10_line 45 = .ok (.iload_n 1, 1) := by decide +kernel
theorem dX10_line_46 : decode cX10_line 46 = .ok (.invokevirtual 179, 3) := by decide +kernel
theorem dX10_line_49 : decode cX10_line 49 = .ok (.ifCond .ne 19, 3) := by decide +kernel
theorem dX10_line_52 : decode cX10_line 52 = .ok (.goto 119, 3) := by decide +kernel
theorem dX10_line_55 : decode cX10_line 55 = .ok (.aload_n 0, 1) := by decide +kernel
theorem dX10_line_56 : decode cX10_line 56 = .ok (.iload 11, 2) := by decide +kernel
theorem dX10_line_58 : decode cX10_line 58 = .ok (.iload_n 1, 1) := by decide +kernel
theorem dX10_line_59 : decode cX10_line 59 = .ok (.invokevirtual 172, 3) := by decide +kernel
theorem dX10_line_62 : decode cX10_line 62 = .ok (.ifCond .ne 6, 3) := by decide +kernel
theorem dX10_line_65 : decode cX10_line 65 = .ok (.goto 106, 3) := by decide +kernel
theorem dX10_line_68 : decode cX10_line 68 = .ok (.iload 11, 2) := by decide +kernel
theorem dX10_line_70 : decode cX10_line 70 = .ok (.aload_n 0, 1) := by decide +kernel
theorem dX10_line_71 : decode cX10_line 71 = .ok (.getfield 137, 3) := by decide +kernel
theorem dX10_line_74 : decode cX10_line 74 = .ok (.isub, 1) := by decide +kernel
theorem dX10_line_75 : decode cX10_line 75 = .ok (.i2l, 1) := by decide +kernel
theorem dX10_line_76 : decode cX10_line 76 = .ok (.lstore 12, 2) := by decide +kernel
theorem dX10_line_78 : decode cX10_line 78 = .ok (.iload_n 2, 1) := by decide +kernel
theorem dX10_line_79 : decode cX10_line 79 = .ok (.ifCond .eq 35, 3) := by decide +kernel
theorem dX10_line_82 : decode cX10_line 82 = .ok (.aload_n 0, 1) := by decide +kernel
theorem dX10_line_83 : decode cX10_line 83 = .ok (.getfield 65, 3) := by decide +kernel
theorem dX10_line_86 : decode cX10_line 86 = .ok (.aload_n 0, 1) := by decide +kernel
theorem dX10_line_87 : decode cX10_line 87 = .ok (.iload 11, 2) := by decide +kernel
theorem dX10_line_89 : decode cX10_line 89 = .ok (.iload_n 1, 1) := by decide +kernel
theorem dX10_line_90 : decode cX10_line 90 = .ok (.invokevirtual 140, 3) := by decide +kernel
theorem dX10_line_93 : decode cX10_line 93 = .ok (.iaload, 1) := by decide +kernel
theorem dX10_line_94 : decode cX10_line 94 = .ok (.i2l, 1) := by decide +kernel
theorem dX10_line_95 : decode cX10_line 95 = .ok (.aload_n 0, 1) := by decide +kernel
theorem dX10_line_96 : decode cX10_line 96 = .ok (.getfield 65, 3) := by decide +kernel
theorem dX10_line_99 : decode cX10_line 99 = .ok (.aload_n 0, 1) := by decide +kernel
theorem dX10_line_100 : decode cX10_line 100 = .ok (.iload 11, 2) := by decide +kernel
theorem dX10_line_102 : decode cX10_line 102 = .ok (.iconst 1, 1) := by decide +kernel
theorem dX10_line_103 : decode cX10_line 103 = .ok (.isub, 1) := by decide +kernel
theorem dX10_line_104 : decode cX10_line 104 = .ok (.iload_n 1, 1) := by decide +kernel
theorem dX10_line_105 : decode cX10_line 105 = .ok (.invokevirtual 140, 3) := by decide +kernel
theorem dX10_line_108 : decode cX10_line 108 = .ok (.iaload, 1) := by decide +kernel
theorem dX10_line_109 : decode cX10_line 109 = .ok (.i2l, 1) := by decide +kernel
theorem dX10_line_110 : decode cX10_line 110 = .ok (.lsub, 1) := by decide +kernel
theorem dX10_line_111 : decode cX10_line 111 = .ok (.goto 16, 3) := by decide +kernel
theorem dX10_line_114 : decode cX10_line 114 = .ok (.aload_n 0, 1) := by decide +kernel
theorem dX10_line_115 : decode cX10_line 115 = .ok (.getfield 65, 3) := by decide +kernel
theorem dX10_line_118 : decode cX10_line 118 = .ok (.aload_n 0, 1) := by decide +kernel
theorem dX10_line_119 : decode cX10_line 119 = .ok (.iload 11, 2) := by decide +kernel
theorem dX10_line_121 : decode cX10_line 121 = .ok (.iload_n 1, 1) := by decide +kernel
theorem dX10_line_122 : decode cX10_line 122 = .ok (.invokevirtual 140, 3) := by decide +kernel
theorem dX10_line_125 : decode cX10_line 125 = .ok (.iaload, 1) := by decide +kernel
theorem dX10_line_126 : decode cX10_line 126 = .ok (.i2l, 1) := by decide +kernel
theorem dX10_line_127 : decode cX10_line 127 = .ok (.lstore 14, 2) := by decide +kernel
theorem dX10_line_129 : decode cX10_line 129 = .ok (.aload_n 0, 1) := by decide +kernel
theorem dX10_line_130 : decode cX10_line 130 = .ok (.dup, 1) := by decide +kernel
theorem dX10_line_131 : decode cX10_line 131 = .ok (.getfield 176, 3) := by decide +kernel
theorem dX10_line_134 : decode cX10_line 134 = .ok (.iconst 1, 1) := by decide +kernel
theorem dX10_line_135 : decode cX10_line 135 = .ok (.iadd, 1) := by decide +kernel
theorem dX10_line_136 : decode cX10_line 136 = .ok (.putfield 176, 3) := by decide +kernel
theorem dX10_line_139 : decode cX10_line 139 = .ok (.lload_n 3, 1) := by decide +kernel
theorem dX10_line_140 : decode cX10_line 140 = .ok (.lload 12, 2) := by decide +kernel
theorem dX10_line_142 : decode cX10_line 142 = .ok (.ladd, 1) := by decide +kernel
theorem dX10_line_143 : decode cX10_line 143 = .ok (.lstore_n 3, 1) := by decide +kernel
theorem dX10_line_144 : decode cX10_line 144 = .ok (.lload 5, 2) := by decide +kernel
theorem dX10_line_146 : decode cX10_line 146 = .ok (.lload 14, 2) := by decide +kernel
theorem dX10_line_148 : decode cX10_line 148 = .ok (.ladd, 1) := by decide +kernel
theorem dX10_line_149 : decode cX10_line 149 = .ok (.lstore 5, 2) := by decide +kernel
theorem dX10_line_151 : decode cX10_line 151 = .ok (.lload 7, 2) := by decide +kernel
theorem dX10_line_153 : decode cX10_line 153 = .ok (.lload 12, 2) := by decide +kernel
theorem dX10_line_155 : decode cX10_line 155 = .ok (.lload 12, 2) := by decide +kernel
theorem dX10_line_157 : decode cX10_line 157 = .ok (.lmul, 1) := by decide +kernel
theorem dX10_line_158 : decode cX10_line 158 = .ok (.ladd, 1) := by decide +kernel
theorem dX10_line_159 : decode cX10_line 159 = .ok (.lstore 7, 2) := by decide +kernel
theorem dX10_line_161 : decode cX10_line 161 = .ok (.lload 9, 2) := by decide +kernel
theorem dX10_line_163 : decode cX10_line 163 = .ok (.lload 12, 2) := by decide +kernel
theorem dX10_line_165 : decode cX10_line 165 = .ok (.lload 14, 2) := by decide +kernel
theorem dX10_line_167 : decode cX10_line 167 = .ok (.lmul, 1) := by decide +kernel
theorem dX10_line_168 : decode cX10_line 168 = .ok (.ladd, 1) := by decide +kernel
theorem dX10_line_169 : decode cX10_line 169 = .ok (.lstore 9, 2) := by decide +kernel
theorem dX10_line_171 : decode cX10_line 171 = .ok (.iinc 11 1, 3) := by decide +kernel
theorem dX10_line_174 : decode cX10_line 174 = .ok (.goto (-145), 3) := by decide +kernel
theorem dX10_line_177 : decode cX10_line 177 = .ok (.aload_n 0, 1) := by decide +kernel
theorem dX10_line_178 : decode cX10_line 178 = .ok (.lconst 0, 1) := by decide +kernel
theorem dX10_line_179 : decode cX10_line 179 = .ok (.putfield 182, 3) := by decide +kernel
theorem dX10_line_182 : decode cX10_line 182 = .ok (.aload_n 0, 1) := by decide +kernel
theorem dX10_line_183 : decode cX10_line 183 = .ok (.lconst 1, 1) := by decide +kernel
theorem dX10_line_184 : decode cX10_line 184 = .ok (.putfield 186, 3) := by decide +kernel
theorem dX10_line_187 : decode cX10_line 187 = .ok (.aload_n 0, 1) := by decide +kernel
theorem dX10_line_188 : decode cX10_line 188 = .ok (.aload_n 0, 1) := by decide +kernel
theorem dX10_line_189 : decode cX10_line 189 = .ok (.getfield 176, 3) := by decide +kernel
theorem dX10_line_192 : decode cX10_line 192 = .ok (.iconst 1, 1) := by decide +kernel
theorem dX10_line_193 : decode cX10_line 193 = .ok (.if_icmp .ne 8, 3) := by decide +kernel
theorem dX10_line_196 : decode cX10_line 196 = .ok (.lload 5, 2) := by decide +kernel
theorem dX10_line_198 : decode cX10_line 198 = .ok (.goto 4, 3) := by decide +kernel
theorem dX10_line_201 : decode cX10_line 201 = .ok (.lconst 0, 1) := by decide +kernel
theorem dX10_line_202 : decode cX10_line 202 = .ok (.putfield 189, 3) := by decide +kernel
theorem dX10_line_205 : decode cX10_line 205 = .ok (.aload_n 0, 1) := by decide +kernel
theorem dX10_line_206 : decode cX10_line 206 = .ok (.getfield 176, 3) := by decide +kernel
theorem dX10_line_209 : decode cX10_line 209 = .ok (.iconst 2, 1) := by decide +kernel
theorem dX10_line_210 : decode cX10_line 210 = .ok (.if_icmp .ge 4, 3) := by decide +kernel
theorem dX10_line_213 : decode cX10_line 213 = .ok (.return_, 1) := by decide +kernel
theorem dX10_line_214 : decode cX10_line 214 = .ok (.aload_n 0, 1) := by decide +kernel
theorem dX10_line_215 : decode cX10_line 215 = .ok (.aload_n 0, 1) := by decide +kernel
theorem dX10_line_216 : decode cX10_line 216 = .ok (.getfield 176, 3) := by decide +kernel
theorem dX10_line_219 : decode cX10_line 219 = .ok (.i2l, 1) := by decide +kernel
theorem dX10_line_220 : decode cX10_line 220 = .ok (.lload 9, 2) := by decide +kernel
theorem dX10_line_222 : decode cX10_line 222 = .ok (.lmul, 1) := by decide +kernel
theorem dX10_line_223 : decode cX10_line 223 = .ok (.lload_n 3, 1) := by decide +kernel
theorem dX10_line_224 : decode cX10_line 224 = .ok (.lload 5, 2) := by decide +kernel
theorem dX10_line_226 : decode cX10_line 226 = .ok (.lmul, 1) := by decide +kernel
theorem dX10_line_227 : decode cX10_line 227 = .ok (.lsub, 1) := by decide +kernel
theorem dX10_line_228 : decode cX10_line 228 = .ok (.putfield 182, 3) := by decide +kernel
theorem dX10_line_231 : decode cX10_line 231 = .ok (.aload_n 0, 1) := by decide +kernel
theorem dX10_line_232 : decode cX10_line 232 = .ok (.aload_n 0, 1) := by decide +kernel
theorem dX10_line_233 : decode cX10_line 233 = .ok (.getfield 176, 3) := by decide +kernel
theorem dX10_line_236 : decode cX10_line 236 = .ok (.i2l, 1) := by decide +kernel
theorem dX10_line_237 : decode cX10_line 237 = .ok (.lload 7, 2) := by decide +kernel
theorem dX10_line_239 : decode cX10_line 239 = .ok (.lmul, 1) := by decide +kernel
theorem dX10_line_240 : decode cX10_line 240 = .ok (.lload_n 3, 1) := by decide +kernel
theorem dX10_line_241 : decode cX10_line 241 = .ok (.lload_n 3, 1) := by decide +kernel
theorem dX10_line_242 : decode cX10_line 242 = .ok (.lmul, 1) := by decide +kernel
theorem dX10_line_243 : decode cX10_line 243 = .ok (.lsub, 1) := by decide +kernel
theorem dX10_line_244 : decode cX10_line 244 = .ok (.putfield 186, 3) := by decide +kernel
theorem dX10_line_247 : decode cX10_line 247 = .ok (.aload_n 0, 1) := by decide +kernel
theorem dX10_line_248 : decode cX10_line 248 = .ok (.lload 5, 2) := by decide +kernel
theorem dX10_line_250 : decode cX10_line 250 = .ok (.aload_n 0, 1) := by decide +kernel
theorem dX10_line_251 : decode cX10_line 251 = .ok (.getfield 186, 3) := by decide +kernel
theorem dX10_line_254 : decode cX10_line 254 = .ok (.lmul, 1) := by decide +kernel
theorem dX10_line_255 : decode cX10_line 255 = .ok (.aload_n 0, 1) := by decide +kernel
theorem dX10_line_256 : decode cX10_line 256 = .ok (.getfield 182, 3) := by decide +kernel
theorem dX10_line_259 : decode cX10_line 259 = .ok (.lload_n 3, 1) := by decide +kernel
theorem dX10_line_260 : decode cX10_line 260 = .ok (.lmul, 1) := by decide +kernel
theorem dX10_line_261 : decode cX10_line 261 = .ok (.lsub, 1) := by decide +kernel
theorem dX10_line_262 : decode cX10_line 262 = .ok (.aload_n 0, 1) := by decide +kernel
theorem dX10_line_263 : decode cX10_line 263 = .ok (.getfield 176, 3) := by decide +kernel
theorem dX10_line_266 : decode cX10_line 266 = .ok (.i2l, 1) := by decide +kernel
theorem dX10_line_267 : decode cX10_line 267 = .ok (.aload_n 0, 1) := by decide +kernel
theorem dX10_line_268 : decode cX10_line 268 = .ok (.getfield 186, 3) := by decide +kernel
theorem dX10_line_271 : decode cX10_line 271 = .ok (.lmul, 1) := by decide +kernel
theorem dX10_line_272 : decode cX10_line 272 = .ok (.invokestatic 192, 3) := by decide +kernel
theorem dX10_line_275 : decode cX10_line 275 = .ok (.putfield 189, 3) := by decide +kernel
theorem dX10_line_278 : decode cX10_line 278 = .ok (.return_, 1) := by decide +kernel
theorem dX10_byGains_0 : decode cX10_byGains 0 = .ok (.iconst 0, 1) := by decide +kernel
theorem dX10_byGains_1 : decode cX10_byGains 1 = .ok (.istore_n 2, 1) := by decide +kernel
theorem dX10_byGains_2 : decode cX10_byGains 2 = .ok (.aload_n 0, 1) := by decide +kernel
theorem dX10_byGains_3 : decode cX10_byGains 3 = .ok (.getfield 137, 3) := by decide +kernel
theorem dX10_byGains_6 : decode cX10_byGains 6 = .ok (.aload_n 0, 1) := by decide +kernel
theorem dX10_byGains_7 : decode cX10_byGains 7 = .ok (.getfield 13, 3) := by decide +kernel
theorem dX10_byGains_10 : decode cX10_byGains 10 = .ok (.iload_n 1, 1) := by decide +kernel
theorem dX10_byGains_11 : decode cX10_byGains 11 = .ok (.iaload, 1) := by decide +kernel
theorem dX10_byGains_12 : decode cX10_byGains 12 = .ok (.isub, 1) := by decide +kernel
theorem dX10_byGains_13 : decode cX10_byGains 13 = .ok (.istore_n 3, 1) := by decide +kernel
theorem dX10_byGains_14 : decode cX10_byGains 14 = .ok (.iload_n 3, 1) := by decide +kernel
theorem dX10_byGains_15 : decode cX10_byGains 15 = .ok (.aload_n 0, 1) := by decide +kernel
theorem dX10_byGains_16 : decode cX10_byGains 16 = .ok (.getfield 137, 3) := by decide +kernel
theorem dX10_byGains_19 : decode cX10_byGains 19 = .ok (.if_icmp .ge 26, 3) := by decide +kernel
theorem dX10_byGains_22 : decode cX10_byGains 22 = .ok (.iload_n 2, 1) := by decide +kernel
theorem dX10_byGains_23 : decode cX10_byGains 23 = .ok (.aload_n 0, 1) := by decide +kernel
theorem dX10_byGains_24 : decode cX10_byGains 24 = .ok (.iload_n 3, 1) := by decide +kernel
theorem dX10_byGains_25 : decode cX10_byGains 25 = .ok (.iload_n 1, 1) := by decide +kernel
theorem dX10_byGains_26 : decode cX10_byGains 26 = .ok (.invokevirtual 179, 3) := by decide +kernel
theorem dX10_byGains_29 : decode cX10_byGains 29 = .ok (.ifCond .eq 7, 3) := by decide +kernel
theorem dX10_byGains_32 : decode cX10_byGains 32 = .ok (.iconst 1, 1) := by decide +kernel
theorem dX10_byGains_33 : decode cX10_byGains 33 = .ok (.goto 4, 3) := by decide +kernel
theorem dX10_byGains_36 : decode cX10_byGains 36 = .ok (.iconst 0, 1) := by decide +kernel
theorem dX10_byGains_37 : decode cX10_byGains 37 = .ok (.iadd, 1) := by decide +kernel
theorem dX10_byGains_38 : decode cX10_byGains 38 = .ok (.istore_n 2, 1) := by decide +kernel
theorem dX10_byGains_39 : decode cX10_byGains 39 = .ok (.iinc 3 1, 3) := by decide +kernel
theorem dX10_byGains_42 : decode cX10_byGains 42 = .ok (.goto (-28), 3) := by decide +kernel
theorem dX10_byGains_45 : decode cX10_byGains 45 = .ok (.aload_n 0, 1) := by decide +kernel
theorem dX10_byGains_46 : decode cX10_byGains 46 = .ok (.getfield 9, 3) := by decide +kernel
theorem dX10_byGains_49 : decode cX10_byGains 49 = .ok (.iload_n 1, 1) := by decide +kernel
theorem dX10_byGains_50 : decode cX10_byGains 50 = .ok (.iaload, 1) := by decide +kernel
theorem dX10_byGains_51 : decode cX10_byGains 51 = .ok (.iconst 2, 1) := by decide +kernel
theorem dX10_byGains_52 : decode cX10_byGains 52 = .ok (.if_icmp .ne 26, 3) := by decide +kernel
theorem dX10_byGains_55 : decode cX10_byGains 55 = .ok (.iload_n 2, 1) := by decide +kernel
theorem dX10_byGains_56 : decode cX10_byGains 56 = .ok (.iconst 1, 1) := by decide +kernel
theorem dX10_byGains_57 : decode cX10_byGains 57 = .ok (.if_icmp .le 21, 3) := by decide +kernel
theorem dX10_byGains_60 : decode cX10_byGains 60 = .ok (.aload_n 0, 1) := by decide +kernel
theorem dX10_byGains_61 : decode cX10_byGains 61 = .ok (.aload_n 0, 1) := by decide +kernel
theorem dX10_byGains_62 : decode cX10_byGains 62 = .ok (.getfield 137, 3) := by decide +kernel
theorem dX10_byGains_65 : decode cX10_byGains 65 = .ok (.iconst 1, 1) := by decide +kernel
theorem dX10_byGains_66 : decode cX10_byGains 66 = .ok (.isub, 1) := by decide +kernel
theorem dX10_byGains_67 : decode cX10_byGains 67 = .ok (.iload_n 1, 1) := by decide +kernel
theorem dX10_byGains_68 : decode cX10_byGains 68 = .ok (.invokevirtual 172, 3) := by decide +kernel
theorem dX10_byGains_71 : decode cX10_byGains 71 = .ok (.ifCond .eq 7, 3) := by decide +kernel
theorem dX10_byGains_74 : decode cX10_byGains 74 = .ok (.iconst 1, 1) := by decide +kernel
theorem dX10_byGains_75 : decode cX10_byGains 75 = .ok (.goto 4, 3) := by decide +kernel
theorem dX10_byGains_78 : decode cX10_byGains 78 = .ok (.iconst 0, 1) := by decide +kernel
theorem dX10_byGains_79 : decode cX10_byGains 79 = .ok (.ireturn, 1) := by decide +kernel
theorem dX10_foretold_0 : decode cX10_foretold 0 = .ok (.aload_n 0, 1) := by decide +kernel
theorem dX10_foretold_1 : decode cX10_foretold 1 = .ok (.iload_n 1, 1) := by decide +kernel
theorem dX10_foretold_2 : decode cX10_foretold 2 = .ok (.invokevirtual 196, 3) := by decide +kernel
theorem dX10_foretold_5 : decode cX10_foretold 5 = .ok (.istore_n 2, 1) := by decide +kernel
theorem dX10_foretold_6 : decode cX10_foretold 6 = .ok (.aload_n 0, 1) := by decide +kernel
theorem dX10_foretold_7 : decode cX10_foretold 7 = .ok (.iload_n 1, 1) := by decide +kernel
theorem dX10_foretold_8 : decode cX10_foretold 8 = .ok (.iload_n 2, 1) := by decide +kernel
theorem dX10_foretold_9 : decode cX10_foretold 9 = .ok (.invokevirtual 199, 3) := by decide +kernel
theorem dX10_foretold_12 : decode cX10_foretold 12 = .ok (.aload_n 0, 1) := by decide +kernel
theorem dX10_foretold_13 : decode cX10_foretold 13 = .ok (.getfield 176, 3) := by decide +kernel
theorem dX10_foretold_16 : decode cX10_foretold 16 = .ok (.ifCond .ne 6, 3) := by decide +kernel
theorem dX10_foretold_19 : decode cX10_foretold 19 = .ok (.ldc 203, 2) := by decide +kernel
theorem dX10_foretold_21 : decode cX10_foretold 21 = .ok (.ireturn, 1) := by decide +kernel
theorem dX10_foretold_22 : decode cX10_foretold 22 = .ok (.iload_n 2, 1) := by decide +kernel
theorem dX10_foretold_23 : decode cX10_foretold 23 = .ok (.ifCond .eq 28, 3) := by decide +kernel
theorem dX10_foretold_26 : decode cX10_foretold 26 = .ok (.aload_n 0, 1) := by decide +kernel
theorem dX10_foretold_27 : decode cX10_foretold 27 = .ok (.getfield 65, 3) := by decide +kernel
theorem dX10_foretold_30 : decode cX10_foretold 30 = .ok (.aload_n 0, 1) := by decide +kernel
theorem dX10_foretold_31 : decode cX10_foretold 31 = .ok (.aload_n 0, 1) := by decide +kernel
theorem dX10_foretold_32 : decode cX10_foretold 32 = .ok (.getfield 137, 3) := by decide +kernel
theorem dX10_foretold_35 : decode cX10_foretold 35 = .ok (.iconst 1, 1) := by decide +kernel
theorem dX10_foretold_36 : decode cX10_foretold 36 = .ok (.isub, 1) := by decide +kernel
theorem dX10_foretold_37 : decode cX10_foretold 37 = .ok (.iload_n 1, 1) := by decide +kernel
theorem dX10_foretold_38 : decode cX10_foretold 38 = .ok (.invokevirtual 140, 3) := by decide +kernel
theorem dX10_foretold_41 : decode cX10_foretold 41 = .ok (.iaload, 1) := by decide +kernel
theorem dX10_foretold_42 : decode cX10_foretold 42 = .ok (.i2l, 1) := by decide +kernel
theorem dX10_foretold_43 : decode cX10_foretold 43 = .ok (.aload_n 0, 1) := by decide +kernel
theorem dX10_foretold_44 : decode cX10_foretold 44 = .ok (.getfield 189, 3) := by decide +kernel
theorem dX10_foretold_47 : decode cX10_foretold 47 = .ok (.ladd, 1) := by decide +kernel
theorem dX10_foretold_48 : decode cX10_foretold 48 = .ok (.goto 7, 3) := by decide +kernel
theorem dX10_foretold_51 : decode cX10_foretold 51 = .ok (.aload_n 0, 1) := by decide +kernel
theorem dX10_foretold_52 : decode cX10_foretold 52 = .ok (.getfield 189, 3) := by decide +kernel
theorem dX10_foretold_55 : decode cX10_foretold 55 = .ok (.lstore_n 3, 1) := by decide +kernel
theorem dX10_foretold_56 : decode cX10_foretold 56 = .ok (.lload_n 3, 1) := by decide +kernel
theorem dX10_foretold_57 : decode cX10_foretold 57 = .ok (.ldc2_w 204, 3) := by decide +kernel
theorem dX10_foretold_60 : decode cX10_foretold 60 = .ok (.lcmp, 1) := by decide +kernel
theorem dX10_foretold_61 : decode cX10_foretold 61 = .ok (.ifCond .le 8, 3) := by decide +kernel
theorem dX10_foretold_64 : decode cX10_foretold 64 = .ok (.ldc 206, 2) := by decide +kernel
theorem dX10_foretold_66 : decode cX10_foretold 66 = .ok (.goto 18, 3) := by decide +kernel
theorem dX10_foretold_69 : decode cX10_foretold 69 = .ok (.lload_n 3, 1) := by decide +kernel
theorem dX10_foretold_70 : decode cX10_foretold 70 = .ok (.ldc2_w 207, 3) := by decide +kernel
theorem dX10_foretold_73 : decode cX10_foretold 73 = .ok (.lcmp, 1) := by decide +kernel
theorem dX10_foretold_74 : decode cX10_foretold 74 = .ok (.ifCond .ge 8, 3) := by decide +kernel
theorem dX10_foretold_77 : decode cX10_foretold 77 = .ok (.ldc 209, 2) := by decide +kernel
theorem dX10_foretold_79 : decode cX10_foretold 79 = .ok (.goto 5, 3) := by decide +kernel
theorem dX10_foretold_82 : decode cX10_foretold 82 = .ok (.lload_n 3, 1) := by decide +kernel
theorem dX10_foretold_83 : decode cX10_foretold 83 = .ok (.l2i, 1) := by decide +kernel
theorem dX10_foretold_84 : decode cX10_foretold 84 = .ok (.ireturn, 1) := by decide +kernel
theorem dX10_full_0 : decode cX10_full 0 = .ok (.aload_n 0, 1) := by decide +kernel
theorem dX10_full_1 : decode cX10_full 1 = .ok (.getfield 26, 3) := by decide +kernel
theorem dX10_full_4 : decode cX10_full 4 = .ok (.iload_n 1, 1) := by decide +kernel
theorem dX10_full_5 : decode cX10_full 5 = .ok (.baload, 1) := by decide +kernel
theorem dX10_full_6 : decode cX10_full 6 = .ok (.ifCond .ne 13, 3) := by decide +kernel
theorem dX10_full_9 : decode cX10_full 9 = .ok (.aload_n 0, 1) := by decide +kernel
theorem dX10_full_10 : decode cX10_full 10 = .ok (.iload_n 1, 1) := by decide +kernel
theorem dX10_full_11 : decode cX10_full 11 = .ok (.invokevirtual 210, 3) := by decide +kernel
theorem dX10_full_14 : decode cX10_full 14 = .ok (.ldc 203, 2) := by decide +kernel
theorem dX10_full_16 : decode cX10_full 16 = .ok (.if_icmp .ne 5, 3) := by decide +kernel
theorem dX10_full_19 : decode cX10_full 19 = .ok (.iconst 0, 1) := by decide +kernel
theorem dX10_full_20 : decode cX10_full 20 = .ok (.ireturn, 1) := by decide +kernel
theorem dX10_full_21 : decode cX10_full 21 = .ok (.lconst 1, 1) := by decide +kernel
theorem dX10_full_22 : decode cX10_full 22 = .ok (.lstore_n 2, 1) := by decide +kernel
theorem dX10_full_23 : decode cX10_full 23 = .ok (.aload_n 0, 1) := by decide +kernel
theorem dX10_full_24 : decode cX10_full 24 = .ok (.getfield 137, 3) := by decide +kernel
theorem dX10_full_27 : decode cX10_full 27 = .ok (.aload_n 0, 1) := by decide +kernel
theorem dX10_full_28 : decode cX10_full 28 = .ok (.getfield 16, 3) := by decide +kernel
theorem dX10_full_31 : decode cX10_full 31 = .ok (.iload_n 1, 1) := by decide +kernel
theorem dX10_full_32 : decode cX10_full 32 = .ok (.iaload, 1) := by decide +kernel
theorem dX10_full_33 : decode cX10_full 33 = .ok (.isub, 1) := by decide +kernel
theorem dX10_full_34 : decode cX10_full 34 = .ok (.istore 4, 2) := by decide +kernel
theorem dX10_full_36 : decode cX10_full 36 = .ok (.iload 4, 2) := by decide +kernel
theorem dX10_full_38 : decode cX10_full 38 = .ok (.aload_n 0, 1) := by decide +kernel
theorem dX10_full_39 : decode cX10_full 39 = .ok (.getfield 137, 3) := by decide +kernel
theorem dX10_full_42 : decode cX10_full 42 = .ok (.if_icmp .ge 49, 3) := by decide +kernel
theorem dX10_full_45 : decode cX10_full 45 = .ok (.aload_n 0, 1) := by decide +kernel
theorem dX10_full_46 : decode cX10_full 46 = .ok (.iload 4, 2) := by decide +kernel
theorem dX10_full_48 : decode cX10_full 48 = .ok (.iload_n 1, 1) := by decide +kernel
theorem dX10_full_49 : decode cX10_full 49 = .ok (.invokevirtual 214, 3) := by decide +kernel
theorem dX10_full_52 : decode cX10_full 52 = .ok (.ifCond .eq 33, 3) := by decide +kernel
theorem dX10_full_55 : decode cX10_full 55 = .ok (.lload_n 2, 1) := by decide +kernel
theorem dX10_full_56 : decode cX10_full 56 = .ok (.aload_n 0, 1) := by decide +kernel
theorem dX10_full_57 : decode cX10_full 57 = .ok (.getfield 71, 3) := by decide +kernel
theorem dX10_full_60 : decode cX10_full 60 = .ok (.aload_n 0, 1) := by decide +kernel
theorem dX10_full_61 : decode cX10_full 61 = .ok (.iload 4, 2) := by decide +kernel
theorem dX10_full_63 : decode cX10_full 63 = .ok (.iload_n 1, 1) := by decide +kernel
theorem dX10_full_64 : decode cX10_full 64 = .ok (.invokevirtual 140, 3) := by decide +kernel
theorem dX10_full_67 : decode cX10_full 67 = .ok (.iaload, 1) := by decide +kernel
theorem dX10_full_68 : decode cX10_full 68 = .ok (.i2l, 1) := by decide +kernel
theorem dX10_full_69 : decode cX10_full 69 = .ok (.aload_n 0, 1) := by decide +kernel
theorem dX10_full_70 : decode cX10_full 70 = .ok (.getfield 71, 3) := by decide +kernel
theorem dX10_full_73 : decode cX10_full 73 = .ok (.aload_n 0, 1) := by decide +kernel
theorem dX10_full_74 : decode cX10_full 74 = .ok (.iload 4, 2) := by decide +kernel
theorem dX10_full_76 : decode cX10_full 76 = .ok (.iload_n 1, 1) := by decide +kernel
theorem dX10_full_77 : decode cX10_full 77 = .ok (.invokevirtual 140, 3) := by decide +kernel
theorem dX10_full_80 : decode cX10_full 80 = .ok (.iaload, 1) := by decide +kernel
theorem dX10_full_81 : decode cX10_full 81 = .ok (.i2l, 1) := by decide +kernel
theorem dX10_full_82 : decode cX10_full 82 = .ok (.lmul, 1) := by decide +kernel
theorem dX10_full_83 : decode cX10_full 83 = .ok (.ladd, 1) := by decide +kernel
theorem dX10_full_84 : decode cX10_full 84 = .ok (.lstore_n 2, 1) := by decide +kernel
theorem dX10_full_85 : decode cX10_full 85 = .ok (.iinc 4 1, 3) := by decide +kernel
theorem dX10_full_88 : decode cX10_full 88 = .ok (.goto (-52), 3) := by decide +kernel
theorem dX10_full_91 : decode cX10_full 91 = .ok (.iconst 0, 1) := by decide +kernel
theorem dX10_full_92 : decode cX10_full 92 = .ok (.istore 4, 2) := by decide +kernel
theorem dX10_full_94 : decode cX10_full 94 = .ok (.aload_n 0, 1) := by decide +kernel
theorem dX10_full_95 : decode cX10_full 95 = .ok (.getfield 137, 3) := by decide +kernel
theorem dX10_full_98 : decode cX10_full 98 = .ok (.aload_n 0, 1) := by decide +kernel
theorem dX10_full_99 : decode cX10_full 99 = .ok (.getfield 16, 3) := by decide +kernel
theorem dX10_full_102 : decode cX10_full 102 = .ok (.iload_n 1, 1) := by decide +kernel
theorem dX10_full_103 : decode cX10_full 103 = .ok (.iaload, 1) := by decide +kernel
theorem dX10_full_104 : decode cX10_full 104 = .ok (.isub, 1) := by decide +kernel
theorem dX10_full_105 : decode cX10_full 105 = .ok (.istore 5, 2) := by decide +kernel
theorem dX10_full_107 : decode cX10_full 107 = .ok (.iload 5, 2) := by decide +kernel
theorem dX10_full_109 : decode cX10_full 109 = .ok (.aload_n 0, 1) := by decide +kernel
theorem dX10_full_110 : decode cX10_full 110 = .ok (.getfield 137, 3) := by decide +kernel
theorem dX10_full_113 : decode cX10_full 113 = .ok (.if_icmp .ge 31, 3) := by decide +kernel
theorem dX10_full_116 : decode cX10_full 116 = .ok (.iload 4, 2) := by decide +kernel
theorem dX10_full_118 : decode cX10_full 118 = .ok (.ifCond .ne 13, 3) := by decide +kernel
theorem dX10_full_121 : decode cX10_full 121 = .ok (.aload_n 0, 1) := by decide +kernel
theorem dX10_full_122 : decode cX10_full 122 = .ok (.iload 5, 2) := by decide +kernel
theorem dX10_full_124 : decode cX10_full 124 = .ok (.iload_n 1, 1) := by decide +kernel
theorem dX10_full_125 : decode cX10_full 125 = .ok (.invokevirtual 214, 3) := by decide +kernel
theorem dX10_full_128 : decode cX10_full 128 = .ok (.ifCond .eq 7, 3) := by decide +kernel
theorem dX10_full_131 : decode cX10_full 131 = .ok (.iconst 1, 1) := by decide +kernel
theorem dX10_full_132 : decode cX10_full 132 = .ok (.goto 4, 3) := by decide +kernel
theorem dX10_full_135 : decode cX10_full 135 = .ok (.iconst 0, 1) := by decide +kernel
theorem dX10_full_136 : decode cX10_full 136 = .ok (.istore 4, 2) := by decide +kernel
theorem dX10_full_138 : decode cX10_full 138 = .ok (.iinc 5 1, 3) := by decide +kernel
theorem dX10_full_141 : decode cX10_full 141 = .ok (.goto (-34), 3) := by decide +kernel
theorem dX10_full_144 : decode cX10_full 144 = .ok (.iload 4, 2) := by decide +kernel
theorem dX10_full_146 : decode cX10_full 146 = .ok (.ifCond .ne 5, 3) := by decide +kernel
theorem dX10_full_149 : decode cX10_full 149 = .ok (.iconst 1, 1) := by decide +kernel
theorem dX10_full_150 : decode cX10_full 150 = .ok (.ireturn, 1) := by decide +kernel
theorem dX10_full_151 : decode cX10_full 151 = .ok (.ldc2_w 217, 3) := by decide +kernel
theorem dX10_full_154 : decode cX10_full 154 = .ok (.lload_n 2, 1) := by decide +kernel
theorem dX10_full_155 : decode cX10_full 155 = .ok (.ldiv, 1) := by decide +kernel
theorem dX10_full_156 : decode cX10_full 156 = .ok (.lstore 5, 2) := by decide +kernel
theorem dX10_full_158 : decode cX10_full 158 = .ok (.lload 5, 2) := by decide +kernel
theorem dX10_full_160 : decode cX10_full 160 = .ok (.lconst 1, 1) := by decide +kernel
theorem dX10_full_161 : decode cX10_full 161 = .ok (.lcmp, 1) := by decide +kernel
theorem dX10_full_162 : decode cX10_full 162 = .ok (.ifCond .ge 7, 3) := by decide +kernel
theorem dX10_full_165 : decode cX10_full 165 = .ok (.iconst 1, 1) := by decide +kernel
theorem dX10_full_166 : decode cX10_full 166 = .ok (.goto 6, 3) := by decide +kernel
theorem dX10_full_169 : decode cX10_full 169 = .ok (.lload 5, 2) := by decide +kernel
theorem dX10_full_171 : decode cX10_full 171 = .ok (.l2i, 1) := by decide +kernel
theorem dX10_full_172 : decode cX10_full 172 = .ok (.ireturn, 1) := by decide +kernel
theorem dX10_clock_0 : decode cX10_clock 0 = .ok (.aload_n 0, 1) := by decide +kernel
theorem dX10_clock_1 : decode cX10_clock 1 = .ok (.iload_n 1, 1) := by decide +kernel
theorem dX10_clock_2 : decode cX10_clock 2 = .ok (.iconst 0, 1) := by decide +kernel
theorem dX10_clock_3 : decode cX10_clock 3 = .ok (.iconst 3, 1) := by decide +kernel
theorem dX10_clock_4 : decode cX10_clock 4 = .ok (.invokevirtual 144, 3) := by decide +kernel
theorem dX10_clock_7 : decode cX10_clock 7 = .ok (.istore_n 3, 1) := by decide +kernel
theorem dX10_clock_8 : decode cX10_clock 8 = .ok (.iload_n 3, 1) := by decide +kernel
theorem dX10_clock_9 : decode cX10_clock 9 = .ok (.ifCond .eq 5, 3) := by decide +kernel
theorem dX10_clock_12 : decode cX10_clock 12 = .ok (.iload_n 3, 1) := by decide +kernel
theorem dX10_clock_13 : decode cX10_clock 13 = .ok (.ireturn, 1) := by decide +kernel
theorem dX10_clock_14 : decode cX10_clock 14 = .ok (.iconst 0, 1) := by decide +kernel
theorem dX10_clock_15 : decode cX10_clock 15 = .ok (.istore 4, 2) := by decide +kernel
theorem dX10_clock_17 : decode cX10_clock 17 = .ok (.iconst 0, 1) := by decide +kernel
theorem dX10_clock_18 : decode cX10_clock 18 = .ok (.istore 5, 2) := by decide +kernel
theorem dX10_clock_20 : decode cX10_clock 20 = .ok (.iload 5, 2) := by decide +kernel
theorem dX10_clock_22 : decode cX10_clock 22 = .ok (.aload_n 0, 1) := by decide +kernel
theorem dX10_clock_23 : decode cX10_clock 23 = .ok (.getfield 137, 3) := by decide +kernel
theorem dX10_clock_26 : decode cX10_clock 26 = .ok (.if_icmp .ge 29, 3) := by decide +kernel
theorem dX10_clock_29 : decode cX10_clock 29 = .ok (.iload 4, 2) := by decide +kernel
theorem dX10_clock_31 : decode cX10_clock 31 = .ok (.aload_n 0, 1) := by decide +kernel
theorem dX10_clock_32 : decode cX10_clock 32 = .ok (.iload 5, 2) := by decide +kernel
theorem dX10_clock_34 : decode cX10_clock 34 = .ok (.iload_n 1, 1) := by decide +kernel
theorem dX10_clock_35 : decode cX10_clock 35 = .ok (.invokevirtual 172, 3) := by decide +kernel
theorem dX10_clock_38 : decode cX10_clock 38 = .ok (.ifCond .eq 7, 3) := by decide +kernel
theorem dX10_clock_41 : decode cX10_clock 41 = .ok (.iconst 1, 1) := by decide +kernel
theorem dX10_clock_42 : decode cX10_clock 42 = .ok (.goto 4, 3) := by decide +kernel
theorem dX10_clock_45 : decode cX10_clock 45 = .ok (.iconst 0, 1) := by decide +kernel
theorem dX10_clock_46 : decode cX10_clock 46 = .ok (.iadd, 1) := by decide +kernel
theorem dX10_clock_47 : decode cX10_clock 47 = .ok (.istore 4, 2) := by decide +kernel
theorem dX10_clock_49 : decode cX10_clock 49 = .ok (.iinc 5 1, 3) := by decide +kernel
theorem dX10_clock_52 : decode cX10_clock 52 = .ok (.goto (-32), 3) := by decide +kernel
theorem dX10_clock_55 : decode cX10_clock 55 = .ok (.iload_n 2, 1) := by decide +kernel
theorem dX10_clock_56 : decode cX10_clock 56 = .ok (.tableswitch 140 0 8 #[52, 66, 81, 102, 105, 112, 119, 126, 133], 52) := by decide +kernel
theorem dX10_clock_108 : decode cX10_clock 108 = .ok (.aload_n 0, 1) := by decide +kernel
theorem dX10_clock_109 : decode cX10_clock 109 = .ok (.iload_n 1, 1) := by decide +kernel
theorem dX10_clock_110 : decode cX10_clock 110 = .ok (.invokevirtual 219, 3) := by decide +kernel
theorem dX10_clock_113 : decode cX10_clock 113 = .ok (.ifCond .eq 7, 3) := by decide +kernel
theorem dX10_clock_116 : decode cX10_clock 116 = .ok (.iconst 1, 1) := by decide +kernel
theorem dX10_clock_117 : decode cX10_clock 117 = .ok (.goto 4, 3) := by decide +kernel
theorem dX10_clock_120 : decode cX10_clock 120 = .ok (.iconst 0, 1) := by decide +kernel
theorem dX10_clock_121 : decode cX10_clock 121 = .ok (.ireturn, 1) := by decide +kernel
theorem dX10_clock_122 : decode cX10_clock 122 = .ok (.aload_n 0, 1) := by decide +kernel
theorem dX10_clock_123 : decode cX10_clock 123 = .ok (.getfield 26, 3) := by decide +kernel
theorem dX10_clock_126 : decode cX10_clock 126 = .ok (.iload_n 1, 1) := by decide +kernel
theorem dX10_clock_127 : decode cX10_clock 127 = .ok (.baload, 1) := by decide +kernel
theorem dX10_clock_128 : decode cX10_clock 128 = .ok (.ifCond .eq 7, 3) := by decide +kernel
theorem dX10_clock_131 : decode cX10_clock 131 = .ok (.iconst 1, 1) := by decide +kernel
theorem dX10_clock_132 : decode cX10_clock 132 = .ok (.goto 4, 3) := by decide +kernel
theorem dX10_clock_135 : decode cX10_clock 135 = .ok (.iconst 0, 1) := by decide +kernel
theorem dX10_clock_136 : decode cX10_clock 136 = .ok (.ireturn, 1) := by decide +kernel
theorem dX10_clock_137 : decode cX10_clock 137 = .ok (.aload_n 0, 1) := by decide +kernel
theorem dX10_clock_138 : decode cX10_clock 138 = .ok (.getfield 35, 3) := by decide +kernel
theorem dX10_clock_141 : decode cX10_clock 141 = .ok (.iload_n 1, 1) := by decide +kernel
theorem dX10_clock_142 : decode cX10_clock 142 = .ok (.iaload, 1) := by decide +kernel
theorem dX10_clock_143 : decode cX10_clock 143 = .ok (.aload_n 0, 1) := by decide +kernel
theorem dX10_clock_144 : decode cX10_clock 144 = .ok (.getfield 137, 3) := by decide +kernel
theorem dX10_clock_147 : decode cX10_clock 147 = .ok (.iconst 1, 1) := by decide +kernel
theorem dX10_clock_148 : decode cX10_clock 148 = .ok (.isub, 1) := by decide +kernel
theorem dX10_clock_149 : decode cX10_clock 149 = .ok (.if_icmp .ne 7, 3) := by decide +kernel
theorem dX10_clock_152 : decode cX10_clock 152 = .ok (.iconst 1, 1) := by decide +kernel
theorem dX10_clock_153 : decode cX10_clock 153 = .ok (.goto 4, 3) := by decide +kernel
theorem dX10_clock_156 : decode cX10_clock 156 = .ok (.iconst 0, 1) := by decide +kernel
theorem dX10_clock_157 : decode cX10_clock 157 = .ok (.ireturn, 1) := by decide +kernel
theorem dX10_clock_158 : decode cX10_clock 158 = .ok (.iload 4, 2) := by decide +kernel
theorem dX10_clock_160 : decode cX10_clock 160 = .ok (.ireturn, 1) := by decide +kernel
theorem dX10_clock_161 : decode cX10_clock 161 = .ok (.aload_n 0, 1) := by decide +kernel
theorem dX10_clock_162 : decode cX10_clock 162 = .ok (.getfield 29, 3) := by decide +kernel
theorem dX10_clock_165 : decode cX10_clock 165 = .ok (.iload_n 1, 1) := by decide +kernel
theorem dX10_clock_166 : decode cX10_clock 166 = .ok (.iaload, 1) := by decide +kernel
theorem dX10_clock_167 : decode cX10_clock 167 = .ok (.ireturn, 1) := by decide +kernel
theorem dX10_clock_168 : decode cX10_clock 168 = .ok (.aload_n 0, 1) := by decide +kernel
theorem dX10_clock_169 : decode cX10_clock 169 = .ok (.getfield 13, 3) := by decide +kernel
theorem dX10_clock_172 : decode cX10_clock 172 = .ok (.iload_n 1, 1) := by decide +kernel
theorem dX10_clock_173 : decode cX10_clock 173 = .ok (.iaload, 1) := by decide +kernel
theorem dX10_clock_174 : decode cX10_clock 174 = .ok (.ireturn, 1) := by decide +kernel
theorem dX10_clock_175 : decode cX10_clock 175 = .ok (.aload_n 0, 1) := by decide +kernel
theorem dX10_clock_176 : decode cX10_clock 176 = .ok (.getfield 16, 3) := by decide +kernel
theorem dX10_clock_179 : decode cX10_clock 179 = .ok (.iload_n 1, 1) := by decide +kernel
theorem dX10_clock_180 : decode cX10_clock 180 = .ok (.iaload, 1) := by decide +kernel
theorem dX10_clock_181 : decode cX10_clock 181 = .ok (.ireturn, 1) := by decide +kernel
theorem dX10_clock_182 : decode cX10_clock 182 = .ok (.aload_n 0, 1) := by decide +kernel
theorem dX10_clock_183 : decode cX10_clock 183 = .ok (.getfield 38, 3) := by decide +kernel
theorem dX10_clock_186 : decode cX10_clock 186 = .ok (.iload_n 1, 1) := by decide +kernel
theorem dX10_clock_187 : decode cX10_clock 187 = .ok (.iaload, 1) := by decide +kernel
theorem dX10_clock_188 : decode cX10_clock 188 = .ok (.ireturn, 1) := by decide +kernel
theorem dX10_clock_189 : decode cX10_clock 189 = .ok (.aload_n 0, 1) := by decide +kernel
theorem dX10_clock_190 : decode cX10_clock 190 = .ok (.getfield 41, 3) := by decide +kernel
theorem dX10_clock_193 : decode cX10_clock 193 = .ok (.iload_n 1, 1) := by decide +kernel
theorem dX10_clock_194 : decode cX10_clock 194 = .ok (.iaload, 1) := by decide +kernel
theorem dX10_clock_195 : decode cX10_clock 195 = .ok (.ireturn, 1) := by decide +kernel
theorem dX10_clock_196 : decode cX10_clock 196 = .ok (.iconst (-1), 1) := by decide +kernel
theorem dX10_clock_197 : decode cX10_clock 197 = .ok (.ireturn, 1) := by decide +kernel
theorem dX10_foretell_0 : decode cX10_foretell 0 = .ok (.aload_n 0, 1) := by decide +kernel
theorem dX10_foretell_1 : decode cX10_foretell 1 = .ok (.iload_n 1, 1) := by decide +kernel
theorem dX10_foretell_2 : decode cX10_foretell 2 = .ok (.iconst 0, 1) := by decide +kernel
theorem dX10_foretell_3 : decode cX10_foretell 3 = .ok (.iconst 3, 1) := by decide +kernel
theorem dX10_foretell_4 : decode cX10_foretell 4 = .ok (.invokevirtual 144, 3) := by decide +kernel
theorem dX10_foretell_7 : decode cX10_foretell 7 = .ok (.istore_n 2, 1) := by decide +kernel
theorem dX10_foretell_8 : decode cX10_foretell 8 = .ok (.iload_n 2, 1) := by decide +kernel
theorem dX10_foretell_9 : decode cX10_foretell 9 = .ok (.ifCond .eq 7, 3) := by decide +kernel
theorem dX10_foretell_12 : decode cX10_foretell 12 = .ok (.iload_n 2, 1) := by decide +kernel
theorem dX10_foretell_13 : decode cX10_foretell 13 = .ok (.goto 8, 3) := by decide +kernel
theorem dX10_foretell_16 : decode cX10_foretell 16 = .ok (.aload_n 0, 1) := by decide +kernel
theorem dX10_foretell_17 : decode cX10_foretell 17 = .ok (.iload_n 1, 1) := by decide +kernel
theorem dX10_foretell_18 : decode cX10_foretell 18 = .ok (.invokevirtual 210, 3) := by decide +kernel
theorem dX10_foretell_21 : decode cX10_foretell 21 = .ok (.ireturn, 1) := by decide +kernel
theorem dX10_common_0 : decode cX10_common 0 = .ok (.lload_n 2, 1) := by decide +kernel
theorem dX10_common_1 : decode cX10_common 1 = .ok (.lconst 0, 1) := by decide +kernel
theorem dX10_common_2 : decode cX10_common 2 = .ok (.lcmp, 1) := by decide +kernel
theorem dX10_common_3 : decode cX10_common 3 = .ok (.ifCond .ne 7, 3) := by decide +kernel
theorem dX10_common_6 : decode cX10_common 6 = .ok (.lload_n 0, 1) := by decide +kernel
theorem dX10_common_7 : decode cX10_common 7 = .ok (.goto 10, 3) := by decide +kernel
theorem dX10_common_10 : decode cX10_common 10 = .ok (.lload_n 2, 1) := by decide +kernel
theorem dX10_common_11 : decode cX10_common 11 = .ok (.lload_n 0, 1) := by decide +kernel
theorem dX10_common_12 : decode cX10_common 12 = .ok (.lload_n 2, 1) := by decide +kernel
theorem dX10_common_13 : decode cX10_common 13 = .ok (.lrem, 1) := by decide +kernel
theorem dX10_common_14 : decode cX10_common 14 = .ok (.invokestatic 222, 3) := by decide +kernel
theorem dX10_common_17 : decode cX10_common 17 = .ok (.lreturn, 1) := by decide +kernel
theorem dX10_slope_0 : decode cX10_slope 0 = .ok (.aload_n 0, 1) := by decide +kernel
theorem dX10_slope_1 : decode cX10_slope 1 = .ok (.iload_n 1, 1) := by decide +kernel
theorem dX10_slope_2 : decode cX10_slope 2 = .ok (.iconst 0, 1) := by decide +kernel
theorem dX10_slope_3 : decode cX10_slope 3 = .ok (.iconst 3, 1) := by decide +kernel
theorem dX10_slope_4 : decode cX10_slope 4 = .ok (.invokevirtual 144, 3) := by decide +kernel
theorem dX10_slope_7 : decode cX10_slope 7 = .ok (.istore_n 3, 1) := by decide +kernel
theorem dX10_slope_8 : decode cX10_slope 8 = .ok (.iload_n 3, 1) := by decide +kernel
theorem dX10_slope_9 : decode cX10_slope 9 = .ok (.ifCond .eq 5, 3) := by decide +kernel
theorem dX10_slope_12 : decode cX10_slope 12 = .ok (.iload_n 3, 1) := by decide +kernel
theorem dX10_slope_13 : decode cX10_slope 13 = .ok (.ireturn, 1) := by decide +kernel
theorem dX10_slope_14 : decode cX10_slope 14 = .ok (.iload_n 2, 1) := by decide +kernel
theorem dX10_slope_15 : decode cX10_slope 15 = .ok (.iconst 0, 1) := by decide +kernel
theorem dX10_slope_16 : decode cX10_slope 16 = .ok (.iconst 1, 1) := by decide +kernel
theorem dX10_slope_17 : decode cX10_slope 17 = .ok (.invokestatic 129, 3) := by decide +kernel
theorem dX10_slope_20 : decode cX10_slope 20 = .ok (.ifCond .ne 5, 3) := by decide +kernel
theorem dX10_slope_23 : decode cX10_slope 23 = .ok (.iconst (-1), 1) := by decide +kernel
theorem dX10_slope_24 : decode cX10_slope 24 = .ok (.ireturn, 1) := by decide +kernel
theorem dX10_slope_25 : decode cX10_slope 25 = .ok (.aload_n 0, 1) := by decide +kernel
theorem dX10_slope_26 : decode cX10_slope 26 = .ok (.iload_n 1, 1) := by decide +kernel
theorem dX10_slope_27 : decode cX10_slope 27 = .ok (.aload_n 0, 1) := by decide +kernel
theorem dX10_slope_28 : decode cX10_slope 28 = .ok (.iload_n 1, 1) := by decide +kernel
theorem dX10_slope_29 : decode cX10_slope 29 = .ok (.invokevirtual 196, 3) := by decide +kernel
theorem dX10_slope_32 : decode cX10_slope 32 = .ok (.invokevirtual 199, 3) := by decide +kernel
theorem dX10_slope_35 : decode cX10_slope 35 = .ok (.aload_n 0, 1) := by decide +kernel
theorem dX10_slope_36 : decode cX10_slope 36 = .ok (.getfield 176, 3) := by decide +kernel
theorem dX10_slope_39 : decode cX10_slope 39 = .ok (.ifCond .ne 6, 3) := by decide +kernel
theorem dX10_slope_42 : decode cX10_slope 42 = .ok (.ldc 203, 2) := by decide +kernel
theorem dX10_slope_44 : decode cX10_slope 44 = .ok (.ireturn, 1) := by decide +kernel
theorem dX10_slope_45 : decode cX10_slope 45 = .ok (.aload_n 0, 1) := by decide +kernel
theorem dX10_slope_46 : decode cX10_slope 46 = .ok (.getfield 182, 3) := by decide +kernel
theorem dX10_slope_49 : decode cX10_slope 49 = .ok (.lconst 0, 1) := by decide +kernel
theorem dX10_slope_50 : decode cX10_slope 50 = .ok (.lcmp, 1) := by decide +kernel
theorem dX10_slope_51 : decode cX10_slope 51 = .ok (.ifCond .ge 11, 3) := by decide +kernel
theorem dX10_slope_54 : decode cX10_slope 54 = .ok (.aload_n 0, 1) := by decide +kernel
theorem dX10_slope_55 : decode cX10_slope 55 = .ok (.getfield 182, 3) := by decide +kernel
theorem dX10_slope_58 : decode cX10_slope 58 = .ok (.lneg, 1) := by decide +kernel
theorem dX10_slope_59 : decode cX10_slope 59 = .ok (.goto 7, 3) := by decide +kernel
theorem dX10_slope_62 : decode cX10_slope 62 = .ok (.aload_n 0, 1) := by decide +kernel
theorem dX10_slope_63 : decode cX10_slope 63 = .ok (.getfield 182, 3) := by decide +kernel
theorem dX10_slope_66 : decode cX10_slope 66 = .ok (.aload_n 0, 1) := by decide +kernel
theorem dX10_slope_67 : decode cX10_slope 67 = .ok (.getfield 186, 3) := by decide +kernel
theorem dX10_slope_70 : decode cX10_slope 70 = .ok (.invokestatic 222, 3) := by decide +kernel
theorem dX10_slope_73 : decode cX10_slope 73 = .ok (.lstore 4, 2) := by decide +kernel
theorem dX10_slope_75 : decode cX10_slope 75 = .ok (.iload_n 2, 1) := by decide +kernel
theorem dX10_slope_76 : decode cX10_slope 76 = .ok (.ifCond .ne 13, 3) := by decide +kernel
theorem dX10_slope_79 : decode cX10_slope 79 = .ok (.aload_n 0, 1) := by decide +kernel
theorem dX10_slope_80 : decode cX10_slope 80 = .ok (.getfield 182, 3) := by decide +kernel
theorem dX10_slope_83 : decode cX10_slope 83 = .ok (.lload 4, 2) := by decide +kernel
theorem dX10_slope_85 : decode cX10_slope 85 = .ok (.ldiv, 1) := by decide +kernel
theorem dX10_slope_86 : decode cX10_slope 86 = .ok (.goto 10, 3) := by decide +kernel
theorem dX10_slope_89 : decode cX10_slope 89 = .ok (.aload_n 0, 1) := by decide +kernel
theorem dX10_slope_90 : decode cX10_slope 90 = .ok (.getfield 186, 3) := by decide +kernel
theorem dX10_slope_93 : decode cX10_slope 93 = .ok (.lload 4, 2) := by decide +kernel
theorem dX10_slope_95 : decode cX10_slope 95 = .ok (.ldiv, 1) := by decide +kernel
theorem dX10_slope_96 : decode cX10_slope 96 = .ok (.lstore 6, 2) := by decide +kernel
theorem dX10_slope_98 : decode cX10_slope 98 = .ok (.lload 6, 2) := by decide +kernel
theorem dX10_slope_100 : decode cX10_slope 100 = .ok (.ldc2_w 204, 3) := by decide +kernel
theorem dX10_slope_103 : decode cX10_slope 103 = .ok (.lcmp, 1) := by decide +kernel
theorem dX10_slope_104 : decode cX10_slope 104 = .ok (.ifCond .le 8, 3) := by decide +kernel
theorem dX10_slope_107 : decode cX10_slope 107 = .ok (.ldc 206, 2) := by decide +kernel
theorem dX10_slope_109 : decode cX10_slope 109 = .ok (.goto 20, 3) := by decide +kernel
theorem dX10_slope_112 : decode cX10_slope 112 = .ok (.lload 6, 2) := by decide +kernel
theorem dX10_slope_114 : decode cX10_slope 114 = .ok (.ldc2_w 207, 3) := by decide +kernel
theorem dX10_slope_117 : decode cX10_slope 117 = .ok (.lcmp, 1) := by decide +kernel
theorem dX10_slope_118 : decode cX10_slope 118 = .ok (.ifCond .ge 8, 3) := by decide +kernel
theorem dX10_slope_121 : decode cX10_slope 121 = .ok (.ldc 209, 2) := by decide +kernel
theorem dX10_slope_123 : decode cX10_slope 123 = .ok (.goto 6, 3) := by decide +kernel
theorem dX10_slope_126 : decode cX10_slope 126 = .ok (.lload 6, 2) := by decide +kernel
theorem dX10_slope_128 : decode cX10_slope 128 = .ok (.l2i, 1) := by decide +kernel
theorem dX10_slope_129 : decode cX10_slope 129 = .ok (.ireturn, 1) := by decide +kernel
theorem dX10_weight_0 : decode cX10_weight 0 = .ok (.aload_n 0, 1) := by decide +kernel
theorem dX10_weight_1 : decode cX10_weight 1 = .ok (.iload_n 1, 1) := by decide +kernel
theorem dX10_weight_2 : decode cX10_weight 2 = .ok (.iconst 0, 1) := by decide +kernel
theorem dX10_weight_3 : decode cX10_weight 3 = .ok (.iconst 3, 1) := by decide +kernel
theorem dX10_weight_4 : decode cX10_weight 4 = .ok (.invokevirtual 144, 3) := by decide +kernel
theorem dX10_weight_7 : decode cX10_weight 7 = .ok (.istore_n 2, 1) := by decide +kernel
theorem dX10_weight_8 : decode cX10_weight 8 = .ok (.iload_n 2, 1) := by decide +kernel
theorem dX10_weight_9 : decode cX10_weight 9 = .ok (.ifCond .eq 7, 3) := by decide +kernel
theorem dX10_weight_12 : decode cX10_weight 12 = .ok (.iload_n 2, 1) := by decide +kernel
theorem dX10_weight_13 : decode cX10_weight 13 = .ok (.goto 8, 3) := by decide +kernel
theorem dX10_weight_16 : decode cX10_weight 16 = .ok (.aload_n 0, 1) := by decide +kernel
theorem dX10_weight_17 : decode cX10_weight 17 = .ok (.iload_n 1, 1) := by decide +kernel
theorem dX10_weight_18 : decode cX10_weight 18 = .ok (.invokevirtual 225, 3) := by decide +kernel
theorem dX10_weight_21 : decode cX10_weight 21 = .ok (.ireturn, 1) := by decide +kernel
theorem dX10_root_0 : decode cX10_root 0 = .ok (.iconst (-1), 1) := by decide +kernel
theorem dX10_root_1 : decode cX10_root 1 = .ok (.istore_n 1, 1) := by decide +kernel
theorem dX10_root_2 : decode cX10_root 2 = .ok (.bipush 23, 2) := by decide +kernel
theorem dX10_root_4 : decode cX10_root 4 = .ok (.istore_n 2, 1) := by decide +kernel
theorem dX10_root_5 : decode cX10_root 5 = .ok (.iload_n 2, 1) := by decide +kernel
theorem dX10_root_6 : decode cX10_root 6 = .ok (.ifCond .lt 23, 3) := by decide +kernel
theorem dX10_root_9 : decode cX10_root 9 = .ok (.aload_n 0, 1) := by decide +kernel
theorem dX10_root_10 : decode cX10_root 10 = .ok (.iload_n 2, 1) := by decide +kernel
theorem dX10_root_11 : decode cX10_root 11 = .ok (.invokevirtual 219, 3) := by decide +kernel
theorem dX10_root_14 : decode cX10_root 14 = .ok (.ifCond .eq 7, 3) := by decide +kernel
theorem dX10_root_17 : decode cX10_root 17 = .ok (.iload_n 2, 1) := by decide +kernel
theorem dX10_root_18 : decode cX10_root 18 = .ok (.goto 4, 3) := by decide +kernel
theorem dX10_root_21 : decode cX10_root 21 = .ok (.iload_n 1, 1) := by decide +kernel
theorem dX10_root_22 : decode cX10_root 22 = .ok (.istore_n 1, 1) := by decide +kernel
theorem dX10_root_23 : decode cX10_root 23 = .ok (.iinc 2 (-1), 3) := by decide +kernel
theorem dX10_root_26 : decode cX10_root 26 = .ok (.goto (-21), 3) := by decide +kernel
theorem dX10_root_29 : decode cX10_root 29 = .ok (.iload_n 1, 1) := by decide +kernel
theorem dX10_root_30 : decode cX10_root 30 = .ok (.ireturn, 1) := by decide +kernel
theorem dX10_close_0 : decode cX10_close 0 = .ok (.aload_n 0, 1) := by decide +kernel
theorem dX10_close_1 : decode cX10_close 1 = .ok (.getfield 137, 3) := by decide +kernel
theorem dX10_close_4 : decode cX10_close 4 = .ok (.sipush 200, 3) := by decide +kernel
theorem dX10_close_7 : decode cX10_close 7 = .ok (.if_icmp .ne 5, 3) := by decide +kernel
theorem dX10_close_10 : decode cX10_close 10 = .ok (.iconst (-1), 1) := by decide +kernel
theorem dX10_close_11 : decode cX10_close 11 = .ok (.ireturn, 1) := by decide +kernel
theorem dX10_close_12 : decode cX10_close 12 = .ok (.iconst 0, 1) := by decide +kernel
theorem dX10_close_13 : decode cX10_close 13 = .ok (.istore_n 1, 1) := by decide +kernel
theorem dX10_close_14 : decode cX10_close 14 = .ok (.iload_n 1, 1) := by decide +kernel
theorem dX10_close_15 : decode cX10_close 15 = .ok (.bipush 24, 2) := by decide +kernel
theorem dX10_close_17 : decode cX10_close 17 = .ok (.if_icmp .ge 39, 3) := by decide +kernel
theorem dX10_close_20 : decode cX10_close 20 = .ok (.aload_n 0, 1) := by decide +kernel
theorem dX10_close_21 : decode cX10_close 21 = .ok (.getfield 59, 3) := by decide +kernel
theorem dX10_close_24 : decode cX10_close 24 = .ok (.aload_n 0, 1) := by decide +kernel
theorem dX10_close_25 : decode cX10_close 25 = .ok (.aload_n 0, 1) := by decide +kernel
theorem dX10_close_26 : decode cX10_close 26 = .ok (.getfield 137, 3) := by decide +kernel
theorem dX10_close_29 : decode cX10_close 29 = .ok (.iload_n 1, 1) := by decide +kernel
theorem dX10_close_30 : decode cX10_close 30 = .ok (.invokevirtual 140, 3) := by decide +kernel
theorem dX10_close_33 : decode cX10_close 33 = .ok (.iconst 0, 1) := by decide +kernel
theorem dX10_close_34 : decode cX10_close 34 = .ok (.bastore, 1) := by decide +kernel
theorem dX10_close_35 : decode cX10_close 35 = .ok (.aload_n 0, 1) := by decide +kernel
theorem dX10_close_36 : decode cX10_close 36 = .ok (.getfield 62, 3) := by decide +kernel
theorem dX10_close_39 : decode cX10_close 39 = .ok (.aload_n 0, 1) := by decide +kernel
theorem dX10_close_40 : decode cX10_close 40 = .ok (.aload_n 0, 1) := by decide +kernel
theorem dX10_close_41 : decode cX10_close 41 = .ok (.getfield 137, 3) := by decide +kernel
theorem dX10_close_44 : decode cX10_close 44 = .ok (.iload_n 1, 1) := by decide +kernel
theorem dX10_close_45 : decode cX10_close 45 = .ok (.invokevirtual 140, 3) := by decide +kernel
theorem dX10_close_48 : decode cX10_close 48 = .ok (.iconst 0, 1) := by decide +kernel
theorem dX10_close_49 : decode cX10_close 49 = .ok (.bastore, 1) := by decide +kernel
theorem dX10_close_50 : decode cX10_close 50 = .ok (.iinc 1 1, 3) := by decide +kernel
theorem dX10_close_53 : decode cX10_close 53 = .ok (.goto (-39), 3) := by decide +kernel
theorem dX10_close_56 : decode cX10_close 56 = .ok (.aload_n 0, 1) := by decide +kernel
theorem dX10_close_57 : decode cX10_close 57 = .ok (.invokevirtual 228, 3) := by decide +kernel
theorem dX10_close_60 : decode cX10_close 60 = .ok (.istore_n 1, 1) := by decide +kernel
theorem dX10_close_61 : decode cX10_close 61 = .ok (.aload_n 0, 1) := by decide +kernel
theorem dX10_close_62 : decode cX10_close 62 = .ok (.getfield 80, 3) := by decide +kernel
theorem dX10_close_65 : decode cX10_close 65 = .ok (.aload_n 0, 1) := by decide +kernel
theorem dX10_close_66 : decode cX10_close 66 = .ok (.getfield 137, 3) := by decide +kernel
theorem dX10_close_69 : decode cX10_close 69 = .ok (.iload_n 1, 1) := by decide +kernel
theorem dX10_close_70 : decode cX10_close 70 = .ok (.iastore, 1) := by decide +kernel
theorem dX10_close_71 : decode cX10_close 71 = .ok (.aload_n 0, 1) := by decide +kernel
theorem dX10_close_72 : decode cX10_close 72 = .ok (.getfield 83, 3) := by decide +kernel
theorem dX10_close_75 : decode cX10_close 75 = .ok (.aload_n 0, 1) := by decide +kernel
theorem dX10_close_76 : decode cX10_close 76 = .ok (.getfield 137, 3) := by decide +kernel
theorem dX10_close_79 : decode cX10_close 79 = .ok (.iconst 0, 1) := by decide +kernel
theorem dX10_close_80 : decode cX10_close 80 = .ok (.iastore, 1) := by decide +kernel
theorem dX10_close_81 : decode cX10_close 81 = .ok (.aload_n 0, 1) := by decide +kernel
theorem dX10_close_82 : decode cX10_close 82 = .ok (.getfield 92, 3) := by decide +kernel
theorem dX10_close_85 : decode cX10_close 85 = .ok (.aload_n 0, 1) := by decide +kernel
theorem dX10_close_86 : decode cX10_close 86 = .ok (.getfield 137, 3) := by decide +kernel
theorem dX10_close_89 : decode cX10_close 89 = .ok (.aload_n 0, 1) := by decide +kernel
theorem dX10_close_90 : decode cX10_close 90 = .ok (.getfield 98, 3) := by decide +kernel
theorem dX10_close_93 : decode cX10_close 93 = .ok (.iastore, 1) := by decide +kernel
theorem dX10_close_94 : decode cX10_close 94 = .ok (.iload_n 1, 1) := by decide +kernel
theorem dX10_close_95 : decode cX10_close 95 = .ok (.iconst (-1), 1) := by decide +kernel
theorem dX10_close_96 : decode cX10_close 96 = .ok (.if_icmp .ne 7, 3) := by decide +kernel
theorem dX10_close_99 : decode cX10_close 99 = .ok (.iconst 0, 1) := by decide +kernel
theorem dX10_close_100 : decode cX10_close 100 = .ok (.goto 8, 3) := by decide +kernel
theorem dX10_close_103 : decode cX10_close 103 = .ok (.aload_n 0, 1) := by decide +kernel
theorem dX10_close_104 : decode cX10_close 104 = .ok (.iload_n 1, 1) := by decide +kernel
theorem dX10_close_105 : decode cX10_close 105 = .ok (.invokevirtual 232, 3) := by decide +kernel
theorem dX10_close_108 : decode cX10_close 108 = .ok (.istore_n 2, 1) := by decide +kernel
theorem dX10_close_109 : decode cX10_close 109 = .ok (.aload_n 0, 1) := by decide +kernel
theorem dX10_close_110 : decode cX10_close 110 = .ok (.getfield 235, 3) := by decide +kernel
theorem dX10_close_113 : decode cX10_close 113 = .ok (.ifCond .ge 11, 3) := by decide +kernel
theorem dX10_close_116 : decode cX10_close 116 = .ok (.aload_n 0, 1) := by decide +kernel
theorem dX10_close_117 : decode cX10_close 117 = .ok (.getfield 235, 3) := by decide +kernel
theorem dX10_close_120 : decode cX10_close 120 = .ok (.ineg, 1) := by decide +kernel
theorem dX10_close_121 : decode cX10_close 121 = .ok (.goto 7, 3) := by decide +kernel
theorem dX10_close_124 : decode cX10_close 124 = .ok (.aload_n 0, 1) := by decide +kernel
theorem dX10_close_125 : decode cX10_close 125 = .ok (.getfield 235, 3) := by decide +kernel
theorem dX10_close_128 : decode cX10_close 128 = .ok (.istore_n 3, 1) := by decide +kernel
theorem dX10_close_129 : decode cX10_close 129 = .ok (.iload_n 3, 1) := by decide +kernel
theorem dX10_close_130 : decode cX10_close 130 = .ok (.aload_n 0, 1) := by decide +kernel
theorem dX10_close_131 : decode cX10_close 131 = .ok (.getfield 105, 3) := by decide +kernel
theorem dX10_close_134 : decode cX10_close 134 = .ok (.if_icmp .ge 7, 3) := by decide +kernel
theorem dX10_close_137 : decode cX10_close 137 = .ok (.iload_n 3, 1) := by decide +kernel
theorem dX10_close_138 : decode cX10_close 138 = .ok (.goto 7, 3) := by decide +kernel
theorem dX10_close_141 : decode cX10_close 141 = .ok (.aload_n 0, 1) := by decide +kernel
theorem dX10_close_142 : decode cX10_close 142 = .ok (.getfield 105, 3) := by decide +kernel
theorem dX10_close_145 : decode cX10_close 145 = .ok (.istore_n 3, 1) := by decide +kernel
theorem dX10_close_146 : decode cX10_close 146 = .ok (.aload_n 0, 1) := by decide +kernel
theorem dX10_close_147 : decode cX10_close 147 = .ok (.dup, 1) := by decide +kernel
theorem dX10_close_148 : decode cX10_close 148 = .ok (.getfield 235, 3) := by decide +kernel
theorem dX10_close_151 : decode cX10_close 151 = .ok (.aload_n 0, 1) := by decide +kernel
theorem dX10_close_152 : decode cX10_close 152 = .ok (.getfield 235, 3) := by decide +kernel
theorem dX10_close_155 : decode cX10_close 155 = .ok (.ifCond .ge 8, 3) := by decide +kernel
theorem dX10_close_158 : decode cX10_close 158 = .ok (.iload_n 3, 1) := by decide +kernel
theorem dX10_close_159 : decode cX10_close 159 = .ok (.ineg, 1) := by decide +kernel
theorem dX10_close_160 : decode cX10_close 160 = .ok (.goto 4, 3) := by decide +kernel
theorem dX10_close_163 : decode cX10_close 163 = .ok (.iload_n 3, 1) := by decide +kernel
theorem dX10_close_164 : decode cX10_close 164 = .ok (.isub, 1) := by decide +kernel
theorem dX10_close_165 : decode cX10_close 165 = .ok (.putfield 235, 3) := by decide +kernel
theorem dX10_close_168 : decode cX10_close 168 = .ok (.aload_n 0, 1) := by decide +kernel
theorem dX10_close_169 : decode cX10_close 169 = .ok (.getfield 89, 3) := by decide +kernel
theorem dX10_close_172 : decode cX10_close 172 = .ok (.aload_n 0, 1) := by decide +kernel
theorem dX10_close_173 : decode cX10_close 173 = .ok (.getfield 137, 3) := by decide +kernel
theorem dX10_close_176 : decode cX10_close 176 = .ok (.aload_n 0, 1) := by decide +kernel
theorem dX10_close_177 : decode cX10_close 177 = .ok (.getfield 235, 3) := by decide +kernel
theorem dX10_close_180 : decode cX10_close 180 = .ok (.iastore, 1) := by decide +kernel
theorem dX10_close_181 : decode cX10_close 181 = .ok (.aload_n 0, 1) := by decide +kernel
theorem dX10_close_182 : decode cX10_close 182 = .ok (.dup, 1) := by decide +kernel
theorem dX10_close_183 : decode cX10_close 183 = .ok (.getfield 137, 3) := by decide +kernel
theorem dX10_close_186 : decode cX10_close 186 = .ok (.iconst 1, 1) := by decide +kernel
theorem dX10_close_187 : decode cX10_close 187 = .ok (.iadd, 1) := by decide +kernel
theorem dX10_close_188 : decode cX10_close 188 = .ok (.putfield 137, 3) := by decide +kernel
theorem dX10_close_191 : decode cX10_close 191 = .ok (.iload_n 2, 1) := by decide +kernel
theorem dX10_close_192 : decode cX10_close 192 = .ok (.ireturn, 1) := by decide +kernel
theorem dX10_closes_0 : decode cX10_closes 0 = .ok (.iconst 0, 1) := by decide +kernel
theorem dX10_closes_1 : decode cX10_closes 1 = .ok (.istore_n 2, 1) := by decide +kernel
theorem dX10_closes_2 : decode cX10_closes 2 = .ok (.lconst 0, 1) := by decide +kernel
theorem dX10_closes_3 : decode cX10_closes 3 = .ok (.lstore_n 3, 1) := by decide +kernel
theorem dX10_closes_4 : decode cX10_closes 4 = .ok (.iconst 0, 1) := by decide +kernel
theorem dX10_closes_5 : decode cX10_closes 5 = .ok (.istore 5, 2) := by decide +kernel
theorem dX10_closes_7 : decode cX10_closes 7 = .ok (.iload 5, 2) := by decide +kernel
theorem dX10_closes_9 : decode cX10_closes 9 = .ok (.bipush 24, 2) := by decide +kernel
theorem dX10_closes_11 : decode cX10_closes 11 = .ok (.if_icmp .ge 155, 3) := by decide +kernel
theorem dX10_closes_14 : decode cX10_closes 14 = .ok (.aload_n 0, 1) := by decide +kernel
theorem dX10_closes_15 : decode cX10_closes 15 = .ok (.getfield 126, 3) := by decide +kernel
theorem dX10_closes_18 : decode cX10_closes 18 = .ok (.iload 5, 2) := by decide +kernel
theorem dX10_closes_20 : decode cX10_closes 20 = .ok (.aload_n 0, 1) := by decide +kernel
theorem dX10_closes_21 : decode cX10_closes 21 = .ok (.iload 5, 2) := by decide +kernel
theorem dX10_closes_23 : decode cX10_closes 23 = .ok (.invokevirtual 219, 3) := by decide +kernel
theorem dX10_closes_26 : decode cX10_closes 26 = .ok (.ifCond .eq 21, 3) := by decide +kernel
theorem dX10_closes_29 : decode cX10_closes 29 = .ok (.aload_n 0, 1) := by decide +kernel
theorem dX10_closes_30 : decode cX10_closes 30 = .ok (.iload 5, 2) := by decide +kernel
theorem dX10_closes_32 : decode cX10_closes 32 = .ok (.iload_n 1, 1) := by decide +kernel
theorem dX10_closes_33 : decode cX10_closes 33 = .ok (.aload_n 0, 1) := by decide +kernel
theorem dX10_closes_34 : decode cX10_closes 34 = .ok (.getfield 137, 3) := by decide +kernel
theorem dX10_closes_37 : decode cX10_closes 37 = .ok (.invokevirtual 164, 3) := by decide +kernel
theorem dX10_closes_40 : decode cX10_closes 40 = .ok (.ifCond .eq 7, 3) := by decide +kernel
theorem dX10_closes_43 : decode cX10_closes 43 = .ok (.iconst 1, 1) := by decide +kernel
theorem dX10_closes_44 : decode cX10_closes 44 = .ok (.goto 4, 3) := by decide +kernel
theorem dX10_closes_47 : decode cX10_closes 47 = .ok (.iconst 0, 1) := by decide +kernel
theorem dX10_closes_48 : decode cX10_closes 48 = .ok (.bastore, 1) := by decide +kernel
theorem dX10_closes_49 : decode cX10_closes 49 = .ok (.aload_n 0, 1) := by decide +kernel
theorem dX10_closes_50 : decode cX10_closes 50 = .ok (.getfield 126, 3) := by decide +kernel
theorem dX10_closes_53 : decode cX10_closes 53 = .ok (.iload 5, 2) := by decide +kernel
theorem dX10_closes_55 : decode cX10_closes 55 = .ok (.baload, 1) := by decide +kernel
theorem dX10_closes_56 : decode cX10_closes 56 = .ok (.ifCond .ne 6, 3) := by decide +kernel
theorem dX10_closes_59 : decode cX10_closes 59 = .ok (.goto 101, 3) := by decide +kernel
theorem dX10_closes_62 : decode cX10_closes 62 = .ok (.iinc 2 1, 3) := by decide +kernel
theorem dX10_closes_65 : decode cX10_closes 65 = .ok (.aload_n 0, 1) := by decide +kernel
theorem dX10_closes_66 : decode cX10_closes 66 = .ok (.getfield 77, 3) := by decide +kernel
theorem dX10_closes_69 : decode cX10_closes 69 = .ok (.aload_n 0, 1) := by decide +kernel
theorem dX10_closes_70 : decode cX10_closes 70 = .ok (.aload_n 0, 1) := by decide +kernel
theorem dX10_closes_71 : decode cX10_closes 71 = .ok (.getfield 137, 3) := by decide +kernel
theorem dX10_closes_74 : decode cX10_closes 74 = .ok (.iload 5, 2) := by decide +kernel
theorem dX10_closes_76 : decode cX10_closes 76 = .ok (.invokevirtual 140, 3) := by decide +kernel
theorem dX10_closes_79 : decode cX10_closes 79 = .ok (.aload_n 0, 1) := by decide +kernel
theorem dX10_closes_80 : decode cX10_closes 80 = .ok (.getfield 158, 3) := by decide +kernel
theorem dX10_closes_83 : decode cX10_closes 83 = .ok (.aload_n 0, 1) := by decide +kernel
theorem dX10_closes_84 : decode cX10_closes 84 = .ok (.getfield 29, 3) := by decide +kernel
theorem dX10_closes_87 : decode cX10_closes 87 = .ok (.iload 5, 2) := by decide +kernel
theorem dX10_closes_89 : decode cX10_closes 89 = .ok (.iaload, 1) := by decide +kernel
theorem dX10_closes_90 : decode cX10_closes 90 = .ok (.isub, 1) := by decide +kernel
theorem dX10_closes_91 : decode cX10_closes 91 = .ok (.aload_n 0, 1) := by decide +kernel
theorem dX10_closes_92 : decode cX10_closes 92 = .ok (.getfield 29, 3) := by decide +kernel
theorem dX10_closes_95 : decode cX10_closes 95 = .ok (.iload_n 1, 1) := by decide +kernel
theorem dX10_closes_96 : decode cX10_closes 96 = .ok (.iaload, 1) := by decide +kernel
theorem dX10_closes_97 : decode cX10_closes 97 = .ok (.iadd, 1) := by decide +kernel
theorem dX10_closes_98 : decode cX10_closes 98 = .ok (.iastore, 1) := by decide +kernel
theorem dX10_closes_99 : decode cX10_closes 99 = .ok (.aload_n 0, 1) := by decide +kernel
theorem dX10_closes_100 : decode cX10_closes 100 = .ok (.getfield 68, 3) := by decide +kernel
theorem dX10_closes_103 : decode cX10_closes 103 = .ok (.aload_n 0, 1) := by decide +kernel
theorem dX10_closes_104 : decode cX10_closes 104 = .ok (.aload_n 0, 1) := by decide +kernel
theorem dX10_closes_105 : decode cX10_closes 105 = .ok (.getfield 137, 3) := by decide +kernel
theorem dX10_closes_108 : decode cX10_closes 108 = .ok (.iload 5, 2) := by decide +kernel
theorem dX10_closes_110 : decode cX10_closes 110 = .ok (.invokevirtual 140, 3) := by decide +kernel
theorem dX10_closes_113 : decode cX10_closes 113 = .ok (.aload_n 0, 1) := by decide +kernel
theorem dX10_closes_114 : decode cX10_closes 114 = .ok (.iload 5, 2) := by decide +kernel
theorem dX10_closes_116 : decode cX10_closes 116 = .ok (.invokevirtual 210, 3) := by decide +kernel
theorem dX10_closes_119 : decode cX10_closes 119 = .ok (.iastore, 1) := by decide +kernel
theorem dX10_closes_120 : decode cX10_closes 120 = .ok (.aload_n 0, 1) := by decide +kernel
theorem dX10_closes_121 : decode cX10_closes 121 = .ok (.getfield 74, 3) := by decide +kernel
theorem dX10_closes_124 : decode cX10_closes 124 = .ok (.aload_n 0, 1) := by decide +kernel
theorem dX10_closes_125 : decode cX10_closes 125 = .ok (.aload_n 0, 1) := by decide +kernel
theorem dX10_closes_126 : decode cX10_closes 126 = .ok (.getfield 137, 3) := by decide +kernel
theorem dX10_closes_129 : decode cX10_closes 129 = .ok (.iload 5, 2) := by decide +kernel
theorem dX10_closes_131 : decode cX10_closes 131 = .ok (.invokevirtual 140, 3) := by decide +kernel
theorem dX10_closes_134 : decode cX10_closes 134 = .ok (.aload_n 0, 1) := by decide +kernel
theorem dX10_closes_135 : decode cX10_closes 135 = .ok (.iload 5, 2) := by decide +kernel
theorem dX10_closes_137 : decode cX10_closes 137 = .ok (.invokevirtual 225, 3) := by decide +kernel
theorem dX10_closes_140 : decode cX10_closes 140 = .ok (.iastore, 1) := by decide +kernel
theorem dX10_closes_141 : decode cX10_closes 141 = .ok (.lload_n 3, 1) := by decide +kernel
theorem dX10_closes_142 : decode cX10_closes 142 = .ok (.aload_n 0, 1) := by decide +kernel
theorem dX10_closes_143 : decode cX10_closes 143 = .ok (.getfield 74, 3) := by decide +kernel
theorem dX10_closes_146 : decode cX10_closes 146 = .ok (.aload_n 0, 1) := by decide +kernel
theorem dX10_closes_147 : decode cX10_closes 147 = .ok (.aload_n 0, 1) := by decide +kernel
theorem dX10_closes_148 : decode cX10_closes 148 = .ok (.getfield 137, 3) := by decide +kernel
theorem dX10_closes_151 : decode cX10_closes 151 = .ok (.iload 5, 2) := by decide +kernel
theorem dX10_closes_153 : decode cX10_closes 153 = .ok (.invokevirtual 140, 3) := by decide +kernel
theorem dX10_closes_156 : decode cX10_closes 156 = .ok (.iaload, 1) := by decide +kernel
theorem dX10_closes_157 : decode cX10_closes 157 = .ok (.i2l, 1) := by decide +kernel
theorem dX10_closes_158 : decode cX10_closes 158 = .ok (.ladd, 1) := by decide +kernel
theorem dX10_closes_159 : decode cX10_closes 159 = .ok (.lstore_n 3, 1) := by decide +kernel
theorem dX10_closes_160 : decode cX10_closes 160 = .ok (.iinc 5 1, 3) := by decide +kernel
theorem dX10_closes_163 : decode cX10_closes 163 = .ok (.goto (-156), 3) := by decide +kernel
theorem dX10_closes_166 : decode cX10_closes 166 = .ok (.lload_n 3, 1) := by decide +kernel
theorem dX10_closes_167 : decode cX10_closes 167 = .ok (.aload_n 0, 1) := by decide +kernel
theorem dX10_closes_168 : decode cX10_closes 168 = .ok (.getfield 98, 3) := by decide +kernel
theorem dX10_closes_171 : decode cX10_closes 171 = .ok (.i2l, 1) := by decide +kernel
theorem dX10_closes_172 : decode cX10_closes 172 = .ok (.lmul, 1) := by decide +kernel
theorem dX10_closes_173 : decode cX10_closes 173 = .ok (.ldc2_w 238, 3) := by decide +kernel
theorem dX10_closes_176 : decode cX10_closes 176 = .ok (.ldiv, 1) := by decide +kernel
theorem dX10_closes_177 : decode cX10_closes 177 = .ok (.lstore 5, 2) := by decide +kernel
theorem dX10_closes_179 : decode cX10_closes 179 = .ok (.lload 5, 2) := by decide +kernel
theorem dX10_closes_181 : decode cX10_closes 181 = .ok (.lconst 1, 1) := by decide +kernel
theorem dX10_closes_182 : decode cX10_closes 182 = .ok (.lcmp, 1) := by decide +kernel
theorem dX10_closes_183 : decode cX10_closes 183 = .ok (.ifCond .ge 7, 3) := by decide +kernel
theorem dX10_closes_186 : decode cX10_closes 186 = .ok (.lconst 1, 1) := by decide +kernel
theorem dX10_closes_187 : decode cX10_closes 187 = .ok (.goto 5, 3) := by decide +kernel
theorem dX10_closes_190 : decode cX10_closes 190 = .ok (.lload 5, 2) := by decide +kernel
theorem dX10_closes_192 : decode cX10_closes 192 = .ok (.lstore 5, 2) := by decide +kernel
theorem dX10_closes_194 : decode cX10_closes 194 = .ok (.lconst 0, 1) := by decide +kernel
theorem dX10_closes_195 : decode cX10_closes 195 = .ok (.lstore 7, 2) := by decide +kernel
theorem dX10_closes_197 : decode cX10_closes 197 = .ok (.lconst 0, 1) := by decide +kernel
theorem dX10_closes_198 : decode cX10_closes 198 = .ok (.lstore 9, 2) := by decide +kernel
theorem dX10_closes_200 : decode cX10_closes 200 = .ok (.iconst 0, 1) := by decide +kernel
theorem dX10_closes_201 : decode cX10_closes 201 = .ok (.istore 11, 2) := by decide +kernel
theorem dX10_closes_203 : decode cX10_closes 203 = .ok (.iload 11, 2) := by decide +kernel
theorem dX10_closes_205 : decode cX10_closes 205 = .ok (.bipush 24, 2) := by decide +kernel
theorem dX10_closes_207 : decode cX10_closes 207 = .ok (.if_icmp .ge 122, 3) := by decide +kernel
theorem dX10_closes_210 : decode cX10_closes 210 = .ok (.aload_n 0, 1) := by decide +kernel
theorem dX10_closes_211 : decode cX10_closes 211 = .ok (.getfield 126, 3) := by decide +kernel
theorem dX10_closes_214 : decode cX10_closes 214 = .ok (.iload 11, 2) := by decide +kernel
theorem dX10_closes_216 : decode cX10_closes 216 = .ok (.baload, 1) := by decide +kernel
theorem dX10_closes_217 : decode cX10_closes 217 = .ok (.ifCond .ne 6, 3) := by decide +kernel
theorem dX10_closes_220 : decode cX10_closes 220 = .ok (.goto 103, 3) := by decide +kernel
theorem dX10_closes_223 : decode cX10_closes 223 = .ok (.aload_n 0, 1) := by decide +kernel
theorem dX10_closes_224 : decode cX10_closes 224 = .ok (.aload_n 0, 1) := by decide +kernel
theorem dX10_closes_225 : decode cX10_closes 225 = .ok (.getfield 137, 3) := by decide +kernel
theorem dX10_closes_228 : decode cX10_closes 228 = .ok (.iload 11, 2) := by decide +kernel
theorem dX10_closes_230 : decode cX10_closes 230 = .ok (.invokevirtual 140, 3) := by decide +kernel
theorem dX10_closes_233 : decode cX10_closes 233 = .ok (.istore 12, 2) := by decide +kernel
theorem dX10_closes_235 : decode cX10_closes 235 = .ok (.aload_n 0, 1) := by decide +kernel
theorem dX10_closes_236 : decode cX10_closes 236 = .ok (.getfield 74, 3) := by decide +kernel
theorem dX10_closes_239 : decode cX10_closes 239 = .ok (.iload 12, 2) := by decide +kernel
theorem dX10_closes_241 : decode cX10_closes 241 = .ok (.aload_n 0, 1) := by decide +kernel
theorem dX10_closes_242 : decode cX10_closes 242 = .ok (.getfield 74, 3) := by decide +kernel
theorem dX10_closes_245 : decode cX10_closes 245 = .ok (.iload 12, 2) := by decide +kernel
theorem dX10_closes_247 : decode cX10_closes 247 = .ok (.iaload, 1) := by decide +kernel
theorem dX10_closes_248 : decode cX10_closes 248 = .ok (.i2l, 1) := by decide +kernel
theorem dX10_closes_249 : decode cX10_closes 249 = .ok (.lload 5, 2) := by decide +kernel
theorem dX10_closes_251 : decode cX10_closes 251 = .ok (.lcmp, 1) := by decide +kernel
theorem dX10_closes_252 : decode cX10_closes 252 = .ok (.ifCond .le 9, 3) := by decide +kernel
theorem dX10_closes_255 : decode cX10_closes 255 = .ok (.lload 5, 2) := by decide +kernel
theorem dX10_closes_257 : decode cX10_closes 257 = .ok (.l2i, 1) := by decide +kernel
theorem dX10_closes_258 : decode cX10_closes 258 = .ok (.goto 10, 3) := by decide +kernel
theorem dX10_closes_261 : decode cX10_closes 261 = .ok (.aload_n 0, 1) := by decide +kernel
theorem dX10_closes_262 : decode cX10_closes 262 = .ok (.getfield 74, 3) := by decide +kernel
theorem dX10_closes_265 : decode cX10_closes 265 = .ok (.iload 12, 2) := by decide +kernel
theorem dX10_closes_267 : decode cX10_closes 267 = .ok (.iaload, 1) := by decide +kernel
theorem dX10_closes_268 : decode cX10_closes 268 = .ok (.iastore, 1) := by decide +kernel
theorem dX10_closes_269 : decode cX10_closes 269 = .ok (.lload 7, 2) := by decide +kernel
theorem dX10_closes_271 : decode cX10_closes 271 = .ok (.aload_n 0, 1) := by decide +kernel
theorem dX10_closes_272 : decode cX10_closes 272 = .ok (.getfield 74, 3) := by decide +kernel
theorem dX10_closes_275 : decode cX10_closes 275 = .ok (.iload 12, 2) := by decide +kernel
theorem dX10_closes_277 : decode cX10_closes 277 = .ok (.iaload, 1) := by decide +kernel
theorem dX10_closes_278 : decode cX10_closes 278 = .ok (.i2l, 1) := by decide +kernel
theorem dX10_closes_279 : decode cX10_closes 279 = .ok (.ladd, 1) := by decide +kernel
theorem dX10_closes_280 : decode cX10_closes 280 = .ok (.lstore 7, 2) := by decide +kernel
theorem dX10_closes_282 : decode cX10_closes 282 = .ok (.aload_n 0, 1) := by decide +kernel
theorem dX10_closes_283 : decode cX10_closes 283 = .ok (.getfield 74, 3) := by decide +kernel
theorem dX10_closes_286 : decode cX10_closes 286 = .ok (.iload 12, 2) := by decide +kernel
theorem dX10_closes_288 : decode cX10_closes 288 = .ok (.iaload, 1) := by decide +kernel
theorem dX10_closes_289 : decode cX10_closes 289 = .ok (.ifCond .le 34, 3) := by decide +kernel
theorem dX10_closes_292 : decode cX10_closes 292 = .ok (.lload 9, 2) := by decide +kernel
theorem dX10_closes_294 : decode cX10_closes 294 = .ok (.aload_n 0, 1) := by decide +kernel
theorem dX10_closes_295 : decode cX10_closes 295 = .ok (.getfield 74, 3) := by decide +kernel
theorem dX10_closes_298 : decode cX10_closes 298 = .ok (.iload 12, 2) := by decide +kernel
theorem dX10_closes_300 : decode cX10_closes 300 = .ok (.iaload, 1) := by decide +kernel
theorem dX10_closes_301 : decode cX10_closes 301 = .ok (.i2l, 1) := by decide +kernel
theorem dX10_closes_302 : decode cX10_closes 302 = .ok (.aload_n 0, 1) := by decide +kernel
theorem dX10_closes_303 : decode cX10_closes 303 = .ok (.getfield 68, 3) := by decide +kernel
theorem dX10_closes_306 : decode cX10_closes 306 = .ok (.iload 12, 2) := by decide +kernel
theorem dX10_closes_308 : decode cX10_closes 308 = .ok (.iaload, 1) := by decide +kernel
theorem dX10_closes_309 : decode cX10_closes 309 = .ok (.i2l, 1) := by decide +kernel
theorem dX10_closes_310 : decode cX10_closes 310 = .ok (.aload_n 0, 1) := by decide +kernel
theorem dX10_closes_311 : decode cX10_closes 311 = .ok (.getfield 77, 3) := by decide +kernel
theorem dX10_closes_314 : decode cX10_closes 314 = .ok (.iload 12, 2) := by decide +kernel
theorem dX10_closes_316 : decode cX10_closes 316 = .ok (.iaload, 1) := by decide +kernel
theorem dX10_closes_317 : decode cX10_closes 317 = .ok (.i2l, 1) := by decide +kernel
theorem dX10_closes_318 : decode cX10_closes 318 = .ok (.ladd, 1) := by decide +kernel
theorem dX10_closes_319 : decode cX10_closes 319 = .ok (.lmul, 1) := by decide +kernel
theorem dX10_closes_320 : decode cX10_closes 320 = .ok (.ladd, 1) := by decide +kernel
theorem dX10_closes_321 : decode cX10_closes 321 = .ok (.lstore 9, 2) := by decide +kernel
theorem dX10_closes_323 : decode cX10_closes 323 = .ok (.iinc 11 1, 3) := by decide +kernel
theorem dX10_closes_326 : decode cX10_closes 326 = .ok (.goto (-123), 3) := by decide +kernel
theorem dX10_closes_329 : decode cX10_closes 329 = .ok (.lload 7, 2) := by decide +kernel
theorem dX10_closes_331 : decode cX10_closes 331 = .ok (.lconst 0, 1) := by decide +kernel
theorem dX10_closes_332 : decode cX10_closes 332 = .ok (.lcmp, 1) := by decide +kernel
theorem dX10_closes_333 : decode cX10_closes 333 = .ok (.ifCond .ne 7, 3) := by decide +kernel
theorem dX10_closes_336 : decode cX10_closes 336 = .ok (.lconst 0, 1) := by decide +kernel
theorem dX10_closes_337 : decode cX10_closes 337 = .ok (.goto 10, 3) := by decide +kernel
theorem dX10_closes_340 : decode cX10_closes 340 = .ok (.lload 9, 2) := by decide +kernel
theorem dX10_closes_342 : decode cX10_closes 342 = .ok (.lload 7, 2) := by decide +kernel
theorem dX10_closes_344 : decode cX10_closes 344 = .ok (.invokestatic 192, 3) := by decide +kernel
theorem dX10_closes_347 : decode cX10_closes 347 = .ok (.lstore 11, 2) := by decide +kernel
theorem dX10_closes_349 : decode cX10_closes 349 = .ok (.aload_n 0, 1) := by decide +kernel
theorem dX10_closes_350 : decode cX10_closes 350 = .ok (.getfield 83, 3) := by decide +kernel
theorem dX10_closes_353 : decode cX10_closes 353 = .ok (.aload_n 0, 1) := by decide +kernel
theorem dX10_closes_354 : decode cX10_closes 354 = .ok (.getfield 137, 3) := by decide +kernel
theorem dX10_closes_357 : decode cX10_closes 357 = .ok (.iload_n 2, 1) := by decide +kernel
theorem dX10_closes_358 : decode cX10_closes 358 = .ok (.iastore, 1) := by decide +kernel
theorem dX10_closes_359 : decode cX10_closes 359 = .ok (.aload_n 0, 1) := by decide +kernel
theorem dX10_closes_360 : decode cX10_closes 360 = .ok (.getfield 95, 3) := by decide +kernel
theorem dX10_closes_363 : decode cX10_closes 363 = .ok (.aload_n 0, 1) := by decide +kernel
theorem dX10_closes_364 : decode cX10_closes 364 = .ok (.getfield 137, 3) := by decide +kernel
theorem dX10_closes_367 : decode cX10_closes 367 = .ok (.lload 7, 2) := by decide +kernel
theorem dX10_closes_369 : decode cX10_closes 369 = .ok (.l2i, 1) := by decide +kernel
theorem dX10_closes_370 : decode cX10_closes 370 = .ok (.iastore, 1) := by decide +kernel
theorem dX10_closes_371 : decode cX10_closes 371 = .ok (.aload_n 0, 1) := by decide +kernel
theorem dX10_closes_372 : decode cX10_closes 372 = .ok (.getfield 86, 3) := by decide +kernel
theorem dX10_closes_375 : decode cX10_closes 375 = .ok (.aload_n 0, 1) := by decide +kernel
theorem dX10_closes_376 : decode cX10_closes 376 = .ok (.getfield 137, 3) := by decide +kernel
theorem dX10_closes_379 : decode cX10_closes 379 = .ok (.lload 7, 2) := by decide +kernel
theorem dX10_closes_381 : decode cX10_closes 381 = .ok (.lconst 0, 1) := by decide +kernel
theorem dX10_closes_382 : decode cX10_closes 382 = .ok (.lcmp, 1) := by decide +kernel
theorem dX10_closes_383 : decode cX10_closes 383 = .ok (.ifCond .ne 7, 3) := by decide +kernel
theorem dX10_closes_386 : decode cX10_closes 386 = .ok (.iconst 0, 1) := by decide +kernel
theorem dX10_closes_387 : decode cX10_closes 387 = .ok (.goto 12, 3) := by decide +kernel
theorem dX10_closes_390 : decode cX10_closes 390 = .ok (.lload 9, 2) := by decide +kernel
theorem dX10_closes_392 : decode cX10_closes 392 = .ok (.lload 11, 2) := by decide +kernel
theorem dX10_closes_394 : decode cX10_closes 394 = .ok (.lload 7, 2) := by decide +kernel
theorem dX10_closes_396 : decode cX10_closes 396 = .ok (.lmul, 1) := by decide +kernel
theorem dX10_closes_397 : decode cX10_closes 397 = .ok (.lsub, 1) := by decide +kernel
theorem dX10_closes_398 : decode cX10_closes 398 = .ok (.l2i, 1) := by decide +kernel
theorem dX10_closes_399 : decode cX10_closes 399 = .ok (.iastore, 1) := by decide +kernel
theorem dX10_closes_400 : decode cX10_closes 400 = .ok (.iconst 0, 1) := by decide +kernel
theorem dX10_closes_401 : decode cX10_closes 401 = .ok (.istore 13, 2) := by decide +kernel
theorem dX10_closes_403 : decode cX10_closes 403 = .ok (.iload 13, 2) := by decide +kernel
theorem dX10_closes_405 : decode cX10_closes 405 = .ok (.bipush 24, 2) := by decide +kernel
theorem dX10_closes_407 : decode cX10_closes 407 = .ok (.if_icmp .ge 147, 3) := by decide +kernel
theorem dX10_closes_410 : decode cX10_closes 410 = .ok (.aload_n 0, 1) := by decide +kernel
theorem dX10_closes_411 : decode cX10_closes 411 = .ok (.getfield 126, 3) := by decide +kernel
theorem dX10_closes_414 : decode cX10_closes 414 = .ok (.iload 13, 2) := by decide +kernel
theorem dX10_closes_416 : decode cX10_closes 416 = .ok (.baload, 1) := by decide +kernel
theorem dX10_closes_417 : decode cX10_closes 417 = .ok (.ifCond .ne 6, 3) := by decide +kernel
theorem dX10_closes_420 : decode cX10_closes 420 = .ok (.goto 128, 3) := by decide +kernel
theorem dX10_closes_423 : decode cX10_closes 423 = .ok (.aload_n 0, 1) := by decide +kernel
theorem dX10_closes_424 : decode cX10_closes 424 = .ok (.aload_n 0, 1) := by decide +kernel
theorem dX10_closes_425 : decode cX10_closes 425 = .ok (.getfield 137, 3) := by decide +kernel
theorem dX10_closes_428 : decode cX10_closes 428 = .ok (.iload 13, 2) := by decide +kernel
theorem dX10_closes_430 : decode cX10_closes 430 = .ok (.invokevirtual 140, 3) := by decide +kernel
theorem dX10_closes_433 : decode cX10_closes 433 = .ok (.istore 14, 2) := by decide +kernel
theorem dX10_closes_435 : decode cX10_closes 435 = .ok (.aload_n 0, 1) := by decide +kernel
theorem dX10_closes_436 : decode cX10_closes 436 = .ok (.getfield 65, 3) := by decide +kernel
theorem dX10_closes_439 : decode cX10_closes 439 = .ok (.iload 14, 2) := by decide +kernel
theorem dX10_closes_441 : decode cX10_closes 441 = .ok (.lload 11, 2) := by decide +kernel
theorem dX10_closes_443 : decode cX10_closes 443 = .ok (.aload_n 0, 1) := by decide +kernel
theorem dX10_closes_444 : decode cX10_closes 444 = .ok (.getfield 77, 3) := by decide +kernel
theorem dX10_closes_447 : decode cX10_closes 447 = .ok (.iload 14, 2) := by decide +kernel
theorem dX10_closes_449 : decode cX10_closes 449 = .ok (.iaload, 1) := by decide +kernel
theorem dX10_closes_450 : decode cX10_closes 450 = .ok (.i2l, 1) := by decide +kernel
theorem dX10_closes_451 : decode cX10_closes 451 = .ok (.lsub, 1) := by decide +kernel
theorem dX10_closes_452 : decode cX10_closes 452 = .ok (.l2i, 1) := by decide +kernel
theorem dX10_closes_453 : decode cX10_closes 453 = .ok (.iastore, 1) := by decide +kernel
theorem dX10_closes_454 : decode cX10_closes 454 = .ok (.aload_n 0, 1) := by decide +kernel
theorem dX10_closes_455 : decode cX10_closes 455 = .ok (.getfield 65, 3) := by decide +kernel
theorem dX10_closes_458 : decode cX10_closes 458 = .ok (.iload 14, 2) := by decide +kernel
theorem dX10_closes_460 : decode cX10_closes 460 = .ok (.iaload, 1) := by decide +kernel
theorem dX10_closes_461 : decode cX10_closes 461 = .ok (.i2l, 1) := by decide +kernel
theorem dX10_closes_462 : decode cX10_closes 462 = .ok (.aload_n 0, 1) := by decide +kernel
theorem dX10_closes_463 : decode cX10_closes 463 = .ok (.getfield 68, 3) := by decide +kernel
theorem dX10_closes_466 : decode cX10_closes 466 = .ok (.iload 14, 2) := by decide +kernel
theorem dX10_closes_468 : decode cX10_closes 468 = .ok (.iaload, 1) := by decide +kernel
theorem dX10_closes_469 : decode cX10_closes 469 = .ok (.i2l, 1) := by decide +kernel
theorem dX10_closes_470 : decode cX10_closes 470 = .ok (.lsub, 1) := by decide +kernel
theorem dX10_closes_471 : decode cX10_closes 471 = .ok (.lstore 15, 2) := by decide +kernel
theorem dX10_closes_473 : decode cX10_closes 473 = .ok (.aload_n 0, 1) := by decide +kernel
theorem dX10_closes_474 : decode cX10_closes 474 = .ok (.getfield 71, 3) := by decide +kernel
theorem dX10_closes_477 : decode cX10_closes 477 = .ok (.iload 14, 2) := by decide +kernel
theorem dX10_closes_479 : decode cX10_closes 479 = .ok (.lload 15, 2) := by decide +kernel
theorem dX10_closes_481 : decode cX10_closes 481 = .ok (.ldc2_w 240, 3) := by decide +kernel
theorem dX10_closes_484 : decode cX10_closes 484 = .ok (.lcmp, 1) := by decide +kernel
theorem dX10_closes_485 : decode cX10_closes 485 = .ok (.ifCond .le 9, 3) := by decide +kernel
theorem dX10_closes_488 : decode cX10_closes 488 = .ok (.sipush 30000, 3) := by decide +kernel
theorem dX10_closes_491 : decode cX10_closes 491 = .ok (.goto 21, 3) := by decide +kernel
theorem dX10_closes_494 : decode cX10_closes 494 = .ok (.lload 15, 2) := by decide +kernel
theorem dX10_closes_496 : decode cX10_closes 496 = .ok (.ldc2_w 242, 3) := by decide +kernel
theorem dX10_closes_499 : decode cX10_closes 499 = .ok (.lcmp, 1) := by decide +kernel
theorem dX10_closes_500 : decode cX10_closes 500 = .ok (.ifCond .ge 9, 3) := by decide +kernel
theorem dX10_closes_503 : decode cX10_closes 503 = .ok (.sipush (-30000), 3) := by decide +kernel
theorem dX10_closes_506 : decode cX10_closes 506 = .ok (.goto 6, 3) := by decide +kernel
theorem dX10_closes_509 : decode cX10_closes 509 = .ok (.lload 15, 2) := by decide +kernel
theorem dX10_closes_511 : decode cX10_closes 511 = .ok (.l2i, 1) := by decide +kernel
theorem dX10_closes_512 : decode cX10_closes 512 = .ok (.iastore, 1) := by decide +kernel
theorem dX10_closes_513 : decode cX10_closes 513 = .ok (.aload_n 0, 1) := by decide +kernel
theorem dX10_closes_514 : decode cX10_closes 514 = .ok (.getfield 68, 3) := by decide +kernel
theorem dX10_closes_517 : decode cX10_closes 517 = .ok (.iload 14, 2) := by decide +kernel
theorem dX10_closes_519 : decode cX10_closes 519 = .ok (.iaload, 1) := by decide +kernel
theorem dX10_closes_520 : decode cX10_closes 520 = .ok (.ldc 203, 2) := by decide +kernel
theorem dX10_closes_522 : decode cX10_closes 522 = .ok (.if_icmp .eq 26, 3) := by decide +kernel
theorem dX10_closes_525 : decode cX10_closes 525 = .ok (.aload_n 0, 1) := by decide +kernel
theorem dX10_closes_526 : decode cX10_closes 526 = .ok (.getfield 26, 3) := by decide +kernel
theorem dX10_closes_529 : decode cX10_closes 529 = .ok (.iload 13, 2) := by decide +kernel
theorem dX10_closes_531 : decode cX10_closes 531 = .ok (.baload, 1) := by decide +kernel
theorem dX10_closes_532 : decode cX10_closes 532 = .ok (.ifCond .ne 16, 3) := by decide +kernel
theorem dX10_closes_535 : decode cX10_closes 535 = .ok (.aload_n 0, 1) := by decide +kernel
theorem dX10_closes_536 : decode cX10_closes 536 = .ok (.iload 13, 2) := by decide +kernel
theorem dX10_closes_538 : decode cX10_closes 538 = .ok (.aload_n 0, 1) := by decide +kernel
theorem dX10_closes_539 : decode cX10_closes 539 = .ok (.getfield 71, 3) := by decide +kernel
theorem dX10_closes_542 : decode cX10_closes 542 = .ok (.iload 14, 2) := by decide +kernel
theorem dX10_closes_544 : decode cX10_closes 544 = .ok (.iaload, 1) := by decide +kernel
theorem dX10_closes_545 : decode cX10_closes 545 = .ok (.invokevirtual 244, 3) := by decide +kernel
theorem dX10_closes_548 : decode cX10_closes 548 = .ok (.iinc 13 1, 3) := by decide +kernel
theorem dX10_closes_551 : decode cX10_closes 551 = .ok (.goto (-148), 3) := by decide +kernel
theorem dX10_closes_554 : decode cX10_closes 554 = .ok (.iconst 0, 1) := by decide +kernel
theorem dX10_closes_555 : decode cX10_closes 555 = .ok (.istore 13, 2) := by decide +kernel
theorem dX10_closes_557 : decode cX10_closes 557 = .ok (.iload 13, 2) := by decide +kernel
theorem dX10_closes_559 : decode cX10_closes 559 = .ok (.bipush 24, 2) := by decide +kernel
theorem dX10_closes_561 : decode cX10_closes 561 = .ok (.if_icmp .ge 81, 3) := by decide +kernel
theorem dX10_closes_564 : decode cX10_closes 564 = .ok (.aload_n 0, 1) := by decide +kernel
theorem dX10_closes_565 : decode cX10_closes 565 = .ok (.getfield 59, 3) := by decide +kernel
theorem dX10_closes_568 : decode cX10_closes 568 = .ok (.aload_n 0, 1) := by decide +kernel
theorem dX10_closes_569 : decode cX10_closes 569 = .ok (.aload_n 0, 1) := by decide +kernel
theorem dX10_closes_570 : decode cX10_closes 570 = .ok (.getfield 137, 3) := by decide +kernel
theorem dX10_closes_573 : decode cX10_closes 573 = .ok (.iload 13, 2) := by decide +kernel
theorem dX10_closes_575 : decode cX10_closes 575 = .ok (.invokevirtual 140, 3) := by decide +kernel
theorem dX10_closes_578 : decode cX10_closes 578 = .ok (.aload_n 0, 1) := by decide +kernel
theorem dX10_closes_579 : decode cX10_closes 579 = .ok (.getfield 126, 3) := by decide +kernel
theorem dX10_closes_582 : decode cX10_closes 582 = .ok (.iload 13, 2) := by decide +kernel
theorem dX10_closes_584 : decode cX10_closes 584 = .ok (.baload, 1) := by decide +kernel
theorem dX10_closes_585 : decode cX10_closes 585 = .ok (.bastore, 1) := by decide +kernel
theorem dX10_closes_586 : decode cX10_closes 586 = .ok (.aload_n 0, 1) := by decide +kernel
theorem dX10_closes_587 : decode cX10_closes 587 = .ok (.getfield 62, 3) := by decide +kernel
theorem dX10_closes_590 : decode cX10_closes 590 = .ok (.aload_n 0, 1) := by decide +kernel
theorem dX10_closes_591 : decode cX10_closes 591 = .ok (.aload_n 0, 1) := by decide +kernel
theorem dX10_closes_592 : decode cX10_closes 592 = .ok (.getfield 137, 3) := by decide +kernel
theorem dX10_closes_595 : decode cX10_closes 595 = .ok (.iload 13, 2) := by decide +kernel
theorem dX10_closes_597 : decode cX10_closes 597 = .ok (.invokevirtual 140, 3) := by decide +kernel
theorem dX10_closes_600 : decode cX10_closes 600 = .ok (.aload_n 0, 1) := by decide +kernel
theorem dX10_closes_601 : decode cX10_closes 601 = .ok (.getfield 126, 3) := by decide +kernel
theorem dX10_closes_604 : decode cX10_closes 604 = .ok (.iload 13, 2) := by decide +kernel
theorem dX10_closes_606 : decode cX10_closes 606 = .ok (.baload, 1) := by decide +kernel
theorem dX10_closes_607 : decode cX10_closes 607 = .ok (.ifCond .eq 27, 3) := by decide +kernel
theorem dX10_closes_610 : decode cX10_closes 610 = .ok (.aload_n 0, 1) := by decide +kernel
theorem dX10_closes_611 : decode cX10_closes 611 = .ok (.getfield 68, 3) := by decide +kernel
theorem dX10_closes_614 : decode cX10_closes 614 = .ok (.aload_n 0, 1) := by decide +kernel
theorem dX10_closes_615 : decode cX10_closes 615 = .ok (.aload_n 0, 1) := by decide +kernel
theorem dX10_closes_616 : decode cX10_closes 616 = .ok (.getfield 137, 3) := by decide +kernel
theorem dX10_closes_619 : decode cX10_closes 619 = .ok (.iload 13, 2) := by decide +kernel
theorem dX10_closes_621 : decode cX10_closes 621 = .ok (.invokevirtual 140, 3) := by decide +kernel
theorem dX10_closes_624 : decode cX10_closes 624 = .ok (.iaload, 1) := by decide +kernel
theorem dX10_closes_625 : decode cX10_closes 625 = .ok (.ldc 203, 2) := by decide +kernel
theorem dX10_closes_627 : decode cX10_closes 627 = .ok (.if_icmp .eq 7, 3) := by decide +kernel
theorem dX10_closes_630 : decode cX10_closes 630 = .ok (.iconst 1, 1) := by decide +kernel
theorem dX10_closes_631 : decode cX10_closes 631 = .ok (.goto 4, 3) := by decide +kernel
theorem dX10_closes_634 : decode cX10_closes 634 = .ok (.iconst 0, 1) := by decide +kernel
theorem dX10_closes_635 : decode cX10_closes 635 = .ok (.bastore, 1) := by decide +kernel
theorem dX10_closes_636 : decode cX10_closes 636 = .ok (.iinc 13 1, 3) := by decide +kernel
theorem dX10_closes_639 : decode cX10_closes 639 = .ok (.goto (-82), 3) := by decide +kernel
theorem dX10_closes_642 : decode cX10_closes 642 = .ok (.iload_n 2, 1) := by decide +kernel
theorem dX10_closes_643 : decode cX10_closes 643 = .ok (.ireturn, 1) := by decide +kernel
theorem dX10_amount_0 : decode cX10_amount 0 = .ok (.iload_n 0, 1) := by decide +kernel
theorem dX10_amount_1 : decode cX10_amount 1 = .ok (.ifCond .ge 8, 3) := by decide +kernel
theorem dX10_amount_4 : decode cX10_amount 4 = .ok (.iload_n 0, 1) := by decide +kernel
theorem dX10_amount_5 : decode cX10_amount 5 = .ok (.ineg, 1) := by decide +kernel
theorem dX10_amount_6 : decode cX10_amount 6 = .ok (.goto 4, 3) := by decide +kernel
theorem dX10_amount_9 : decode cX10_amount 9 = .ok (.iload_n 0, 1) := by decide +kernel
theorem dX10_amount_10 : decode cX10_amount 10 = .ok (.ireturn, 1) := by decide +kernel
theorem dX10_looks_0 : decode cX10_looks 0 = .ok (.lconst 0, 1) := by decide +kernel
theorem dX10_looks_1 : decode cX10_looks 1 = .ok (.lstore_n 3, 1) := by decide +kernel
theorem dX10_looks_2 : decode cX10_looks 2 = .ok (.iconst 0, 1) := by decide +kernel
theorem dX10_looks_3 : decode cX10_looks 3 = .ok (.istore 5, 2) := by decide +kernel
theorem dX10_looks_5 : decode cX10_looks 5 = .ok (.aload_n 0, 1) := by decide +kernel
theorem dX10_looks_6 : decode cX10_looks 6 = .ok (.getfield 137, 3) := by decide +kernel
theorem dX10_looks_9 : decode cX10_looks 9 = .ok (.aload_n 0, 1) := by decide +kernel
theorem dX10_looks_10 : decode cX10_looks 10 = .ok (.getfield 16, 3) := by decide +kernel
theorem dX10_looks_13 : decode cX10_looks 13 = .ok (.iload_n 1, 1) := by decide +kernel
theorem dX10_looks_14 : decode cX10_looks 14 = .ok (.iaload, 1) := by decide +kernel
theorem dX10_looks_15 : decode cX10_looks 15 = .ok (.isub, 1) := by decide +kernel
theorem dX10_looks_16 : decode cX10_looks 16 = .ok (.istore 6, 2) := by decide +kernel
theorem dX10_looks_18 : decode cX10_looks 18 = .ok (.iload 6, 2) := by decide +kernel
theorem dX10_looks_20 : decode cX10_looks 20 = .ok (.aload_n 0, 1) := by decide +kernel
theorem dX10_looks_21 : decode cX10_looks 21 = .ok (.getfield 137, 3) := by decide +kernel
theorem dX10_looks_24 : decode cX10_looks 24 = .ok (.if_icmp .ge 44, 3) := by decide +kernel
theorem dX10_looks_27 : decode cX10_looks 27 = .ok (.aload_n 0, 1) := by decide +kernel
theorem dX10_looks_28 : decode cX10_looks 28 = .ok (.iload 6, 2) := by decide +kernel
theorem dX10_looks_30 : decode cX10_looks 30 = .ok (.iload_n 1, 1) := by decide +kernel
theorem dX10_looks_31 : decode cX10_looks 31 = .ok (.invokevirtual 214, 3) := by decide +kernel
theorem dX10_looks_34 : decode cX10_looks 34 = .ok (.ifCond .ne 6, 3) := by decide +kernel
theorem dX10_looks_37 : decode cX10_looks 37 = .ok (.goto 25, 3) := by decide +kernel
theorem dX10_looks_40 : decode cX10_looks 40 = .ok (.lload_n 3, 1) := by decide +kernel
theorem dX10_looks_41 : decode cX10_looks 41 = .ok (.aload_n 0, 1) := by decide +kernel
theorem dX10_looks_42 : decode cX10_looks 42 = .ok (.getfield 71, 3) := by decide +kernel
theorem dX10_looks_45 : decode cX10_looks 45 = .ok (.aload_n 0, 1) := by decide +kernel
theorem dX10_looks_46 : decode cX10_looks 46 = .ok (.iload 6, 2) := by decide +kernel
theorem dX10_looks_48 : decode cX10_looks 48 = .ok (.iload_n 1, 1) := by decide +kernel
theorem dX10_looks_49 : decode cX10_looks 49 = .ok (.invokevirtual 140, 3) := by decide +kernel
theorem dX10_looks_52 : decode cX10_looks 52 = .ok (.iaload, 1) := by decide +kernel
theorem dX10_looks_53 : decode cX10_looks 53 = .ok (.invokestatic 248, 3) := by decide +kernel
theorem dX10_looks_56 : decode cX10_looks 56 = .ok (.i2l, 1) := by decide +kernel
theorem dX10_looks_57 : decode cX10_looks 57 = .ok (.ladd, 1) := by decide +kernel
theorem dX10_looks_58 : decode cX10_looks 58 = .ok (.lstore_n 3, 1) := by decide +kernel
theorem dX10_looks_59 : decode cX10_looks 59 = .ok (.iinc 5 1, 3) := by decide +kernel
theorem dX10_looks_62 : decode cX10_looks 62 = .ok (.iinc 6 1, 3) := by decide +kernel
theorem dX10_looks_65 : decode cX10_looks 65 = .ok (.goto (-47), 3) := by decide +kernel
theorem dX10_looks_68 : decode cX10_looks 68 = .ok (.iload 5, 2) := by decide +kernel
theorem dX10_looks_70 : decode cX10_looks 70 = .ok (.ifCond .ne 7, 3) := by decide +kernel
theorem dX10_looks_73 : decode cX10_looks 73 = .ok (.lconst 0, 1) := by decide +kernel
theorem dX10_looks_74 : decode cX10_looks 74 = .ok (.goto 8, 3) := by decide +kernel
theorem dX10_looks_77 : decode cX10_looks 77 = .ok (.lload_n 3, 1) := by decide +kernel
theorem dX10_looks_78 : decode cX10_looks 78 = .ok (.iload 5, 2) := by decide +kernel
theorem dX10_looks_80 : decode cX10_looks 80 = .ok (.i2l, 1) := by decide +kernel
theorem dX10_looks_81 : decode cX10_looks 81 = .ok (.ldiv, 1) := by decide +kernel
theorem dX10_looks_82 : decode cX10_looks 82 = .ok (.lstore 6, 2) := by decide +kernel
theorem dX10_looks_84 : decode cX10_looks 84 = .ok (.aload_n 0, 1) := by decide +kernel
theorem dX10_looks_85 : decode cX10_looks 85 = .ok (.getfield 35, 3) := by decide +kernel
theorem dX10_looks_88 : decode cX10_looks 88 = .ok (.iload_n 1, 1) := by decide +kernel
theorem dX10_looks_89 : decode cX10_looks 89 = .ok (.iaload, 1) := by decide +kernel
theorem dX10_looks_90 : decode cX10_looks 90 = .ok (.aload_n 0, 1) := by decide +kernel
theorem dX10_looks_91 : decode cX10_looks 91 = .ok (.getfield 137, 3) := by decide +kernel
theorem dX10_looks_94 : decode cX10_looks 94 = .ok (.iconst 1, 1) := by decide +kernel
theorem dX10_looks_95 : decode cX10_looks 95 = .ok (.isub, 1) := by decide +kernel
theorem dX10_looks_96 : decode cX10_looks 96 = .ok (.if_icmp .ne 77, 3) := by decide +kernel
theorem dX10_looks_99 : decode cX10_looks 99 = .ok (.aload_n 0, 1) := by decide +kernel
theorem dX10_looks_100 : decode cX10_looks 100 = .ok (.getfield 71, 3) := by decide +kernel
theorem dX10_looks_103 : decode cX10_looks 103 = .ok (.aload_n 0, 1) := by decide +kernel
theorem dX10_looks_104 : decode cX10_looks 104 = .ok (.aload_n 0, 1) := by decide +kernel
theorem dX10_looks_105 : decode cX10_looks 105 = .ok (.getfield 137, 3) := by decide +kernel
theorem dX10_looks_108 : decode cX10_looks 108 = .ok (.iconst 1, 1) := by decide +kernel
theorem dX10_looks_109 : decode cX10_looks 109 = .ok (.isub, 1) := by decide +kernel
theorem dX10_looks_110 : decode cX10_looks 110 = .ok (.iload_n 1, 1) := by decide +kernel
theorem dX10_looks_111 : decode cX10_looks 111 = .ok (.invokevirtual 140, 3) := by decide +kernel
theorem dX10_looks_114 : decode cX10_looks 114 = .ok (.iaload, 1) := by decide +kernel
theorem dX10_looks_115 : decode cX10_looks 115 = .ok (.istore 8, 2) := by decide +kernel
theorem dX10_looks_117 : decode cX10_looks 117 = .ok (.iload 8, 2) := by decide +kernel
theorem dX10_looks_119 : decode cX10_looks 119 = .ok (.ifCond .le 7, 3) := by decide +kernel
theorem dX10_looks_122 : decode cX10_looks 122 = .ok (.iload_n 2, 1) := by decide +kernel
theorem dX10_looks_123 : decode cX10_looks 123 = .ok (.ifCond .gt 12, 3) := by decide +kernel
theorem dX10_looks_126 : decode cX10_looks 126 = .ok (.iload 8, 2) := by decide +kernel
theorem dX10_looks_128 : decode cX10_looks 128 = .ok (.ifCond .ge 11, 3) := by decide +kernel
theorem dX10_looks_131 : decode cX10_looks 131 = .ok (.iload_n 2, 1) := by decide +kernel
theorem dX10_looks_132 : decode cX10_looks 132 = .ok (.ifCond .ge 7, 3) := by decide +kernel
theorem dX10_looks_135 : decode cX10_looks 135 = .ok (.iconst 1, 1) := by decide +kernel
theorem dX10_looks_136 : decode cX10_looks 136 = .ok (.goto 4, 3) := by decide +kernel
theorem dX10_looks_139 : decode cX10_looks 139 = .ok (.iconst 0, 1) := by decide +kernel
theorem dX10_looks_140 : decode cX10_looks 140 = .ok (.istore 9, 2) := by decide +kernel
theorem dX10_looks_142 : decode cX10_looks 142 = .ok (.iload 9, 2) := by decide +kernel
theorem dX10_looks_144 : decode cX10_looks 144 = .ok (.ifCond .eq 26, 3) := by decide +kernel
theorem dX10_looks_147 : decode cX10_looks 147 = .ok (.iload_n 2, 1) := by decide +kernel
theorem dX10_looks_148 : decode cX10_looks 148 = .ok (.invokestatic 248, 3) := by decide +kernel
theorem dX10_looks_151 : decode cX10_looks 151 = .ok (.iload 8, 2) := by decide +kernel
theorem dX10_looks_153 : decode cX10_looks 153 = .ok (.invokestatic 248, 3) := by decide +kernel
theorem dX10_looks_156 : decode cX10_looks 156 = .ok (.iconst 1, 1) := by decide +kernel
theorem dX10_looks_157 : decode cX10_looks 157 = .ok (.iadd, 1) := by decide +kernel
theorem dX10_looks_158 : decode cX10_looks 158 = .ok (.iconst 2, 1) := by decide +kernel
theorem dX10_looks_159 : decode cX10_looks 159 = .ok (.idiv, 1) := by decide +kernel
theorem dX10_looks_160 : decode cX10_looks 160 = .ok (.if_icmp .lt 10, 3) := by decide +kernel
theorem dX10_looks_163 : decode cX10_looks 163 = .ok (.aload_n 0, 1) := by decide +kernel
theorem dX10_looks_164 : decode cX10_looks 164 = .ok (.iload_n 1, 1) := by decide +kernel
theorem dX10_looks_165 : decode cX10_looks 165 = .ok (.iload 8, 2) := by decide +kernel
theorem dX10_looks_167 : decode cX10_looks 167 = .ok (.invokevirtual 251, 3) := by decide +kernel
theorem dX10_looks_170 : decode cX10_looks 170 = .ok (.goto 32, 3) := by decide +kernel
theorem dX10_looks_173 : decode cX10_looks 173 = .ok (.iload_n 2, 1) := by decide +kernel
theorem dX10_looks_174 : decode cX10_looks 174 = .ok (.invokestatic 248, 3) := by decide +kernel
theorem dX10_looks_177 : decode cX10_looks 177 = .ok (.i2l, 1) := by decide +kernel
theorem dX10_looks_178 : decode cX10_looks 178 = .ok (.aload_n 0, 1) := by decide +kernel
theorem dX10_looks_179 : decode cX10_looks 179 = .ok (.getfield 102, 3) := by decide +kernel
theorem dX10_looks_182 : decode cX10_looks 182 = .ok (.i2l, 1) := by decide +kernel
theorem dX10_looks_183 : decode cX10_looks 183 = .ok (.lload 6, 2) := by decide +kernel
theorem dX10_looks_185 : decode cX10_looks 185 = .ok (.lconst 1, 1) := by decide +kernel
theorem dX10_looks_186 : decode cX10_looks 186 = .ok (.ladd, 1) := by decide +kernel
theorem dX10_looks_187 : decode cX10_looks 187 = .ok (.lmul, 1) := by decide +kernel
theorem dX10_looks_188 : decode cX10_looks 188 = .ok (.lcmp, 1) := by decide +kernel
theorem dX10_looks_189 : decode cX10_looks 189 = .ok (.ifCond .le 13, 3) := by decide +kernel
theorem dX10_looks_192 : decode cX10_looks 192 = .ok (.aload_n 0, 1) := by decide +kernel
theorem dX10_looks_193 : decode cX10_looks 193 = .ok (.getfield 35, 3) := by decide +kernel
theorem dX10_looks_196 : decode cX10_looks 196 = .ok (.iload_n 1, 1) := by decide +kernel
theorem dX10_looks_197 : decode cX10_looks 197 = .ok (.aload_n 0, 1) := by decide +kernel
theorem dX10_looks_198 : decode cX10_looks 198 = .ok (.getfield 137, 3) := by decide +kernel
theorem dX10_looks_201 : decode cX10_looks 201 = .ok (.iastore, 1) := by decide +kernel
theorem dX10_looks_202 : decode cX10_looks 202 = .ok (.iload_n 2, 1) := by decide +kernel
theorem dX10_looks_203 : decode cX10_looks 203 = .ok (.ifCond .eq 7, 3) := by decide +kernel
theorem dX10_looks_206 : decode cX10_looks 206 = .ok (.iconst 1, 1) := by decide +kernel
theorem dX10_looks_207 : decode cX10_looks 207 = .ok (.goto 4, 3) := by decide +kernel
theorem dX10_looks_210 : decode cX10_looks 210 = .ok (.iconst 0, 1) := by decide +kernel
theorem dX10_looks_211 : decode cX10_looks 211 = .ok (.istore 8, 2) := by decide +kernel
theorem dX10_looks_213 : decode cX10_looks 213 = .ok (.iload_n 2, 1) := by decide +kernel
theorem dX10_looks_214 : decode cX10_looks 214 = .ok (.istore 9, 2) := by decide +kernel
theorem dX10_looks_216 : decode cX10_looks 216 = .ok (.aload_n 0, 1) := by decide +kernel
theorem dX10_looks_217 : decode cX10_looks 217 = .ok (.getfield 137, 3) := by decide +kernel
theorem dX10_looks_220 : decode cX10_looks 220 = .ok (.iconst 1, 1) := by decide +kernel
theorem dX10_looks_221 : decode cX10_looks 221 = .ok (.isub, 1) := by decide +kernel
theorem dX10_looks_222 : decode cX10_looks 222 = .ok (.istore 10, 2) := by decide +kernel
theorem dX10_looks_224 : decode cX10_looks 224 = .ok (.iload 10, 2) := by decide +kernel
theorem dX10_looks_226 : decode cX10_looks 226 = .ok (.aload_n 0, 1) := by decide +kernel
theorem dX10_looks_227 : decode cX10_looks 227 = .ok (.getfield 137, 3) := by decide +kernel
theorem dX10_looks_230 : decode cX10_looks 230 = .ok (.iconst 3, 1) := by decide +kernel
theorem dX10_looks_231 : decode cX10_looks 231 = .ok (.isub, 1) := by decide +kernel
theorem dX10_looks_232 : decode cX10_looks 232 = .ok (.if_icmp .lt 120, 3) := by decide +kernel
theorem dX10_looks_235 : decode cX10_looks 235 = .ok (.iload 8, 2) := by decide +kernel
theorem dX10_looks_237 : decode cX10_looks 237 = .ok (.ifCond .eq 115, 3) := by decide +kernel
theorem dX10_looks_240 : decode cX10_looks 240 = .ok (.aload_n 0, 1) := by decide +kernel
theorem dX10_looks_241 : decode cX10_looks 241 = .ok (.iload 10, 2) := by decide +kernel
theorem dX10_looks_243 : decode cX10_looks 243 = .ok (.iload_n 1, 1) := by decide +kernel
theorem dX10_looks_244 : decode cX10_looks 244 = .ok (.invokevirtual 214, 3) := by decide +kernel
theorem dX10_looks_247 : decode cX10_looks 247 = .ok (.ifCond .eq 77, 3) := by decide +kernel
theorem dX10_looks_250 : decode cX10_looks 250 = .ok (.aload_n 0, 1) := by decide +kernel
theorem dX10_looks_251 : decode cX10_looks 251 = .ok (.getfield 71, 3) := by decide +kernel
theorem dX10_looks_254 : decode cX10_looks 254 = .ok (.aload_n 0, 1) := by decide +kernel
theorem dX10_looks_255 : decode cX10_looks 255 = .ok (.iload 10, 2) := by decide +kernel
theorem dX10_looks_257 : decode cX10_looks 257 = .ok (.iload_n 1, 1) := by decide +kernel
theorem dX10_looks_258 : decode cX10_looks 258 = .ok (.invokevirtual 140, 3) := by decide +kernel
theorem dX10_looks_261 : decode cX10_looks 261 = .ok (.iaload, 1) := by decide +kernel
theorem dX10_looks_262 : decode cX10_looks 262 = .ok (.ifCond .le 7, 3) := by decide +kernel
theorem dX10_looks_265 : decode cX10_looks 265 = .ok (.iconst 1, 1) := by decide +kernel
theorem dX10_looks_266 : decode cX10_looks 266 = .ok (.goto 4, 3) := by decide +kernel
theorem dX10_looks_269 : decode cX10_looks 269 = .ok (.iconst 0, 1) := by decide +kernel
theorem dX10_looks_270 : decode cX10_looks 270 = .ok (.iload_n 2, 1) := by decide +kernel
theorem dX10_looks_271 : decode cX10_looks 271 = .ok (.ifCond .le 7, 3) := by decide +kernel
theorem dX10_looks_274 : decode cX10_looks 274 = .ok (.iconst 1, 1) := by decide +kernel
theorem dX10_looks_275 : decode cX10_looks 275 = .ok (.goto 4, 3) := by decide +kernel
theorem dX10_looks_278 : decode cX10_looks 278 = .ok (.iconst 0, 1) := by decide +kernel
theorem dX10_looks_279 : decode cX10_looks 279 = .ok (.if_icmp .ne 45, 3) := by decide +kernel
theorem dX10_looks_282 : decode cX10_looks 282 = .ok (.aload_n 0, 1) := by decide +kernel
theorem dX10_looks_283 : decode cX10_looks 283 = .ok (.getfield 71, 3) := by decide +kernel
theorem dX10_looks_286 : decode cX10_looks 286 = .ok (.aload_n 0, 1) := by decide +kernel
theorem dX10_looks_287 : decode cX10_looks 287 = .ok (.iload 10, 2) := by decide +kernel
theorem dX10_looks_289 : decode cX10_looks 289 = .ok (.iload_n 1, 1) := by decide +kernel
theorem dX10_looks_290 : decode cX10_looks 290 = .ok (.invokevirtual 140, 3) := by decide +kernel
theorem dX10_looks_293 : decode cX10_looks 293 = .ok (.iaload, 1) := by decide +kernel
theorem dX10_looks_294 : decode cX10_looks 294 = .ok (.ifCond .eq 30, 3) := by decide +kernel
theorem dX10_looks_297 : decode cX10_looks 297 = .ok (.aload_n 0, 1) := by decide +kernel
theorem dX10_looks_298 : decode cX10_looks 298 = .ok (.getfield 71, 3) := by decide +kernel
theorem dX10_looks_301 : decode cX10_looks 301 = .ok (.aload_n 0, 1) := by decide +kernel
theorem dX10_looks_302 : decode cX10_looks 302 = .ok (.iload 10, 2) := by decide +kernel
theorem dX10_looks_304 : decode cX10_looks 304 = .ok (.iload_n 1, 1) := by decide +kernel
theorem dX10_looks_305 : decode cX10_looks 305 = .ok (.invokevirtual 140, 3) := by decide +kernel
theorem dX10_looks_308 : decode cX10_looks 308 = .ok (.iaload, 1) := by decide +kernel
theorem dX10_looks_309 : decode cX10_looks 309 = .ok (.invokestatic 248, 3) := by decide +kernel
theorem dX10_looks_312 : decode cX10_looks 312 = .ok (.iload 9, 2) := by decide +kernel
theorem dX10_looks_314 : decode cX10_looks 314 = .ok (.invokestatic 248, 3) := by decide +kernel
theorem dX10_looks_317 : decode cX10_looks 317 = .ok (.if_icmp .ge 7, 3) := by decide +kernel
theorem dX10_looks_320 : decode cX10_looks 320 = .ok (.iconst 1, 1) := by decide +kernel
theorem dX10_looks_321 : decode cX10_looks 321 = .ok (.goto 4, 3) := by decide +kernel
theorem dX10_looks_324 : decode cX10_looks 324 = .ok (.iconst 0, 1) := by decide +kernel
theorem dX10_looks_325 : decode cX10_looks 325 = .ok (.istore 8, 2) := by decide +kernel
theorem dX10_looks_327 : decode cX10_looks 327 = .ok (.iload 8, 2) := by decide +kernel
theorem dX10_looks_329 : decode cX10_looks 329 = .ok (.ifCond .eq 17, 3) := by decide +kernel
theorem dX10_looks_332 : decode cX10_looks 332 = .ok (.aload_n 0, 1) := by decide +kernel
theorem dX10_looks_333 : decode cX10_looks 333 = .ok (.getfield 71, 3) := by decide +kernel
theorem dX10_looks_336 : decode cX10_looks 336 = .ok (.aload_n 0, 1) := by decide +kernel
theorem dX10_looks_337 : decode cX10_looks 337 = .ok (.iload 10, 2) := by decide +kernel
theorem dX10_looks_339 : decode cX10_looks 339 = .ok (.iload_n 1, 1) := by decide +kernel
theorem dX10_looks_340 : decode cX10_looks 340 = .ok (.invokevirtual 140, 3) := by decide +kernel
theorem dX10_looks_343 : decode cX10_looks 343 = .ok (.iaload, 1) := by decide +kernel
theorem dX10_looks_344 : decode cX10_looks 344 = .ok (.istore 9, 2) := by decide +kernel
theorem dX10_looks_346 : decode cX10_looks 346 = .ok (.iinc 10 (-1), 3) := by decide +kernel
theorem dX10_looks_349 : decode cX10_looks 349 = .ok (.goto (-125), 3) := by decide +kernel
theorem dX10_looks_352 : decode cX10_looks 352 = .ok (.aload_n 0, 1) := by decide +kernel
theorem dX10_looks_353 : decode cX10_looks 353 = .ok (.getfield 41, 3) := by decide +kernel
theorem dX10_looks_356 : decode cX10_looks 356 = .ok (.iload_n 1, 1) := by decide +kernel
theorem dX10_looks_357 : decode cX10_looks 357 = .ok (.dup2, 1) := by decide +kernel
theorem dX10_looks_358 : decode cX10_looks 358 = .ok (.iaload, 1) := by decide +kernel
theorem dX10_looks_359 : decode cX10_looks 359 = .ok (.iload 8, 2) := by decide +kernel
theorem dX10_looks_361 : decode cX10_looks 361 = .ok (.ifCond .eq 7, 3) := by decide +kernel
theorem dX10_looks_364 : decode cX10_looks 364 = .ok (.iconst 1, 1) := by decide +kernel
theorem dX10_looks_365 : decode cX10_looks 365 = .ok (.goto 4, 3) := by decide +kernel
theorem dX10_looks_368 : decode cX10_looks 368 = .ok (.iconst 0, 1) := by decide +kernel
theorem dX10_looks_369 : decode cX10_looks 369 = .ok (.iadd, 1) := by decide +kernel
theorem dX10_looks_370 : decode cX10_looks 370 = .ok (.iastore, 1) := by decide +kernel
theorem dX10_looks_371 : decode cX10_looks 371 = .ok (.return_, 1) := by decide +kernel
theorem dX10_steps_0 : decode cX10_steps 0 = .ok (.aload_n 0, 1) := by decide +kernel
theorem dX10_steps_1 : decode cX10_steps 1 = .ok (.getfield 26, 3) := by decide +kernel
theorem dX10_steps_4 : decode cX10_steps 4 = .ok (.iload_n 1, 1) := by decide +kernel
theorem dX10_steps_5 : decode cX10_steps 5 = .ok (.iconst 1, 1) := by decide +kernel
theorem dX10_steps_6 : decode cX10_steps 6 = .ok (.bastore, 1) := by decide +kernel
theorem dX10_steps_7 : decode cX10_steps 7 = .ok (.aload_n 0, 1) := by decide +kernel
theorem dX10_steps_8 : decode cX10_steps 8 = .ok (.getfield 38, 3) := by decide +kernel
theorem dX10_steps_11 : decode cX10_steps 11 = .ok (.iload_n 1, 1) := by decide +kernel
theorem dX10_steps_12 : decode cX10_steps 12 = .ok (.dup2, 1) := by decide +kernel
theorem dX10_steps_13 : decode cX10_steps 13 = .ok (.iaload, 1) := by decide +kernel
theorem dX10_steps_14 : decode cX10_steps 14 = .ok (.iconst 1, 1) := by decide +kernel
theorem dX10_steps_15 : decode cX10_steps 15 = .ok (.iadd, 1) := by decide +kernel
theorem dX10_steps_16 : decode cX10_steps 16 = .ok (.iastore, 1) := by decide +kernel
theorem dX10_steps_17 : decode cX10_steps 17 = .ok (.aload_n 0, 1) := by decide +kernel
theorem dX10_steps_18 : decode cX10_steps 18 = .ok (.getfield 254, 3) := by decide +kernel
theorem dX10_steps_21 : decode cX10_steps 21 = .ok (.bipush 100, 2) := by decide +kernel
theorem dX10_steps_23 : decode cX10_steps 23 = .ok (.if_icmp .ge 48, 3) := by decide +kernel
theorem dX10_steps_26 : decode cX10_steps 26 = .ok (.aload_n 0, 1) := by decide +kernel
theorem dX10_steps_27 : decode cX10_steps 27 = .ok (.getfield 108, 3) := by decide +kernel
theorem dX10_steps_30 : decode cX10_steps 30 = .ok (.aload_n 0, 1) := by decide +kernel
theorem dX10_steps_31 : decode cX10_steps 31 = .ok (.getfield 254, 3) := by decide +kernel
theorem dX10_steps_34 : decode cX10_steps 34 = .ok (.aload_n 0, 1) := by decide +kernel
theorem dX10_steps_35 : decode cX10_steps 35 = .ok (.getfield 137, 3) := by decide +kernel
theorem dX10_steps_38 : decode cX10_steps 38 = .ok (.iconst 1, 1) := by decide +kernel
theorem dX10_steps_39 : decode cX10_steps 39 = .ok (.isub, 1) := by decide +kernel
theorem dX10_steps_40 : decode cX10_steps 40 = .ok (.iastore, 1) := by decide +kernel
theorem dX10_steps_41 : decode cX10_steps 41 = .ok (.aload_n 0, 1) := by decide +kernel
theorem dX10_steps_42 : decode cX10_steps 42 = .ok (.getfield 111, 3) := by decide +kernel
theorem dX10_steps_45 : decode cX10_steps 45 = .ok (.aload_n 0, 1) := by decide +kernel
theorem dX10_steps_46 : decode cX10_steps 46 = .ok (.getfield 254, 3) := by decide +kernel
theorem dX10_steps_49 : decode cX10_steps 49 = .ok (.iload_n 1, 1) := by decide +kernel
theorem dX10_steps_50 : decode cX10_steps 50 = .ok (.iastore, 1) := by decide +kernel
theorem dX10_steps_51 : decode cX10_steps 51 = .ok (.aload_n 0, 1) := by decide +kernel
theorem dX10_steps_52 : decode cX10_steps 52 = .ok (.getfield 114, 3) := by decide +kernel
theorem dX10_steps_55 : decode cX10_steps 55 = .ok (.aload_n 0, 1) := by decide +kernel
theorem dX10_steps_56 : decode cX10_steps 56 = .ok (.getfield 254, 3) := by decide +kernel
theorem dX10_steps_59 : decode cX10_steps 59 = .ok (.iload_n 2, 1) := by decide +kernel
theorem dX10_steps_60 : decode cX10_steps 60 = .ok (.iastore, 1) := by decide +kernel
theorem dX10_steps_61 : decode cX10_steps 61 = .ok (.aload_n 0, 1) := by decide +kernel
theorem dX10_steps_62 : decode cX10_steps 62 = .ok (.dup, 1) := by decide +kernel
theorem dX10_steps_63 : decode cX10_steps 63 = .ok (.getfield 254, 3) := by decide +kernel
theorem dX10_steps_66 : decode cX10_steps 66 = .ok (.iconst 1, 1) := by decide +kernel
theorem dX10_steps_67 : decode cX10_steps 67 = .ok (.iadd, 1) := by decide +kernel
theorem dX10_steps_68 : decode cX10_steps 68 = .ok (.putfield 254, 3) := by decide +kernel
theorem dX10_steps_71 : decode cX10_steps 71 = .ok (.return_, 1) := by decide +kernel
theorem dX10_hour_0 : decode cX10_hour 0 = .ok (.aload_n 0, 1) := by decide +kernel
theorem dX10_hour_1 : decode cX10_hour 1 = .ok (.getfield 137, 3) := by decide +kernel
theorem dX10_hour_4 : decode cX10_hour 4 = .ok (.ireturn, 1) := by decide +kernel
theorem dX10_as_0 : decode cX10_as 0 = .ok (.iload_n 3, 1) := by decide +kernel
theorem dX10_as_1 : decode cX10_as 1 = .ok (.iconst 0, 1) := by decide +kernel
theorem dX10_as_2 : decode cX10_as 2 = .ok (.iconst 4, 1) := by decide +kernel
theorem dX10_as_3 : decode cX10_as 3 = .ok (.invokestatic 129, 3) := by decide +kernel
theorem dX10_as_6 : decode cX10_as 6 = .ok (.ifCond .ne 5, 3) := by decide +kernel
theorem dX10_as_9 : decode cX10_as 9 = .ok (.iconst (-1), 1) := by decide +kernel
theorem dX10_as_10 : decode cX10_as 10 = .ok (.ireturn, 1) := by decide +kernel
theorem dX10_as_11 : decode cX10_as 11 = .ok (.iload_n 2, 1) := by decide +kernel
theorem dX10_as_12 : decode cX10_as 12 = .ok (.iconst 0, 1) := by decide +kernel
theorem dX10_as_13 : decode cX10_as 13 = .ok (.bipush 23, 2) := by decide +kernel
theorem dX10_as_15 : decode cX10_as 15 = .ok (.invokestatic 129, 3) := by decide +kernel
theorem dX10_as_18 : decode cX10_as 18 = .ok (.ifCond .eq 31, 3) := by decide +kernel
theorem dX10_as_21 : decode cX10_as 21 = .ok (.iload_n 1, 1) := by decide +kernel
theorem dX10_as_22 : decode cX10_as 22 = .ok (.iconst 0, 1) := by decide +kernel
theorem dX10_as_23 : decode cX10_as 23 = .ok (.aload_n 0, 1) := by decide +kernel
theorem dX10_as_24 : decode cX10_as 24 = .ok (.getfield 137, 3) := by decide +kernel
theorem dX10_as_27 : decode cX10_as 27 = .ok (.iconst 1, 1) := by decide +kernel
theorem dX10_as_28 : decode cX10_as 28 = .ok (.isub, 1) := by decide +kernel
theorem dX10_as_29 : decode cX10_as 29 = .ok (.invokestatic 129, 3) := by decide +kernel
theorem dX10_as_32 : decode cX10_as 32 = .ok (.ifCond .eq 17, 3) := by decide +kernel
theorem dX10_as_35 : decode cX10_as 35 = .ok (.aload_n 0, 1) := by decide +kernel
theorem dX10_as_36 : decode cX10_as 36 = .ok (.getfield 59, 3) := by decide +kernel
theorem dX10_as_39 : decode cX10_as 39 = .ok (.aload_n 0, 1) := by decide +kernel
theorem dX10_as_40 : decode cX10_as 40 = .ok (.iload_n 1, 1) := by decide +kernel
theorem dX10_as_41 : decode cX10_as 41 = .ok (.iload_n 2, 1) := by decide +kernel
theorem dX10_as_42 : decode cX10_as 42 = .ok (.invokevirtual 140, 3) := by decide +kernel
theorem dX10_as_45 : decode cX10_as 45 = .ok (.baload, 1) := by decide +kernel
theorem dX10_as_46 : decode cX10_as 46 = .ok (.ifCond .ne 15, 3) := by decide +kernel
theorem dX10_as_49 : decode cX10_as 49 = .ok (.iload_n 3, 1) := by decide +kernel
theorem dX10_as_50 : decode cX10_as 50 = .ok (.iconst 3, 1) := by decide +kernel
theorem dX10_as_51 : decode cX10_as 51 = .ok (.if_icmp .ne 7, 3) := by decide +kernel
theorem dX10_as_54 : decode cX10_as 54 = .ok (.iconst 0, 1) := by decide +kernel
theorem dX10_as_55 : decode cX10_as 55 = .ok (.goto 5, 3) := by decide +kernel
theorem dX10_as_58 : decode cX10_as 58 = .ok (.ldc 203, 2) := by decide +kernel
theorem dX10_as_60 : decode cX10_as 60 = .ok (.ireturn, 1) := by decide +kernel
theorem dX10_as_61 : decode cX10_as 61 = .ok (.aload_n 0, 1) := by decide +kernel
theorem dX10_as_62 : decode cX10_as 62 = .ok (.iload_n 1, 1) := by decide +kernel
theorem dX10_as_63 : decode cX10_as 63 = .ok (.iload_n 2, 1) := by decide +kernel
theorem dX10_as_64 : decode cX10_as 64 = .ok (.invokevirtual 140, 3) := by decide +kernel
theorem dX10_as_67 : decode cX10_as 67 = .ok (.istore 4, 2) := by decide +kernel
theorem dX10_as_69 : decode cX10_as 69 = .ok (.iload_n 3, 1) := by decide +kernel
theorem dX10_as_70 : decode cX10_as 70 = .ok (.tableswitch 92 0 3 #[30, 38, 61, 84], 30) := by decide +kernel
theorem dX10_as_100 : decode cX10_as 100 = .ok (.aload_n 0, 1) := by decide +kernel
theorem dX10_as_101 : decode cX10_as 101 = .ok (.getfield 65, 3) := by decide +kernel
theorem dX10_as_104 : decode cX10_as 104 = .ok (.iload 4, 2) := by decide +kernel
theorem dX10_as_106 : decode cX10_as 106 = .ok (.iaload, 1) := by decide +kernel
theorem dX10_as_107 : decode cX10_as 107 = .ok (.ireturn, 1) := by decide +kernel
theorem dX10_as_108 : decode cX10_as 108 = .ok (.aload_n 0, 1) := by decide +kernel
theorem dX10_as_109 : decode cX10_as 109 = .ok (.getfield 62, 3) := by decide +kernel
theorem dX10_as_112 : decode cX10_as 112 = .ok (.iload 4, 2) := by decide +kernel
theorem dX10_as_114 : decode cX10_as 114 = .ok (.baload, 1) := by decide +kernel
theorem dX10_as_115 : decode cX10_as 115 = .ok (.ifCond .eq 13, 3) := by decide +kernel
theorem dX10_as_118 : decode cX10_as 118 = .ok (.aload_n 0, 1) := by decide +kernel
theorem dX10_as_119 : decode cX10_as 119 = .ok (.getfield 68, 3) := by decide +kernel
theorem dX10_as_122 : decode cX10_as 122 = .ok (.iload 4, 2) := by decide +kernel
theorem dX10_as_124 : decode cX10_as 124 = .ok (.iaload, 1) := by decide +kernel
theorem dX10_as_125 : decode cX10_as 125 = .ok (.goto 5, 3) := by decide +kernel
theorem dX10_as_128 : decode cX10_as 128 = .ok (.ldc 203, 2) := by decide +kernel
theorem dX10_as_130 : decode cX10_as 130 = .ok (.ireturn, 1) := by decide +kernel
theorem dX10_as_131 : decode cX10_as 131 = .ok (.aload_n 0, 1) := by decide +kernel
theorem dX10_as_132 : decode cX10_as 132 = .ok (.getfield 62, 3) := by decide +kernel
theorem dX10_as_135 : decode cX10_as 135 = .ok (.iload 4, 2) := by decide +kernel
theorem dX10_as_137 : decode cX10_as 137 = .ok (.baload, 1) := by decide +kernel
theorem dX10_as_138 : decode cX10_as 138 = .ok (.ifCond .eq 13, 3) := by decide +kernel
theorem dX10_as_141 : decode cX10_as 141 = .ok (.aload_n 0, 1) := by decide +kernel
theorem dX10_as_142 : decode cX10_as 142 = .ok (.getfield 71, 3) := by decide +kernel
theorem dX10_as_145 : decode cX10_as 145 = .ok (.iload 4, 2) := by decide +kernel
theorem dX10_as_147 : decode cX10_as 147 = .ok (.iaload, 1) := by decide +kernel
theorem dX10_as_148 : decode cX10_as 148 = .ok (.goto 5, 3) := by decide +kernel
theorem dX10_as_151 : decode cX10_as 151 = .ok (.ldc 203, 2) := by decide +kernel
theorem dX10_as_153 : decode cX10_as 153 = .ok (.ireturn, 1) := by decide +kernel
theorem dX10_as_154 : decode cX10_as 154 = .ok (.aload_n 0, 1) := by decide +kernel
theorem dX10_as_155 : decode cX10_as 155 = .ok (.getfield 74, 3) := by decide +kernel
theorem dX10_as_158 : decode cX10_as 158 = .ok (.iload 4, 2) := by decide +kernel
theorem dX10_as_160 : decode cX10_as 160 = .ok (.iaload, 1) := by decide +kernel
theorem dX10_as_161 : decode cX10_as 161 = .ok (.ireturn, 1) := by decide +kernel
theorem dX10_as_162 : decode cX10_as 162 = .ok (.aload_n 0, 1) := by decide +kernel
theorem dX10_as_163 : decode cX10_as 163 = .ok (.getfield 77, 3) := by decide +kernel
theorem dX10_as_166 : decode cX10_as 166 = .ok (.iload 4, 2) := by decide +kernel
theorem dX10_as_168 : decode cX10_as 168 = .ok (.iaload, 1) := by decide +kernel
theorem dX10_as_169 : decode cX10_as 169 = .ok (.ireturn, 1) := by decide +kernel
theorem dX10_paper_0 : decode cX10_paper 0 = .ok (.iload_n 1, 1) := by decide +kernel
theorem dX10_paper_1 : decode cX10_paper 1 = .ok (.iconst 0, 1) := by decide +kernel
theorem dX10_paper_2 : decode cX10_paper 2 = .ok (.aload_n 0, 1) := by decide +kernel
theorem dX10_paper_3 : decode cX10_paper 3 = .ok (.getfield 137, 3) := by decide +kernel
theorem dX10_paper_6 : decode cX10_paper 6 = .ok (.iconst 1, 1) := by decide +kernel
theorem dX10_paper_7 : decode cX10_paper 7 = .ok (.isub, 1) := by decide +kernel
theorem dX10_paper_8 : decode cX10_paper 8 = .ok (.invokestatic 129, 3) := by decide +kernel
theorem dX10_paper_11 : decode cX10_paper 11 = .ok (.ifCond .eq 13, 3) := by decide +kernel
theorem dX10_paper_14 : decode cX10_paper 14 = .ok (.aload_n 0, 1) := by decide +kernel
theorem dX10_paper_15 : decode cX10_paper 15 = .ok (.getfield 80, 3) := by decide +kernel
theorem dX10_paper_18 : decode cX10_paper 18 = .ok (.iload_n 1, 1) := by decide +kernel
theorem dX10_paper_19 : decode cX10_paper 19 = .ok (.iaload, 1) := by decide +kernel
theorem dX10_paper_20 : decode cX10_paper 20 = .ok (.iconst (-1), 1) := by decide +kernel
theorem dX10_paper_21 : decode cX10_paper 21 = .ok (.if_icmp .ne 5, 3) := by decide +kernel
theorem dX10_paper_24 : decode cX10_paper 24 = .ok (.iconst (-1), 1) := by decide +kernel
theorem dX10_paper_25 : decode cX10_paper 25 = .ok (.ireturn, 1) := by decide +kernel
theorem dX10_paper_26 : decode cX10_paper 26 = .ok (.iload_n 2, 1) := by decide +kernel
theorem dX10_paper_27 : decode cX10_paper 27 = .ok (.tableswitch 79 0 5 #[37, 44, 51, 58, 65, 72], 37) := by decide +kernel
theorem dX10_paper_64 : decode cX10_paper 64 = .ok (.aload_n 0, 1) := by decide +kernel
theorem dX10_paper_65 : decode cX10_paper 65 = .ok (.getfield 80, 3) := by decide +kernel
theorem dX10_paper_68 : decode cX10_paper 68 = .ok (.iload_n 1, 1) := by decide +kernel
theorem dX10_paper_69 : decode cX10_paper 69 = .ok (.iaload, 1) := by decide +kernel
theorem dX10_paper_70 : decode cX10_paper 70 = .ok (.ireturn, 1) := by decide +kernel
theorem dX10_paper_71 : decode cX10_paper 71 = .ok (.aload_n 0, 1) := by decide +kernel
theorem dX10_paper_72 : decode cX10_paper 72 = .ok (.getfield 83, 3) := by decide +kernel
theorem dX10_paper_75 : decode cX10_paper 75 = .ok (.iload_n 1, 1) := by decide +kernel
theorem dX10_paper_76 : decode cX10_paper 76 = .ok (.iaload, 1) := by decide +kernel
theorem dX10_paper_77 : decode cX10_paper 77 = .ok (.ireturn, 1) := by decide +kernel
theorem dX10_paper_78 : decode cX10_paper 78 = .ok (.aload_n 0, 1) := by decide +kernel
theorem dX10_paper_79 : decode cX10_paper 79 = .ok (.getfield 95, 3) := by decide +kernel
theorem dX10_paper_82 : decode cX10_paper 82 = .ok (.iload_n 1, 1) := by decide +kernel
theorem dX10_paper_83 : decode cX10_paper 83 = .ok (.iaload, 1) := by decide +kernel
theorem dX10_paper_84 : decode cX10_paper 84 = .ok (.ireturn, 1) := by decide +kernel
theorem dX10_paper_85 : decode cX10_paper 85 = .ok (.aload_n 0, 1) := by decide +kernel
theorem dX10_paper_86 : decode cX10_paper 86 = .ok (.getfield 86, 3) := by decide +kernel
theorem dX10_paper_89 : decode cX10_paper 89 = .ok (.iload_n 1, 1) := by decide +kernel
theorem dX10_paper_90 : decode cX10_paper 90 = .ok (.iaload, 1) := by decide +kernel
theorem dX10_paper_91 : decode cX10_paper 91 = .ok (.ireturn, 1) := by decide +kernel
theorem dX10_paper_92 : decode cX10_paper 92 = .ok (.aload_n 0, 1) := by decide +kernel
theorem dX10_paper_93 : decode cX10_paper 93 = .ok (.getfield 89, 3) := by decide +kernel
theorem dX10_paper_96 : decode cX10_paper 96 = .ok (.iload_n 1, 1) := by decide +kernel
theorem dX10_paper_97 : decode cX10_paper 97 = .ok (.iaload, 1) := by decide +kernel
theorem dX10_paper_98 : decode cX10_paper 98 = .ok (.ireturn, 1) := by decide +kernel
theorem dX10_paper_99 : decode cX10_paper 99 = .ok (.aload_n 0, 1) := by decide +kernel
theorem dX10_paper_100 : decode cX10_paper 100 = .ok (.getfield 92, 3) := by decide +kernel
theorem dX10_paper_103 : decode cX10_paper 103 = .ok (.iload_n 1, 1) := by decide +kernel
theorem dX10_paper_104 : decode cX10_paper 104 = .ok (.iaload, 1) := by decide +kernel
theorem dX10_paper_105 : decode cX10_paper 105 = .ok (.ireturn, 1) := by decide +kernel
theorem dX10_paper_106 : decode cX10_paper 106 = .ok (.iconst (-1), 1) := by decide +kernel
theorem dX10_paper_107 : decode cX10_paper 107 = .ok (.ireturn, 1) := by decide +kernel
theorem dX10_step_0 : decode cX10_step 0 = .ok (.iload_n 1, 1) := by decide +kernel
theorem dX10_step_1 : decode cX10_step 1 = .ok (.iconst 0, 1) := by decide +kernel
theorem dX10_step_2 : decode cX10_step 2 = .ok (.aload_n 0, 1) := by decide +kernel
theorem dX10_step_3 : decode cX10_step 3 = .ok (.getfield 254, 3) := by decide +kernel
theorem dX10_step_6 : decode cX10_step 6 = .ok (.iconst 1, 1) := by decide +kernel
theorem dX10_step_7 : decode cX10_step 7 = .ok (.isub, 1) := by decide +kernel
theorem dX10_step_8 : decode cX10_step 8 = .ok (.invokestatic 129, 3) := by decide +kernel
theorem dX10_step_11 : decode cX10_step 11 = .ok (.ifCond .ne 5, 3) := by decide +kernel
theorem dX10_step_14 : decode cX10_step 14 = .ok (.iconst (-1), 1) := by decide +kernel
theorem dX10_step_15 : decode cX10_step 15 = .ok (.ireturn, 1) := by decide +kernel
theorem dX10_step_16 : decode cX10_step 16 = .ok (.iload_n 2, 1) := by decide +kernel
theorem dX10_step_17 : decode cX10_step 17 = .ok (.ifCond .ne 12, 3) := by decide +kernel
theorem dX10_step_20 : decode cX10_step 20 = .ok (.aload_n 0, 1) := by decide +kernel
theorem dX10_step_21 : decode cX10_step 21 = .ok (.getfield 108, 3) := by decide +kernel
theorem dX10_step_24 : decode cX10_step 24 = .ok (.iload_n 1, 1) := by decide +kernel
theorem dX10_step_25 : decode cX10_step 25 = .ok (.iaload, 1) := by decide +kernel
theorem dX10_step_26 : decode cX10_step 26 = .ok (.goto 32, 3) := by decide +kernel
theorem dX10_step_29 : decode cX10_step 29 = .ok (.iload_n 2, 1) := by decide +kernel
theorem dX10_step_30 : decode cX10_step 30 = .ok (.iconst 1, 1) := by decide +kernel
theorem dX10_step_31 : decode cX10_step 31 = .ok (.if_icmp .ne 12, 3) := by decide +kernel
theorem dX10_step_34 : decode cX10_step 34 = .ok (.aload_n 0, 1) := by decide +kernel
theorem dX10_step_35 : decode cX10_step 35 = .ok (.getfield 111, 3) := by decide +kernel
theorem dX10_step_38 : decode cX10_step 38 = .ok (.iload_n 1, 1) := by decide +kernel
theorem dX10_step_39 : decode cX10_step 39 = .ok (.iaload, 1) := by decide +kernel
theorem dX10_step_40 : decode cX10_step 40 = .ok (.goto 18, 3) := by decide +kernel
theorem dX10_step_43 : decode cX10_step 43 = .ok (.iload_n 2, 1) := by decide +kernel
theorem dX10_step_44 : decode cX10_step 44 = .ok (.iconst 2, 1) := by decide +kernel
theorem dX10_step_45 : decode cX10_step 45 = .ok (.if_icmp .ne 12, 3) := by decide +kernel
theorem dX10_step_48 : decode cX10_step 48 = .ok (.aload_n 0, 1) := by decide +kernel
theorem dX10_step_49 : decode cX10_step 49 = .ok (.getfield 114, 3) := by decide +kernel
theorem dX10_step_52 : decode cX10_step 52 = .ok (.iload_n 1, 1) := by decide +kernel
theorem dX10_step_53 : decode cX10_step 53 = .ok (.iaload, 1) := by decide +kernel
theorem dX10_step_54 : decode cX10_step 54 = .ok (.goto 4, 3) := by decide +kernel
theorem dX10_step_57 : decode cX10_step 57 = .ok (.iconst (-1), 1) := by decide +kernel
theorem dX10_step_58 : decode cX10_step 58 = .ok (.ireturn, 1) := by decide +kernel
theorem dX10_show_0 : decode cX10_show 0 = .ok (.iload_n 1, 1) := by decide +kernel
theorem dX10_show_1 : decode cX10_show 1 = .ok (.ldc_w 256, 3) := by decide +kernel
theorem dX10_show_4 : decode cX10_show 4 = .ok (.ldc 151, 2) := by decide +kernel
theorem dX10_show_6 : decode cX10_show 6 = .ok (.invokestatic 129, 3) := by decide +kernel
theorem dX10_show_9 : decode cX10_show 9 = .ok (.ifCond .ne 5, 3) := by decide +kernel
theorem dX10_show_12 : decode cX10_show 12 = .ok (.iconst 0, 1) := by decide +kernel
theorem dX10_show_13 : decode cX10_show 13 = .ok (.ireturn, 1) := by decide +kernel
theorem dX10_show_14 : decode cX10_show 14 = .ok (.aload_n 0, 1) := by decide +kernel
theorem dX10_show_15 : decode cX10_show 15 = .ok (.iload_n 1, 1) := by decide +kernel
theorem dX10_show_16 : decode cX10_show 16 = .ok (.putfield 235, 3) := by decide +kernel
theorem dX10_show_19 : decode cX10_show 19 = .ok (.iconst 1, 1) := by decide +kernel
theorem dX10_show_20 : decode cX10_show 20 = .ok (.ireturn, 1) := by decide +kernel
theorem dX10_off_0 : decode cX10_off 0 = .ok (.aload_n 0, 1) := by decide +kernel
theorem dX10_off_1 : decode cX10_off 1 = .ok (.getfield 235, 3) := by decide +kernel
theorem dX10_off_4 : decode cX10_off 4 = .ok (.ireturn, 1) := by decide +kernel
theorem dX10_direct_0 : decode cX10_direct 0 = .ok (.iconst 0, 1) := by decide +kernel
theorem dX10_direct_1 : decode cX10_direct 1 = .ok (.istore 4, 2) := by decide +kernel
theorem dX10_direct_3 : decode cX10_direct 3 = .ok (.iload 4, 2) := by decide +kernel
theorem dX10_direct_5 : decode cX10_direct 5 = .ok (.bipush 24, 2) := by decide +kernel
theorem dX10_direct_7 : decode cX10_direct 7 = .ok (.if_icmp .ge 74, 3) := by decide +kernel
theorem dX10_direct_10 : decode cX10_direct 10 = .ok (.aload_n 0, 1) := by decide +kernel
theorem dX10_direct_11 : decode cX10_direct 11 = .ok (.iload 4, 2) := by decide +kernel
theorem dX10_direct_13 : decode cX10_direct 13 = .ok (.invokevirtual 148, 3) := by decide +kernel
theorem dX10_direct_16 : decode cX10_direct 16 = .ok (.ifCond .eq 59, 3) := by decide +kernel
theorem dX10_direct_19 : decode cX10_direct 19 = .ok (.aload_n 0, 1) := by decide +kernel
theorem dX10_direct_20 : decode cX10_direct 20 = .ok (.iload 4, 2) := by decide +kernel
theorem dX10_direct_22 : decode cX10_direct 22 = .ok (.iload_n 1, 1) := by decide +kernel
theorem dX10_direct_23 : decode cX10_direct 23 = .ok (.invokevirtual 161, 3) := by decide +kernel
theorem dX10_direct_26 : decode cX10_direct 26 = .ok (.iload_n 2, 1) := by decide +kernel
theorem dX10_direct_27 : decode cX10_direct 27 = .ok (.if_icmp .ne 48, 3) := by decide +kernel
theorem dX10_direct_30 : decode cX10_direct 30 = .ok (.aload_n 0, 1) := by decide +kernel
theorem dX10_direct_31 : decode cX10_direct 31 = .ok (.iload 4, 2) := by decide +kernel
theorem dX10_direct_33 : decode cX10_direct 33 = .ok (.iload_n 3, 1) := by decide +kernel
theorem dX10_direct_34 : decode cX10_direct 34 = .ok (.invokevirtual 152, 3) := by decide +kernel
theorem dX10_direct_37 : decode cX10_direct 37 = .ok (.ldc 151, 2) := by decide +kernel
theorem dX10_direct_39 : decode cX10_direct 39 = .ok (.if_icmp .ne 6, 3) := by decide +kernel
theorem dX10_direct_42 : decode cX10_direct 42 = .ok (.goto 33, 3) := by decide +kernel
theorem dX10_direct_45 : decode cX10_direct 45 = .ok (.aload_n 0, 1) := by decide +kernel
theorem dX10_direct_46 : decode cX10_direct 46 = .ok (.getfield 13, 3) := by decide +kernel
theorem dX10_direct_49 : decode cX10_direct 49 = .ok (.iload 4, 2) := by decide +kernel
theorem dX10_direct_51 : decode cX10_direct 51 = .ok (.iaload, 1) := by decide +kernel
theorem dX10_direct_52 : decode cX10_direct 52 = .ok (.iload_n 1, 1) := by decide +kernel
theorem dX10_direct_53 : decode cX10_direct 53 = .ok (.if_icmp .ne 13, 3) := by decide +kernel
theorem dX10_direct_56 : decode cX10_direct 56 = .ok (.aload_n 0, 1) := by decide +kernel
theorem dX10_direct_57 : decode cX10_direct 57 = .ok (.iload 4, 2) := by decide +kernel
theorem dX10_direct_59 : decode cX10_direct 59 = .ok (.iload_n 3, 1) := by decide +kernel
theorem dX10_direct_60 : decode cX10_direct 60 = .ok (.invokevirtual 152, 3) := by decide +kernel
theorem dX10_direct_63 : decode cX10_direct 63 = .ok (.goto 11, 3) := by decide +kernel
theorem dX10_direct_66 : decode cX10_direct 66 = .ok (.aload_n 0, 1) := by decide +kernel
theorem dX10_direct_67 : decode cX10_direct 67 = .ok (.iload 4, 2) := by decide +kernel
theorem dX10_direct_69 : decode cX10_direct 69 = .ok (.iload_n 3, 1) := by decide +kernel
theorem dX10_direct_70 : decode cX10_direct 70 = .ok (.invokevirtual 152, 3) := by decide +kernel
theorem dX10_direct_73 : decode cX10_direct 73 = .ok (.ineg, 1) := by decide +kernel
theorem dX10_direct_74 : decode cX10_direct 74 = .ok (.ireturn, 1) := by decide +kernel
theorem dX10_direct_75 : decode cX10_direct 75 = .ok (.iinc 4 1, 3) := by decide +kernel
theorem dX10_direct_78 : decode cX10_direct 78 = .ok (.goto (-75), 3) := by decide +kernel
theorem dX10_direct_81 : decode cX10_direct 81 = .ok (.ldc 151, 2) := by decide +kernel
theorem dX10_direct_83 : decode cX10_direct 83 = .ok (.ireturn, 1) := by decide +kernel
theorem dX10_ring_0 : decode cX10_ring 0 = .ok (.aload_n 0, 1) := by decide +kernel
theorem dX10_ring_1 : decode cX10_ring 1 = .ok (.iload_n 1, 1) := by decide +kernel
theorem dX10_ring_2 : decode cX10_ring 2 = .ok (.invokevirtual 133, 3) := by decide +kernel
theorem dX10_ring_5 : decode cX10_ring 5 = .ok (.ifCond .eq 47, 3) := by decide +kernel
theorem dX10_ring_8 : decode cX10_ring 8 = .ok (.aload_n 0, 1) := by decide +kernel
theorem dX10_ring_9 : decode cX10_ring 9 = .ok (.iload_n 2, 1) := by decide +kernel
theorem dX10_ring_10 : decode cX10_ring 10 = .ok (.invokevirtual 133, 3) := by decide +kernel
theorem dX10_ring_13 : decode cX10_ring 13 = .ok (.ifCond .eq 39, 3) := by decide +kernel
theorem dX10_ring_16 : decode cX10_ring 16 = .ok (.aload_n 0, 1) := by decide +kernel
theorem dX10_ring_17 : decode cX10_ring 17 = .ok (.iload_n 3, 1) := by decide +kernel
theorem dX10_ring_18 : decode cX10_ring 18 = .ok (.invokevirtual 133, 3) := by decide +kernel
theorem dX10_ring_21 : decode cX10_ring 21 = .ok (.ifCond .eq 31, 3) := by decide +kernel
theorem dX10_ring_24 : decode cX10_ring 24 = .ok (.iload_n 1, 1) := by decide +kernel
theorem dX10_ring_25 : decode cX10_ring 25 = .ok (.iload_n 2, 1) := by decide +kernel
theorem dX10_ring_26 : decode cX10_ring 26 = .ok (.if_icmp .eq 26, 3) := by decide +kernel
theorem dX10_ring_29 : decode cX10_ring 29 = .ok (.iload_n 2, 1) := by decide +kernel
theorem dX10_ring_30 : decode cX10_ring 30 = .ok (.iload_n 3, 1) := by decide +kernel
theorem dX10_ring_31 : decode cX10_ring 31 = .ok (.if_icmp .eq 21, 3) := by decide +kernel
theorem dX10_ring_34 : decode cX10_ring 34 = .ok (.iload_n 1, 1) := by decide +kernel
theorem dX10_ring_35 : decode cX10_ring 35 = .ok (.iload_n 3, 1) := by decide +kernel
theorem dX10_ring_36 : decode cX10_ring 36 = .ok (.if_icmp .eq 16, 3) := by decide +kernel
theorem dX10_ring_39 : decode cX10_ring 39 = .ok (.iload 4, 2) := by decide +kernel
theorem dX10_ring_41 : decode cX10_ring 41 = .ok (.iconst 0, 1) := by decide +kernel
theorem dX10_ring_42 : decode cX10_ring 42 = .ok (.aload_n 0, 1) := by decide +kernel
theorem dX10_ring_43 : decode cX10_ring 43 = .ok (.getfield 137, 3) := by decide +kernel
theorem dX10_ring_46 : decode cX10_ring 46 = .ok (.invokestatic 129, 3) := by decide +kernel
theorem dX10_ring_49 : decode cX10_ring 49 = .ok (.ifCond .ne 6, 3) := by decide +kernel
theorem dX10_ring_52 : decode cX10_ring 52 = .ok (.ldc 151, 2) := by decide +kernel
theorem dX10_ring_54 : decode cX10_ring 54 = .ok (.ireturn, 1) := by decide +kernel
theorem dX10_ring_55 : decode cX10_ring 55 = .ok (.aload_n 0, 1) := by decide +kernel
theorem dX10_ring_56 : decode cX10_ring 56 = .ok (.iload_n 1, 1) := by decide +kernel
theorem dX10_ring_57 : decode cX10_ring 57 = .ok (.iload_n 2, 1) := by decide +kernel
theorem dX10_ring_58 : decode cX10_ring 58 = .ok (.iload 4, 2) := by decide +kernel
theorem dX10_ring_60 : decode cX10_ring 60 = .ok (.invokevirtual 257, 3) := by decide +kernel
theorem dX10_ring_63 : decode cX10_ring 63 = .ok (.istore 5, 2) := by decide +kernel
theorem dX10_ring_65 : decode cX10_ring 65 = .ok (.aload_n 0, 1) := by decide +kernel
theorem dX10_ring_66 : decode cX10_ring 66 = .ok (.iload_n 2, 1) := by decide +kernel
theorem dX10_ring_67 : decode cX10_ring 67 = .ok (.iload_n 3, 1) := by decide +kernel
theorem dX10_ring_68 : decode cX10_ring 68 = .ok (.iload 4, 2) := by decide +kernel
theorem dX10_ring_70 : decode cX10_ring 70 = .ok (.invokevirtual 257, 3) := by decide +kernel
theorem dX10_ring_73 : decode cX10_ring 73 = .ok (.istore 6, 2) := by decide +kernel
theorem dX10_ring_75 : decode cX10_ring 75 = .ok (.aload_n 0, 1) := by decide +kernel
theorem dX10_ring_76 : decode cX10_ring 76 = .ok (.iload_n 3, 1) := by decide +kernel
theorem dX10_ring_77 : decode cX10_ring 77 = .ok (.iload_n 1, 1) := by decide +kernel
theorem dX10_ring_78 : decode cX10_ring 78 = .ok (.iload 4, 2) := by decide +kernel
theorem dX10_ring_80 : decode cX10_ring 80 = .ok (.invokevirtual 257, 3) := by decide +kernel
theorem dX10_ring_83 : decode cX10_ring 83 = .ok (.istore 7, 2) := by decide +kernel
theorem dX10_ring_85 : decode cX10_ring 85 = .ok (.iload 5, 2) := by decide +kernel
theorem dX10_ring_87 : decode cX10_ring 87 = .ok (.ldc 151, 2) := by decide +kernel
theorem dX10_ring_89 : decode cX10_ring 89 = .ok (.if_icmp .eq 17, 3) := by decide +kernel
theorem dX10_ring_92 : decode cX10_ring 92 = .ok (.iload 6, 2) := by decide +kernel
theorem dX10_ring_94 : decode cX10_ring 94 = .ok (.ldc 151, 2) := by decide +kernel
theorem dX10_ring_96 : decode cX10_ring 96 = .ok (.if_icmp .eq 10, 3) := by decide +kernel
theorem dX10_ring_99 : decode cX10_ring 99 = .ok (.iload 7, 2) := by decide +kernel
theorem dX10_ring_101 : decode cX10_ring 101 = .ok (.ldc 151, 2) := by decide +kernel
theorem dX10_ring_103 : decode cX10_ring 103 = .ok (.if_icmp .ne 8, 3) := by decide +kernel
theorem dX10_ring_106 : decode cX10_ring 106 = .ok (.ldc 151, 2) := by decide +kernel
theorem dX10_ring_108 : decode cX10_ring 108 = .ok (.goto 11, 3) := by decide +kernel
theorem dX10_ring_111 : decode cX10_ring 111 = .ok (.iload 5, 2) := by decide +kernel
theorem dX10_ring_113 : decode cX10_ring 113 = .ok (.iload 6, 2) := by decide +kernel
theorem dX10_ring_115 : decode cX10_ring 115 = .ok (.iadd, 1) := by decide +kernel
theorem dX10_ring_116 : decode cX10_ring 116 = .ok (.iload 7, 2) := by decide +kernel
theorem dX10_ring_118 : decode cX10_ring 118 = .ok (.iadd, 1) := by decide +kernel
theorem dX10_ring_119 : decode cX10_ring 119 = .ok (.ireturn, 1) := by decide +kernel
