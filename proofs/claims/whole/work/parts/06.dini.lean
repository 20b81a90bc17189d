theorem dX10_init_0 : decode cX10_init 0 = .ok (.aload_n 0, 1) := by decide +kernel
theorem dX10_init_1 : decode cX10_init 1 = .ok (.invokespecial 1, 3) := by decide +kernel
theorem dX10_init_4 : decode cX10_init 4 = .ok (.aload_n 0, 1) := by decide +kernel
theorem dX10_init_5 : decode cX10_init 5 = .ok (.iconst 4, 1) := by decide +kernel
theorem dX10_init_6 : decode cX10_init 6 = .ok (.putfield 7, 3) := by decide +kernel
theorem dX10_init_9 : decode cX10_init 9 = .ok (.aload_n 0, 1) := by decide +kernel
theorem dX10_init_10 : decode cX10_init 10 = .ok (.bipush 24, 2) := by decide +kernel
theorem dX10_init_12 : decode cX10_init 12 = .ok (.newarray .int, 2) := by decide +kernel
theorem dX10_init_14 : decode cX10_init 14 = .ok (.putfield 13, 3) := by decide +kernel
theorem dX10_init_17 : decode cX10_init 17 = .ok (.aload_n 0, 1) := by decide +kernel
theorem dX10_init_18 : decode cX10_init 18 = .ok (.bipush 24, 2) := by decide +kernel
theorem dX10_init_20 : decode cX10_init 20 = .ok (.newarray .int, 2) := by decide +kernel
theorem dX10_init_22 : decode cX10_init 22 = .ok (.putfield 17, 3) := by decide +kernel
theorem dX10_init_25 : decode cX10_init 25 = .ok (.aload_n 0, 1) := by decide +kernel
theorem dX10_init_26 : decode cX10_init 26 = .ok (.iconst 3, 1) := by decide +kernel
theorem dX10_init_27 : decode cX10_init 27 = .ok (.newarray .int, 2) := by decide +kernel
theorem dX10_init_29 : decode cX10_init 29 = .ok (.dup, 1) := by decide +kernel
theorem dX10_init_30 : decode cX10_init 30 = .ok (.iconst 0, 1) := by decide +kernel
theorem dX10_init_31 : decode cX10_init 31 = .ok (.iconst 1, 1) := by decide +kernel
theorem dX10_init_32 : decode cX10_init 32 = .ok (.iastore, 1) := by decide +kernel
theorem dX10_init_33 : decode cX10_init 33 = .ok (.dup, 1) := by decide +kernel
theorem dX10_init_34 : decode cX10_init 34 = .ok (.iconst 1, 1) := by decide +kernel
theorem dX10_init_35 : decode cX10_init 35 = .ok (.iconst 2, 1) := by decide +kernel
theorem dX10_init_36 : decode cX10_init 36 = .ok (.iastore, 1) := by decide +kernel
theorem dX10_init_37 : decode cX10_init 37 = .ok (.dup, 1) := by decide +kernel
theorem dX10_init_38 : decode cX10_init 38 = .ok (.iconst 2, 1) := by decide +kernel
theorem dX10_init_39 : decode cX10_init 39 = .ok (.iconst 3, 1) := by decide +kernel
theorem dX10_init_40 : decode cX10_init 40 = .ok (.iastore, 1) := by decide +kernel
theorem dX10_init_41 : decode cX10_init 41 = .ok (.putfield 20, 3) := by decide +kernel
theorem dX10_init_44 : decode cX10_init 44 = .ok (.aload_n 0, 1) := by decide +kernel
theorem dX10_init_45 : decode cX10_init 45 = .ok (.iconst 3, 1) := by decide +kernel
theorem dX10_init_46 : decode cX10_init 46 = .ok (.newarray .int, 2) := by decide +kernel
theorem dX10_init_48 : decode cX10_init 48 = .ok (.putfield 23, 3) := by decide +kernel
theorem dX10_init_51 : decode cX10_init 51 = .ok (.aload_n 0, 1) := by decide +kernel
theorem dX10_init_52 : decode cX10_init 52 = .ok (.sipush 360, 3) := by decide +kernel
theorem dX10_init_55 : decode cX10_init 55 = .ok (.newarray .int, 2) := by decide +kernel
theorem dX10_init_57 : decode cX10_init 57 = .ok (.putfield 26, 3) := by decide +kernel
theorem dX10_init_60 : decode cX10_init 60 = .ok (.aload_n 0, 1) := by decide +kernel
theorem dX10_init_61 : decode cX10_init 61 = .ok (.sipush 256, 3) := by decide +kernel
theorem dX10_init_64 : decode cX10_init 64 = .ok (.newarray .int, 2) := by decide +kernel
theorem dX10_init_66 : decode cX10_init 66 = .ok (.putfield 29, 3) := by decide +kernel
theorem dX10_init_69 : decode cX10_init 69 = .ok (.aload_n 0, 1) := by decide +kernel
theorem dX10_init_70 : decode cX10_init 70 = .ok (.bipush 64, 2) := by decide +kernel
theorem dX10_init_72 : decode cX10_init 72 = .ok (.newarray .int, 2) := by decide +kernel
theorem dX10_init_74 : decode cX10_init 74 = .ok (.putfield 32, 3) := by decide +kernel
theorem dX10_init_77 : decode cX10_init 77 = .ok (.aload_n 0, 1) := by decide +kernel
theorem dX10_init_78 : decode cX10_init 78 = .ok (.bipush 64, 2) := by decide +kernel
theorem dX10_init_80 : decode cX10_init 80 = .ok (.newarray .int, 2) := by decide +kernel
theorem dX10_init_82 : decode cX10_init 82 = .ok (.putfield 35, 3) := by decide +kernel
theorem dX10_init_85 : decode cX10_init 85 = .ok (.aload_n 0, 1) := by decide +kernel
theorem dX10_init_86 : decode cX10_init 86 = .ok (.bipush 20, 2) := by decide +kernel
theorem dX10_init_88 : decode cX10_init 88 = .ok (.newarray .int, 2) := by decide +kernel
theorem dX10_init_90 : decode cX10_init 90 = .ok (.putfield 38, 3) := by decide +kernel
theorem dX10_init_93 : decode cX10_init 93 = .ok (.aload_n 0, 1) := by decide +kernel
theorem dX10_init_94 : decode cX10_init 94 = .ok (.bipush 20, 2) := by decide +kernel
theorem dX10_init_96 : decode cX10_init 96 = .ok (.newarray .int, 2) := by decide +kernel
theorem dX10_init_98 : decode cX10_init 98 = .ok (.putfield 41, 3) := by decide +kernel
theorem dX10_init_101 : decode cX10_init 101 = .ok (.aload_n 0, 1) := by decide +kernel
theorem dX10_init_102 : decode cX10_init 102 = .ok (.bipush 40, 2) := by decide +kernel
theorem dX10_init_104 : decode cX10_init 104 = .ok (.newarray .int, 2) := by decide +kernel
theorem dX10_init_106 : decode cX10_init 106 = .ok (.putfield 44, 3) := by decide +kernel
theorem dX10_init_109 : decode cX10_init 109 = .ok (.aload_n 0, 1) := by decide +kernel
theorem dX10_init_110 : decode cX10_init 110 = .ok (.sipush 400, 3) := by decide +kernel
theorem dX10_init_113 : decode cX10_init 113 = .ok (.newarray .int, 2) := by decide +kernel
theorem dX10_init_115 : decode cX10_init 115 = .ok (.putfield 47, 3) := by decide +kernel
theorem dX10_init_118 : decode cX10_init 118 = .ok (.aload_n 0, 1) := by decide +kernel
theorem dX10_init_119 : decode cX10_init 119 = .ok (.bipush 69, 2) := by decide +kernel
theorem dX10_init_121 : decode cX10_init 121 = .ok (.newarray .int, 2) := by decide +kernel
theorem dX10_init_123 : decode cX10_init 123 = .ok (.dup, 1) := by decide +kernel
theorem dX10_init_124 : decode cX10_init 124 = .ok (.iconst 0, 1) := by decide +kernel
theorem dX10_init_125 : decode cX10_init 125 = .ok (.bipush 32, 2) := by decide +kernel
theorem dX10_init_127 : decode cX10_init 127 = .ok (.iastore, 1) := by decide +kernel
theorem dX10_init_128 : decode cX10_init 128 = .ok (.dup, 1) := by decide +kernel
theorem dX10_init_129 : decode cX10_init 129 = .ok (.iconst 1, 1) := by decide +kernel
theorem dX10_init_130 : decode cX10_init 130 = .ok (.bipush 109, 2) := by decide +kernel
theorem dX10_init_132 : decode cX10_init 132 = .ok (.iastore, 1) := by decide +kernel
theorem dX10_init_133 : decode cX10_init 133 = .ok (.dup, 1) := by decide +kernel
theorem dX10_init_134 : decode cX10_init 134 = .ok (.iconst 2, 1) := by decide +kernel
theorem dX10_init_135 : decode cX10_init 135 = .ok (.bipush 97, 2) := by decide +kernel
theorem dX10_init_137 : decode cX10_init 137 = .ok (.iastore, 1) := by decide +kernel
theorem dX10_init_138 : decode cX10_init 138 = .ok (.dup, 1) := by decide +kernel
theorem dX10_init_139 : decode cX10_init 139 = .ok (.iconst 3, 1) := by decide +kernel
theorem dX10_init_140 : decode cX10_init 140 = .ok (.bipush 121, 2) := by decide +kernel
theorem dX10_init_142 : decode cX10_init 142 = .ok (.iastore, 1) := by decide +kernel
theorem dX10_init_143 : decode cX10_init 143 = .ok (.dup, 1) := by decide +kernel
theorem dX10_init_144 : decode cX10_init 144 = .ok (.iconst 4, 1) := by decide +kernel
theorem dX10_init_145 : decode cX10_init 145 = .ok (.bipush 32, 2) := by decide +kernel
theorem dX10_init_147 : decode cX10_init 147 = .ok (.iastore, 1) := by decide +kernel
theorem dX10_init_148 : decode cX10_init 148 = .ok (.dup, 1) := by decide +kernel
theorem dX10_init_149 : decode cX10_init 149 = .ok (.iconst 5, 1) := by decide +kernel
theorem dX10_init_150 : decode cX10_init 150 = .ok (.bipush 98, 2) := by decide +kernel
theorem dX10_init_152 : decode cX10_init 152 = .ok (.iastore, 1) := by decide +kernel
theorem dX10_init_153 : decode cX10_init 153 = .ok (.dup, 1) := by decide +kernel
theorem dX10_init_154 : decode cX10_init 154 = .ok (.bipush 6, 2) := by decide +kernel
theorem dX10_init_156 : decode cX10_init 156 = .ok (.bipush 97, 2) := by decide +kernel
theorem dX10_init_158 : decode cX10_init 158 = .ok (.iastore, 1) := by decide +kernel
theorem dX10_init_159 : decode cX10_init 159 = .ok (.dup, 1) := by decide +kernel
theorem dX10_init_160 : decode cX10_init 160 = .ok (.bipush 7, 2) := by decide +kernel
theorem dX10_init_162 : decode cX10_init 162 = .ok (.bipush 114, 2) := by decide +kernel
theorem dX10_init_164 : decode cX10_init 164 = .ok (.iastore, 1) := by decide +kernel
theorem dX10_init_165 : decode cX10_init 165 = .ok (.dup, 1) := by decide +kernel
theorem dX10_init_166 : decode cX10_init 166 = .ok (.bipush 8, 2) := by decide +kernel
theorem dX10_init_168 : decode cX10_init 168 = .ok (.bipush 32, 2) := by decide +kernel
theorem dX10_init_170 : decode cX10_init 170 = .ok (.iastore, 1) := by decide +kernel
theorem dX10_init_171 : decode cX10_init 171 = .ok (.dup, 1) := by decide +kernel
theorem dX10_init_172 : decode cX10_init 172 = .ok (.bipush 9, 2) := by decide +kernel
theorem dX10_init_174 : decode cX10_init 174 = .ok (.bipush 119, 2) := by decide +kernel
theorem dX10_init_176 : decode cX10_init 176 = .ok (.iastore, 1) := by decide +kernel
theorem dX10_init_177 : decode cX10_init 177 = .ok (.dup, 1) := by decide +kernel
theorem dX10_init_178 : decode cX10_init 178 = .ok (.bipush 10, 2) := by decide +kernel
theorem dX10_init_180 : decode cX10_init 180 = .ok (.bipush 104, 2) := by decide +kernel
theorem dX10_init_182 : decode cX10_init 182 = .ok (.iastore, 1) := by decide +kernel
theorem dX10_init_183 : decode cX10_init 183 = .ok (.dup, 1) := by decide +kernel
theorem dX10_init_184 : decode cX10_init 184 = .ok (.bipush 11, 2) := by decide +kernel
theorem dX10_init_186 : decode cX10_init 186 = .ok (.bipush 101, 2) := by decide +kernel
theorem dX10_init_188 : decode cX10_init 188 = .ok (.iastore, 1) := by decide +kernel
theorem dX10_init_189 : decode cX10_init 189 = .ok (.dup, 1) := by decide +kernel
theorem dX10_init_190 : decode cX10_init 190 = .ok (.bipush 12, 2) := by decide +kernel
theorem dX10_init_192 : decode cX10_init 192 = .ok (.bipush 110, 2) := by decide +kernel
theorem dX10_init_194 : decode cX10_init 194 = .ok (.iastore, 1) := by decide +kernel
theorem dX10_init_195 : decode cX10_init 195 = .ok (.dup, 1) := by decide +kernel
theorem dX10_init_196 : decode cX10_init 196 = .ok (.bipush 13, 2) := by decide +kernel
theorem dX10_init_198 : decode cX10_init 198 = .ok (.bipush 32, 2) := by decide +kernel
theorem dX10_init_200 : decode cX10_init 200 = .ok (.iastore, 1) := by decide +kernel
theorem dX10_init_201 : decode cX10_init 201 = .ok (.dup, 1) := by decide +kernel
theorem dX10_init_202 : decode cX10_init 202 = .ok (.bipush 14, 2) := by decide +kernel
theorem dX10_init_204 : decode cX10_init 204 = .ok (.bipush 111, 2) := by decide +kernel
theorem dX10_init_206 : decode cX10_init 206 = .ok (.iastore, 1) := by decide +kernel
theorem dX10_init_207 : decode cX10_init 207 = .ok (.dup, 1) := by decide +kernel
theorem dX10_init_208 : decode cX10_init 208 = .ok (.bipush 15, 2) := by decide +kernel
theorem dX10_init_210 : decode cX10_init 210 = .ok (.bipush 114, 2) := by decide +kernel
theorem dX10_init_212 : decode cX10_init 212 = .ok (.iastore, 1) := by decide +kernel
theorem dX10_init_213 : decode cX10_init 213 = .ok (.dup, 1) := by decide +kernel
theorem dX10_init_214 : decode cX10_init 214 = .ok (.bipush 16, 2) := by decide +kernel
theorem dX10_init_216 : decode cX10_init 216 = .ok (.bipush 32, 2) := by decide +kernel
theorem dX10_init_218 : decode cX10_init 218 = .ok (.iastore, 1) := by decide +kernel
theorem dX10_init_219 : decode cX10_init 219 = .ok (.dup, 1) := by decide +kernel
theorem dX10_init_220 : decode cX10_init 220 = .ok (.bipush 17, 2) := by decide +kernel
theorem dX10_init_222 : decode cX10_init 222 = .ok (.bipush 97, 2) := by decide +kernel
theorem dX10_init_224 : decode cX10_init 224 = .ok (.iastore, 1) := by decide +kernel
theorem dX10_init_225 : decode cX10_init 225 = .ok (.dup, 1) := by decide +kernel
theorem dX10_init_226 : decode cX10_init 226 = .ok (.bipush 18, 2) := by decide +kernel
theorem dX10_init_228 : decode cX10_init 228 = .ok (.bipush 110, 2) := by decide +kernel
theorem dX10_init_230 : decode cX10_init 230 = .ok (.iastore, 1) := by decide +kernel
theorem dX10_init_231 : decode cX10_init 231 = .ok (.dup, 1) := by decide +kernel
theorem dX10_init_232 : decode cX10_init 232 = .ok (.bipush 19, 2) := by decide +kernel
theorem dX10_init_234 : decode cX10_init 234 = .ok (.bipush 100, 2) := by decide +kernel
theorem dX10_init_236 : decode cX10_init 236 = .ok (.iastore, 1) := by decide +kernel
theorem dX10_init_237 : decode cX10_init 237 = .ok (.dup, 1) := by decide +kernel
theorem dX10_init_238 : decode cX10_init 238 = .ok (.bipush 20, 2) := by decide +kernel
theorem dX10_init_240 : decode cX10_init 240 = .ok (.bipush 32, 2) := by decide +kernel
theorem dX10_init_242 : decode cX10_init 242 = .ok (.iastore, 1) := by decide +kernel
theorem dX10_init_243 : decode cX10_init 243 = .ok (.dup, 1) := by decide +kernel
theorem dX10_init_244 : decode cX10_init 244 = .ok (.bipush 21, 2) := by decide +kernel
theorem dX10_init_246 : decode cX10_init 246 = .ok (.bipush 110, 2) := by decide +kernel
theorem dX10_init_248 : decode cX10_init 248 = .ok (.iastore, 1) := by decide +kernel
theorem dX10_init_249 : decode cX10_init 249 = .ok (.dup, 1) := by decide +kernel
theorem dX10_init_250 : decode cX10_init 250 = .ok (.bipush 22, 2) := by decide +kernel
theorem dX10_init_252 : decode cX10_init 252 = .ok (.bipush 111, 2) := by decide +kernel
theorem dX10_init_254 : decode cX10_init 254 = .ok (.iastore, 1) := by decide +kernel
theorem dX10_init_255 : decode cX10_init 255 = .ok (.dup, 1) := by decide +kernel
theorem dX10_init_256 : decode cX10_init 256 = .ok (.bipush 23, 2) := by decide +kernel
theorem dX10_init_258 : decode cX10_init 258 = .ok (.bipush 116, 2) := by decide +kernel
theorem dX10_init_260 : decode cX10_init 260 = .ok (.iastore, 1) := by decide +kernel
theorem dX10_init_261 : decode cX10_init 261 = .ok (.dup, 1) := by decide +kernel
theorem dX10_init_262 : decode cX10_init 262 = .ok (.bipush 24, 2) := by decide +kernel
theorem dX10_init_264 : decode cX10_init 264 = .ok (.bipush 32, 2) := by decide +kernel
theorem dX10_init_266 : decode cX10_init 266 = .ok (.iastore, 1) := by decide +kernel
theorem dX10_init_267 : decode cX10_init 267 = .ok (.dup, 1) := by decide +kernel
theorem dX10_init_268 : decode cX10_init 268 = .ok (.bipush 25, 2) := by decide +kernel
theorem dX10_init_270 : decode cX10_init 270 = .ok (.bipush 102, 2) := by decide +kernel
theorem dX10_init_272 : decode cX10_init 272 = .ok (.iastore, 1) := by decide +kernel
theorem dX10_init_273 : decode cX10_init 273 = .ok (.dup, 1) := by decide +kernel
theorem dX10_init_274 : decode cX10_init 274 = .ok (.bipush 26, 2) := by decide +kernel
theorem dX10_init_276 : decode cX10_init 276 = .ok (.bipush 114, 2) := by decide +kernel
theorem dX10_init_278 : decode cX10_init 278 = .ok (.iastore, 1) := by decide +kernel
theorem dX10_init_279 : decode cX10_init 279 = .ok (.dup, 1) := by decide +kernel
theorem dX10_init_280 : decode cX10_init 280 = .ok (.bipush 27, 2) := by decide +kernel
theorem dX10_init_282 : decode cX10_init 282 = .ok (.bipush 111, 2) := by decide +kernel
theorem dX10_init_284 : decode cX10_init 284 = .ok (.iastore, 1) := by decide +kernel
theorem dX10_init_285 : decode cX10_init 285 = .ok (.dup, 1) := by decide +kernel
theorem dX10_init_286 : decode cX10_init 286 = .ok (.bipush 28, 2) := by decide +kernel
theorem dX10_init_288 : decode cX10_init 288 = .ok (.bipush 109, 2) := by decide +kernel
theorem dX10_init_290 : decode cX10_init 290 = .ok (.iastore, 1) := by decide +kernel
theorem dX10_init_291 : decode cX10_init 291 = .ok (.dup, 1) := by decide +kernel
theorem dX10_init_292 : decode cX10_init 292 = .ok (.bipush 29, 2) := by decide +kernel
theorem dX10_init_294 : decode cX10_init 294 = .ok (.bipush 32, 2) := by decide +kernel
theorem dX10_init_296 : decode cX10_init 296 = .ok (.iastore, 1) := by decide +kernel
theorem dX10_init_297 : decode cX10_init 297 = .ok (.dup, 1) := by decide +kernel
theorem dX10_init_298 : decode cX10_init 298 = .ok (.bipush 30, 2) := by decide +kernel
theorem dX10_init_300 : decode cX10_init 300 = .ok (.bipush 116, 2) := by decide +kernel
theorem dX10_init_302 : decode cX10_init 302 = .ok (.iastore, 1) := by decide +kernel
theorem dX10_init_303 : decode cX10_init 303 = .ok (.dup, 1) := by decide +kernel
theorem dX10_init_304 : decode cX10_init 304 = .ok (.bipush 31, 2) := by decide +kernel
theorem dX10_init_306 : decode cX10_init 306 = .ok (.bipush 111, 2) := by decide +kernel
theorem dX10_init_308 : decode cX10_init 308 = .ok (.iastore, 1) := by decide +kernel
theorem dX10_init_309 : decode cX10_init 309 = .ok (.dup, 1) := by decide +kernel
theorem dX10_init_310 : decode cX10_init 310 = .ok (.bipush 32, 2) := by decide +kernel
theorem dX10_init_312 : decode cX10_init 312 = .ok (.bipush 32, 2) := by decide +kernel
theorem dX10_init_314 : decode cX10_init 314 = .ok (.iastore, 1) := by decide +kernel
theorem dX10_init_315 : decode cX10_init 315 = .ok (.dup, 1) := by decide +kernel
theorem dX10_init_316 : decode cX10_init 316 = .ok (.bipush 33, 2) := by decide +kernel
theorem dX10_init_318 : decode cX10_init 318 = .ok (.bipush 108, 2) := by decide +kernel
theorem dX10_init_320 : decode cX10_init 320 = .ok (.iastore, 1) := by decide +kernel
theorem dX10_init_321 : decode cX10_init 321 = .ok (.dup, 1) := by decide +kernel
theorem dX10_init_322 : decode cX10_init 322 = .ok (.bipush 34, 2) := by decide +kernel
theorem dX10_init_324 : decode cX10_init 324 = .ok (.bipush 101, 2) := by decide +kernel
theorem dX10_init_326 : decode cX10_init 326 = .ok (.iastore, 1) := by decide +kernel
theorem dX10_init_327 : decode cX10_init 327 = .ok (.dup, 1) := by decide +kernel
theorem dX10_init_328 : decode cX10_init 328 = .ok (.bipush 35, 2) := by decide +kernel
theorem dX10_init_330 : decode cX10_init 330 = .ok (.bipush 110, 2) := by decide +kernel
theorem dX10_init_332 : decode cX10_init 332 = .ok (.iastore, 1) := by decide +kernel
theorem dX10_init_333 : decode cX10_init 333 = .ok (.dup, 1) := by decide +kernel
theorem dX10_init_334 : decode cX10_init 334 = .ok (.bipush 36, 2) := by decide +kernel
theorem dX10_init_336 : decode cX10_init 336 = .ok (.bipush 103, 2) := by decide +kernel
theorem dX10_init_338 : decode cX10_init 338 = .ok (.iastore, 1) := by decide +kernel
theorem dX10_init_339 : decode cX10_init 339 = .ok (.dup, 1) := by decide +kernel
theorem dX10_init_340 : decode cX10_init 340 = .ok (.bipush 37, 2) := by decide +kernel
theorem dX10_init_342 : decode cX10_init 342 = .ok (.bipush 116, 2) := by decide +kernel
theorem dX10_init_344 : decode cX10_init 344 = .ok (.iastore, 1) := by decide +kernel
theorem dX10_init_345 : decode cX10_init 345 = .ok (.dup, 1) := by decide +kernel
theorem dX10_init_346 : decode cX10_init 346 = .ok (.bipush 38, 2) := by decide +kernel
theorem dX10_init_348 : decode cX10_init 348 = .ok (.bipush 104, 2) := by decide +kernel
theorem dX10_init_350 : decode cX10_init 350 = .ok (.iastore, 1) := by decide +kernel
theorem dX10_init_351 : decode cX10_init 351 = .ok (.dup, 1) := by decide +kernel
theorem dX10_init_352 : decode cX10_init 352 = .ok (.bipush 39, 2) := by decide +kernel
theorem dX10_init_354 : decode cX10_init 354 = .ok (.bipush 32, 2) := by decide +kernel
theorem dX10_init_356 : decode cX10_init 356 = .ok (.iastore, 1) := by decide +kernel
theorem dX10_init_357 : decode cX10_init 357 = .ok (.dup, 1) := by decide +kernel
theorem dX10_init_358 : decode cX10_init 358 = .ok (.bipush 40, 2) := by decide +kernel
theorem dX10_init_360 : decode cX10_init 360 = .ok (.bipush 117, 2) := by decide +kernel
theorem dX10_init_362 : decode cX10_init 362 = .ok (.iastore, 1) := by decide +kernel
theorem dX10_init_363 : decode cX10_init 363 = .ok (.dup, 1) := by decide +kernel
theorem dX10_init_364 : decode cX10_init 364 = .ok (.bipush 41, 2) := by decide +kernel
theorem dX10_init_366 : decode cX10_init 366 = .ok (.bipush 115, 2) := by decide +kernel
theorem dX10_init_368 : decode cX10_init 368 = .ok (.iastore, 1) := by decide +kernel
theorem dX10_init_369 : decode cX10_init 369 = .ok (.dup, 1) := by decide +kernel
theorem dX10_init_370 : decode cX10_init 370 = .ok (.bipush 42, 2) := by decide +kernel
theorem dX10_init_372 : decode cX10_init 372 = .ok (.bipush 101, 2) := by decide +kernel
theorem dX10_init_374 : decode cX10_init 374 = .ok (.iastore, 1) := by decide +kernel
theorem dX10_init_375 : decode cX10_init 375 = .ok (.dup, 1) := by decide +kernel
theorem dX10_init_376 : decode cX10_init 376 = .ok (.bipush 43, 2) := by decide +kernel
theorem dX10_init_378 : decode cX10_init 378 = .ok (.bipush 100, 2) := by decide +kernel
theorem dX10_init_380 : decode cX10_init 380 = .ok (.iastore, 1) := by decide +kernel
theorem dX10_init_381 : decode cX10_init 381 = .ok (.dup, 1) := by decide +kernel
theorem dX10_init_382 : decode cX10_init 382 = .ok (.bipush 44, 2) := by decide +kernel
theorem dX10_init_384 : decode cX10_init 384 = .ok (.bipush 32, 2) := by decide +kernel
theorem dX10_init_386 : decode cX10_init 386 = .ok (.iastore, 1) := by decide +kernel
theorem dX10_init_387 : decode cX10_init 387 = .ok (.dup, 1) := by decide +kernel
theorem dX10_init_388 : decode cX10_init 388 = .ok (.bipush 45, 2) := by decide +kernel
theorem dX10_init_390 : decode cX10_init 390 = .ok (.bipush 116, 2) := by decide +kernel
theorem dX10_init_392 : decode cX10_init 392 = .ok (.iastore, 1) := by decide +kernel
theorem dX10_init_393 : decode cX10_init 393 = .ok (.dup, 1) := by decide +kernel
theorem dX10_init_394 : decode cX10_init 394 = .ok (.bipush 46, 2) := by decide +kernel
theorem dX10_init_396 : decode cX10_init 396 = .ok (.bipush 104, 2) := by decide +kernel
theorem dX10_init_398 : decode cX10_init 398 = .ok (.iastore, 1) := by decide +kernel
theorem dX10_init_399 : decode cX10_init 399 = .ok (.dup, 1) := by decide +kernel
theorem dX10_init_400 : decode cX10_init 400 = .ok (.bipush 47, 2) := by decide +kernel
theorem dX10_init_402 : decode cX10_init 402 = .ok (.bipush 114, 2) := by decide +kernel
theorem dX10_init_404 : decode cX10_init 404 = .ok (.iastore, 1) := by decide +kernel
theorem dX10_init_405 : decode cX10_init 405 = .ok (.dup, 1) := by decide +kernel
theorem dX10_init_406 : decode cX10_init 406 = .ok (.bipush 48, 2) := by decide +kernel
theorem dX10_init_408 : decode cX10_init 408 = .ok (.bipush 101, 2) := by decide +kernel
theorem dX10_init_410 : decode cX10_init 410 = .ok (.iastore, 1) := by decide +kernel
theorem dX10_init_411 : decode cX10_init 411 = .ok (.dup, 1) := by decide +kernel
theorem dX10_init_412 : decode cX10_init 412 = .ok (.bipush 49, 2) := by decide +kernel
theorem dX10_init_414 : decode cX10_init 414 = .ok (.bipush 97, 2) := by decide +kernel
theorem dX10_init_416 : decode cX10_init 416 = .ok (.iastore, 1) := by decide +kernel
theorem dX10_init_417 : decode cX10_init 417 = .ok (.dup, 1) := by decide +kernel
theorem dX10_init_418 : decode cX10_init 418 = .ok (.bipush 50, 2) := by decide +kernel
theorem dX10_init_420 : decode cX10_init 420 = .ok (.bipush 100, 2) := by decide +kernel
theorem dX10_init_422 : decode cX10_init 422 = .ok (.iastore, 1) := by decide +kernel
theorem dX10_init_423 : decode cX10_init 423 = .ok (.dup, 1) := by decide +kernel
theorem dX10_init_424 : decode cX10_init 424 = .ok (.bipush 51, 2) := by decide +kernel
theorem dX10_init_426 : decode cX10_init 426 = .ok (.bipush 32, 2) := by decide +kernel
theorem dX10_init_428 : decode cX10_init 428 = .ok (.iastore, 1) := by decide +kernel
theorem dX10_init_429 : decode cX10_init 429 = .ok (.dup, 1) := by decide +kernel
theorem dX10_init_430 : decode cX10_init 430 = .ok (.bipush 52, 2) := by decide +kernel
theorem dX10_init_432 : decode cX10_init 432 = .ok (.bipush 119, 2) := by decide +kernel
theorem dX10_init_434 : decode cX10_init 434 = .ok (.iastore, 1) := by decide +kernel
theorem dX10_init_435 : decode cX10_init 435 = .ok (.dup, 1) := by decide +kernel
theorem dX10_init_436 : decode cX10_init 436 = .ok (.bipush 53, 2) := by decide +kernel
theorem dX10_init_438 : decode cX10_init 438 = .ok (.bipush 111, 2) := by decide +kernel
theorem dX10_init_440 : decode cX10_init 440 = .ok (.iastore, 1) := by decide +kernel
theorem dX10_init_441 : decode cX10_init 441 = .ok (.dup, 1) := by decide +kernel
theorem dX10_init_442 : decode cX10_init 442 = .ok (.bipush 54, 2) := by decide +kernel
theorem dX10_init_444 : decode cX10_init 444 = .ok (.bipush 117, 2) := by decide +kernel
theorem dX10_init_446 : decode cX10_init 446 = .ok (.iastore, 1) := by decide +kernel
theorem dX10_init_447 : decode cX10_init 447 = .ok (.dup, 1) := by decide +kernel
theorem dX10_init_448 : decode cX10_init 448 = .ok (.bipush 55, 2) := by decide +kernel
theorem dX10_init_450 : decode cX10_init 450 = .ok (.bipush 110, 2) := by decide +kernel
theorem dX10_init_452 : decode cX10_init 452 = .ok (.iastore, 1) := by decide +kernel
theorem dX10_init_453 : decode cX10_init 453 = .ok (.dup, 1) := by decide +kernel
theorem dX10_init_454 : decode cX10_init 454 = .ok (.bipush 56, 2) := by decide +kernel
theorem dX10_init_456 : decode cX10_init 456 = .ok (.bipush 100, 2) := by decide +kernel
theorem dX10_init_458 : decode cX10_init 458 = .ok (.iastore, 1) := by decide +kernel
theorem dX10_init_459 : decode cX10_init 459 = .ok (.dup, 1) := by decide +kernel
theorem dX10_init_460 : decode cX10_init 460 = .ok (.bipush 57, 2) := by decide +kernel
theorem dX10_init_462 : decode cX10_init 462 = .ok (.bipush 32, 2) := by decide +kernel
theorem dX10_init_464 : decode cX10_init 464 = .ok (.iastore, 1) := by decide +kernel
theorem dX10_init_465 : decode cX10_init 465 = .ok (.dup, 1) := by decide +kernel
theorem dX10_init_466 : decode cX10_init 466 = .ok (.bipush 58, 2) := by decide +kernel
theorem dX10_init_468 : decode cX10_init 468 = .ok (.bipush 116, 2) := by decide +kernel
theorem dX10_init_470 : decode cX10_init 470 = .ok (.iastore, 1) := by decide +kernel
theorem dX10_init_471 : decode cX10_init 471 = .ok (.dup, 1) := by decide +kernel
theorem dX10_init_472 : decode cX10_init 472 = .ok (.bipush 59, 2) := by decide +kernel
theorem dX10_init_474 : decode cX10_init 474 = .ok (.bipush 117, 2) := by decide +kernel
theorem dX10_init_476 : decode cX10_init 476 = .ok (.iastore, 1) := by decide +kernel
theorem dX10_init_477 : decode cX10_init 477 = .ok (.dup, 1) := by decide +kernel
theorem dX10_init_478 : decode cX10_init 478 = .ok (.bipush 60, 2) := by decide +kernel
theorem dX10_init_480 : decode cX10_init 480 = .ok (.bipush 114, 2) := by decide +kernel
theorem dX10_init_482 : decode cX10_init 482 = .ok (.iastore, 1) := by decide +kernel
theorem dX10_init_483 : decode cX10_init 483 = .ok (.dup, 1) := by decide +kernel
theorem dX10_init_484 : decode cX10_init 484 = .ok (.bipush 61, 2) := by decide +kernel
theorem dX10_init_486 : decode cX10_init 486 = .ok (.bipush 110, 2) := by decide +kernel
theorem dX10_init_488 : decode cX10_init 488 = .ok (.iastore, 1) := by decide +kernel
theorem dX10_init_489 : decode cX10_init 489 = .ok (.dup, 1) := by decide +kernel
theorem dX10_init_490 : decode cX10_init 490 = .ok (.bipush 62, 2) := by decide +kernel
theorem dX10_init_492 : decode cX10_init 492 = .ok (.bipush 32, 2) := by decide +kernel
theorem dX10_init_494 : decode cX10_init 494 = .ok (.iastore, 1) := by decide +kernel
theorem dX10_init_495 : decode cX10_init 495 = .ok (.dup, 1) := by decide +kernel
theorem dX10_init_496 : decode cX10_init 496 = .ok (.bipush 63, 2) := by decide +kernel
theorem dX10_init_498 : decode cX10_init 498 = .ok (.bipush 115, 2) := by decide +kernel
theorem dX10_init_500 : decode cX10_init 500 = .ok (.iastore, 1) := by decide +kernel
theorem dX10_init_501 : decode cX10_init 501 = .ok (.dup, 1) := by decide +kernel
theorem dX10_init_502 : decode cX10_init 502 = .ok (.bipush 64, 2) := by decide +kernel
theorem dX10_init_504 : decode cX10_init 504 = .ok (.bipush 104, 2) := by decide +kernel
theorem dX10_init_506 : decode cX10_init 506 = .ok (.iastore, 1) := by decide +kernel
theorem dX10_init_507 : decode cX10_init 507 = .ok (.dup, 1) := by decide +kernel
theorem dX10_init_508 : decode cX10_init 508 = .ok (.bipush 65, 2) := by decide +kernel
theorem dX10_init_510 : decode cX10_init 510 = .ok (.bipush 97, 2) := by decide +kernel
theorem dX10_init_512 : decode cX10_init 512 = .ok (.iastore, 1) := by decide +kernel
theorem dX10_init_513 : decode cX10_init 513 = .ok (.dup, 1) := by decide +kernel
theorem dX10_init_514 : decode cX10_init 514 = .ok (.bipush 66, 2) := by decide +kernel
theorem dX10_init_516 : decode cX10_init 516 = .ok (.bipush 100, 2) := by decide +kernel
theorem dX10_init_518 : decode cX10_init 518 = .ok (.iastore, 1) := by decide +kernel
theorem dX10_init_519 : decode cX10_init 519 = .ok (.dup, 1) := by decide +kernel
theorem dX10_init_520 : decode cX10_init 520 = .ok (.bipush 67, 2) := by decide +kernel
theorem dX10_init_522 : decode cX10_init 522 = .ok (.bipush 101, 2) := by decide +kernel
theorem dX10_init_524 : decode cX10_init 524 = .ok (.iastore, 1) := by decide +kernel
theorem dX10_init_525 : decode cX10_init 525 = .ok (.dup, 1) := by decide +kernel
theorem dX10_init_526 : decode cX10_init 526 = .ok (.bipush 68, 2) := by decide +kernel
theorem dX10_init_528 : decode cX10_init 528 = .ok (.bipush 32, 2) := by decide +kernel
theorem dX10_init_530 : decode cX10_init 530 = .ok (.iastore, 1) := by decide +kernel
theorem dX10_init_531 : decode cX10_init 531 = .ok (.putfield 50, 3) := by decide +kernel
theorem dX10_init_534 : decode cX10_init 534 = .ok (.aload_n 0, 1) := by decide +kernel
theorem dX10_init_535 : decode cX10_init 535 = .ok (.bipush 32, 2) := by decide +kernel
theorem dX10_init_537 : decode cX10_init 537 = .ok (.newarray .int, 2) := by decide +kernel
theorem dX10_init_539 : decode cX10_init 539 = .ok (.putfield 53, 3) := by decide +kernel
theorem dX10_init_542 : decode cX10_init 542 = .ok (.aload_n 0, 1) := by decide +kernel
theorem dX10_init_543 : decode cX10_init 543 = .ok (.bipush 32, 2) := by decide +kernel
theorem dX10_init_545 : decode cX10_init 545 = .ok (.newarray .int, 2) := by decide +kernel
theorem dX10_init_547 : decode cX10_init 547 = .ok (.putfield 56, 3) := by decide +kernel
theorem dX10_init_550 : decode cX10_init 550 = .ok (.aload_n 0, 1) := by decide +kernel
theorem dX10_init_551 : decode cX10_init 551 = .ok (.bipush 32, 2) := by decide +kernel
theorem dX10_init_553 : decode cX10_init 553 = .ok (.newarray .int, 2) := by decide +kernel
theorem dX10_init_555 : decode cX10_init 555 = .ok (.putfield 59, 3) := by decide +kernel
theorem dX10_init_558 : decode cX10_init 558 = .ok (.aload_n 0, 1) := by decide +kernel
theorem dX10_init_559 : decode cX10_init 559 = .ok (.sipush 800, 3) := by decide +kernel
theorem dX10_init_562 : decode cX10_init 562 = .ok (.newarray .int, 2) := by decide +kernel
theorem dX10_init_564 : decode cX10_init 564 = .ok (.putfield 62, 3) := by decide +kernel
theorem dX10_init_567 : decode cX10_init 567 = .ok (.aload_n 0, 1) := by decide +kernel
theorem dX10_init_568 : decode cX10_init 568 = .ok (.sipush 800, 3) := by decide +kernel
theorem dX10_init_571 : decode cX10_init 571 = .ok (.newarray .int, 2) := by decide +kernel
theorem dX10_init_573 : decode cX10_init 573 = .ok (.putfield 65, 3) := by decide +kernel
theorem dX10_init_576 : decode cX10_init 576 = .ok (.aload_n 0, 1) := by decide +kernel
theorem dX10_init_577 : decode cX10_init 577 = .ok (.bipush 40, 2) := by decide +kernel
theorem dX10_init_579 : decode cX10_init 579 = .ok (.newarray .int, 2) := by decide +kernel
theorem dX10_init_581 : decode cX10_init 581 = .ok (.putfield 68, 3) := by decide +kernel
theorem dX10_init_584 : decode cX10_init 584 = .ok (.aload_n 0, 1) := by decide +kernel
theorem dX10_init_585 : decode cX10_init 585 = .ok (.iconst (-1), 1) := by decide +kernel
theorem dX10_init_586 : decode cX10_init 586 = .ok (.putfield 71, 3) := by decide +kernel
theorem dX10_init_589 : decode cX10_init 589 = .ok (.aload_n 0, 1) := by decide +kernel
theorem dX10_init_590 : decode cX10_init 590 = .ok (.bipush 8, 2) := by decide +kernel
theorem dX10_init_592 : decode cX10_init 592 = .ok (.newarray .int, 2) := by decide +kernel
theorem dX10_init_594 : decode cX10_init 594 = .ok (.putfield 74, 3) := by decide +kernel
theorem dX10_init_597 : decode cX10_init 597 = .ok (.aload_n 0, 1) := by decide +kernel
theorem dX10_init_598 : decode cX10_init 598 = .ok (.sipush 420, 3) := by decide +kernel
theorem dX10_init_601 : decode cX10_init 601 = .ok (.newarray .int, 2) := by decide +kernel
theorem dX10_init_603 : decode cX10_init 603 = .ok (.putfield 77, 3) := by decide +kernel
theorem dX10_init_606 : decode cX10_init 606 = .ok (.aload_n 0, 1) := by decide +kernel
theorem dX10_init_607 : decode cX10_init 607 = .ok (.bipush 64, 2) := by decide +kernel
theorem dX10_init_609 : decode cX10_init 609 = .ok (.newarray .int, 2) := by decide +kernel
theorem dX10_init_611 : decode cX10_init 611 = .ok (.putfield 80, 3) := by decide +kernel
theorem dX10_init_614 : decode cX10_init 614 = .ok (.aload_n 0, 1) := by decide +kernel
theorem dX10_init_615 : decode cX10_init 615 = .ok (.bipush 64, 2) := by decide +kernel
theorem dX10_init_617 : decode cX10_init 617 = .ok (.newarray .int, 2) := by decide +kernel
theorem dX10_init_619 : decode cX10_init 619 = .ok (.putfield 83, 3) := by decide +kernel
theorem dX10_init_622 : decode cX10_init 622 = .ok (.aload_n 0, 1) := by decide +kernel
theorem dX10_init_623 : decode cX10_init 623 = .ok (.sipush 4096, 3) := by decide +kernel
theorem dX10_init_626 : decode cX10_init 626 = .ok (.newarray .int, 2) := by decide +kernel
theorem dX10_init_628 : decode cX10_init 628 = .ok (.putfield 86, 3) := by decide +kernel
theorem dX10_init_631 : decode cX10_init 631 = .ok (.aload_n 0, 1) := by decide +kernel
theorem dX10_init_632 : decode cX10_init 632 = .ok (.bipush 24, 2) := by decide +kernel
theorem dX10_init_634 : decode cX10_init 634 = .ok (.newarray .int, 2) := by decide +kernel
theorem dX10_init_636 : decode cX10_init 636 = .ok (.putfield 89, 3) := by decide +kernel
theorem dX10_init_639 : decode cX10_init 639 = .ok (.aload_n 0, 1) := by decide +kernel
theorem dX10_init_640 : decode cX10_init 640 = .ok (.bipush 24, 2) := by decide +kernel
theorem dX10_init_642 : decode cX10_init 642 = .ok (.newarray .int, 2) := by decide +kernel
theorem dX10_init_644 : decode cX10_init 644 = .ok (.putfield 92, 3) := by decide +kernel
theorem dX10_init_647 : decode cX10_init 647 = .ok (.aload_n 0, 1) := by decide +kernel
theorem dX10_init_648 : decode cX10_init 648 = .ok (.sipush 1800, 3) := by decide +kernel
theorem dX10_init_651 : decode cX10_init 651 = .ok (.newarray .int, 2) := by decide +kernel
theorem dX10_init_653 : decode cX10_init 653 = .ok (.putfield 95, 3) := by decide +kernel
theorem dX10_init_656 : decode cX10_init 656 = .ok (.return_, 1) := by decide +kernel
