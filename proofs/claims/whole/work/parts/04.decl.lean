-- L_share  FleetWavesLaw.share(LFleetWaves;II[J)I  method_3_code maxL 5 ret (some .int) codeWith
theorem d_L_share_0 : decode method_3_code 0 = .ok (.aload_n 3, 1) := by decide +kernel
theorem d_L_share_1 : decode method_3_code 1 = .ok (.iconst 0, 1) := by decide +kernel
theorem d_L_share_2 : decode method_3_code 2 = .ok (.aload_n 0, 1) := by decide +kernel
theorem d_L_share_3 : decode method_3_code 3 = .ok (.iload_n 1, 1) := by decide +kernel
theorem d_L_share_4 : decode method_3_code 4 = .ok (.iload_n 2, 1) := by decide +kernel
theorem d_L_share_5 : decode method_3_code 5 = .ok (.invokevirtual 7, 3) := by decide +kernel
theorem d_L_share_8 : decode method_3_code 8 = .ok (.lastore, 1) := by decide +kernel
theorem d_L_share_9 : decode method_3_code 9 = .ok (.goto 7, 3) := by decide +kernel
theorem d_L_share_12 : decode method_3_code 12 = .ok (.astore 4, 2) := by decide +kernel
theorem d_L_share_14 : decode method_3_code 14 = .ok (.iconst 1, 1) := by decide +kernel
theorem d_L_share_15 : decode method_3_code 15 = .ok (.ireturn, 1) := by decide +kernel
theorem d_L_share_16 : decode method_3_code 16 = .ok (.iconst 0, 1) := by decide +kernel
theorem d_L_share_17 : decode method_3_code 17 = .ok (.ireturn, 1) := by decide +kernel
theorem d_L_law_0 : decode code 0 = .ok (.new 8, 3) := by decide +kernel
theorem d_L_law_3 : decode code 3 = .ok (.dup, 1) := by decide +kernel
theorem d_L_law_4 : decode code 4 = .ok (.invokespecial 15, 3) := by decide +kernel
theorem d_L_law_7 : decode code 7 = .ok (.astore_n 1, 1) := by decide +kernel
theorem d_L_law_8 : decode code 8 = .ok (.new 16, 3) := by decide +kernel
theorem d_L_law_11 : decode code 11 = .ok (.dup, 1) := by decide +kernel
theorem d_L_law_12 : decode code 12 = .ok (.invokespecial 18, 3) := by decide +kernel
theorem d_L_law_15 : decode code 15 = .ok (.astore_n 2, 1) := by decide +kernel
theorem d_L_law_16 : decode code 16 = .ok (.iconst 1, 1) := by decide +kernel
theorem d_L_law_17 : decode code 17 = .ok (.newarray .long, 2) := by decide +kernel
theorem d_L_law_19 : decode code 19 = .ok (.astore_n 3, 1) := by decide +kernel
theorem d_L_law_20 : decode code 20 = .ok (.iconst 0, 1) := by decide +kernel
theorem d_L_law_21 : decode code 21 = .ok (.istore 4, 2) := by decide +kernel
theorem d_L_law_23 : decode code 23 = .ok (.iload 4, 2) := by decide +kernel
theorem d_L_law_25 : decode code 25 = .ok (.aload_n 0, 1) := by decide +kernel
theorem d_L_law_26 : decode code 26 = .ok (.arraylength, 1) := by decide +kernel
theorem d_L_law_27 : decode code 27 = .ok (.bipush 8, 2) := by decide +kernel
theorem d_L_law_29 : decode code 29 = .ok (.isub, 1) := by decide +kernel
theorem d_L_law_30 : decode code 30 = .ok (.if_icmp .gt 867, 3) := by decide +kernel
theorem d_L_law_33 : decode code 33 = .ok (.aload_n 0, 1) := by decide +kernel
theorem d_L_law_34 : decode code 34 = .ok (.iload 4, 2) := by decide +kernel
theorem d_L_law_36 : decode code 36 = .ok (.iaload, 1) := by decide +kernel
theorem d_L_law_37 : decode code 37 = .ok (.bipush 15, 2) := by decide +kernel
theorem d_L_law_39 : decode code 39 = .ok (.iand, 1) := by decide +kernel
theorem d_L_law_40 : decode code 40 = .ok (.tableswitch 851 0 12 #[68, 137, 174, 335, 404, 469, 536, 649, 674, 699, 752, 777, 814], 68) := by decide +kernel
theorem d_L_law_108 : decode code 108 = .ok (.aload_n 1, 1) := by decide +kernel
theorem d_L_law_109 : decode code 109 = .ok (.aload_n 0, 1) := by decide +kernel
theorem d_L_law_110 : decode code 110 = .ok (.iload 4, 2) := by decide +kernel
theorem d_L_law_112 : decode code 112 = .ok (.iconst 1, 1) := by decide +kernel
theorem d_L_law_113 : decode code 113 = .ok (.iadd, 1) := by decide +kernel
theorem d_L_law_114 : decode code 114 = .ok (.iaload, 1) := by decide +kernel
theorem d_L_law_115 : decode code 115 = .ok (.i2l, 1) := by decide +kernel
theorem d_L_law_116 : decode code 116 = .ok (.bipush 32, 2) := by decide +kernel
theorem d_L_law_118 : decode code 118 = .ok (.lshl, 1) := by decide +kernel
theorem d_L_law_119 : decode code 119 = .ok (.aload_n 0, 1) := by decide +kernel
theorem d_L_law_120 : decode code 120 = .ok (.iload 4, 2) := by decide +kernel
theorem d_L_law_122 : decode code 122 = .ok (.iconst 2, 1) := by decide +kernel
theorem d_L_law_123 : decode code 123 = .ok (.iadd, 1) := by decide +kernel
theorem d_L_law_124 : decode code 124 = .ok (.iaload, 1) := by decide +kernel
theorem d_L_law_125 : decode code 125 = .ok (.i2l, 1) := by decide +kernel
theorem d_L_law_126 : decode code 126 = .ok (.ldc2_w 19, 3) := by decide +kernel
theorem d_L_law_129 : decode code 129 = .ok (.land, 1) := by decide +kernel
theorem d_L_law_130 : decode code 130 = .ok (.lor, 1) := by decide +kernel
theorem d_L_law_131 : decode code 131 = .ok (.aload_n 0, 1) := by decide +kernel
theorem d_L_law_132 : decode code 132 = .ok (.iload 4, 2) := by decide +kernel
theorem d_L_law_134 : decode code 134 = .ok (.iconst 3, 1) := by decide +kernel
theorem d_L_law_135 : decode code 135 = .ok (.iadd, 1) := by decide +kernel
theorem d_L_law_136 : decode code 136 = .ok (.iaload, 1) := by decide +kernel
theorem d_L_law_137 : decode code 137 = .ok (.invokevirtual 21, 3) := by decide +kernel
theorem d_L_law_140 : decode code 140 = .ok (.aload_n 2, 1) := by decide +kernel
theorem d_L_law_141 : decode code 141 = .ok (.aload_n 0, 1) := by decide +kernel
theorem d_L_law_142 : decode code 142 = .ok (.iload 4, 2) := by decide +kernel
theorem d_L_law_144 : decode code 144 = .ok (.iconst 1, 1) := by decide +kernel
theorem d_L_law_145 : decode code 145 = .ok (.iadd, 1) := by decide +kernel
theorem d_L_law_146 : decode code 146 = .ok (.iaload, 1) := by decide +kernel
theorem d_L_law_147 : decode code 147 = .ok (.i2l, 1) := by decide +kernel
theorem d_L_law_148 : decode code 148 = .ok (.bipush 32, 2) := by decide +kernel
theorem d_L_law_150 : decode code 150 = .ok (.lshl, 1) := by decide +kernel
theorem d_L_law_151 : decode code 151 = .ok (.aload_n 0, 1) := by decide +kernel
theorem d_L_law_152 : decode code 152 = .ok (.iload 4, 2) := by decide +kernel
theorem d_L_law_154 : decode code 154 = .ok (.iconst 2, 1) := by decide +kernel
theorem d_L_law_155 : decode code 155 = .ok (.iadd, 1) := by decide +kernel
theorem d_L_law_156 : decode code 156 = .ok (.iaload, 1) := by decide +kernel
theorem d_L_law_157 : decode code 157 = .ok (.i2l, 1) := by decide +kernel
theorem d_L_law_158 : decode code 158 = .ok (.ldc2_w 19, 3) := by decide +kernel
theorem d_L_law_161 : decode code 161 = .ok (.land, 1) := by decide +kernel
theorem d_L_law_162 : decode code 162 = .ok (.lor, 1) := by decide +kernel
theorem d_L_law_163 : decode code 163 = .ok (.aload_n 0, 1) := by decide +kernel
theorem d_L_law_164 : decode code 164 = .ok (.iload 4, 2) := by decide +kernel
theorem d_L_law_166 : decode code 166 = .ok (.iconst 3, 1) := by decide +kernel
theorem d_L_law_167 : decode code 167 = .ok (.iadd, 1) := by decide +kernel
theorem d_L_law_168 : decode code 168 = .ok (.iaload, 1) := by decide +kernel
theorem d_L_law_169 : decode code 169 = .ok (.invokevirtual 25, 3) := by decide +kernel
theorem d_L_law_172 : decode code 172 = .ok (.if_icmp .eq 719, 3) := by decide +kernel
theorem d_L_law_175 : decode code 175 = .ok (.iconst 0, 1) := by decide +kernel
theorem d_L_law_176 : decode code 176 = .ok (.ireturn, 1) := by decide +kernel
theorem d_L_law_177 : decode code 177 = .ok (.aload_n 1, 1) := by decide +kernel
theorem d_L_law_178 : decode code 178 = .ok (.aload_n 0, 1) := by decide +kernel
theorem d_L_law_179 : decode code 179 = .ok (.iload 4, 2) := by decide +kernel
theorem d_L_law_181 : decode code 181 = .ok (.iconst 1, 1) := by decide +kernel
theorem d_L_law_182 : decode code 182 = .ok (.iadd, 1) := by decide +kernel
theorem d_L_law_183 : decode code 183 = .ok (.iaload, 1) := by decide +kernel
theorem d_L_law_184 : decode code 184 = .ok (.aload_n 0, 1) := by decide +kernel
theorem d_L_law_185 : decode code 185 = .ok (.iload 4, 2) := by decide +kernel
theorem d_L_law_187 : decode code 187 = .ok (.iconst 2, 1) := by decide +kernel
theorem d_L_law_188 : decode code 188 = .ok (.iadd, 1) := by decide +kernel
theorem d_L_law_189 : decode code 189 = .ok (.iaload, 1) := by decide +kernel
theorem d_L_law_190 : decode code 190 = .ok (.invokevirtual 26, 3) := by decide +kernel
theorem d_L_law_193 : decode code 193 = .ok (.aload_n 2, 1) := by decide +kernel
theorem d_L_law_194 : decode code 194 = .ok (.aload_n 0, 1) := by decide +kernel
theorem d_L_law_195 : decode code 195 = .ok (.iload 4, 2) := by decide +kernel
theorem d_L_law_197 : decode code 197 = .ok (.iconst 1, 1) := by decide +kernel
theorem d_L_law_198 : decode code 198 = .ok (.iadd, 1) := by decide +kernel
theorem d_L_law_199 : decode code 199 = .ok (.iaload, 1) := by decide +kernel
theorem d_L_law_200 : decode code 200 = .ok (.aload_n 0, 1) := by decide +kernel
theorem d_L_law_201 : decode code 201 = .ok (.iload 4, 2) := by decide +kernel
theorem d_L_law_203 : decode code 203 = .ok (.iconst 2, 1) := by decide +kernel
theorem d_L_law_204 : decode code 204 = .ok (.iadd, 1) := by decide +kernel
theorem d_L_law_205 : decode code 205 = .ok (.iaload, 1) := by decide +kernel
theorem d_L_law_206 : decode code 206 = .ok (.invokevirtual 30, 3) := by decide +kernel
theorem d_L_law_209 : decode code 209 = .ok (.if_icmp .eq 682, 3) := by decide +kernel
theorem d_L_law_212 : decode code 212 = .ok (.iconst 0, 1) := by decide +kernel
theorem d_L_law_213 : decode code 213 = .ok (.ireturn, 1) := by decide +kernel
theorem d_L_law_214 : decode code 214 = .ok (.aload_n 1, 1) := by decide +kernel
theorem d_L_law_215 : decode code 215 = .ok (.aload_n 0, 1) := by decide +kernel
theorem d_L_law_216 : decode code 216 = .ok (.iload 4, 2) := by decide +kernel
theorem d_L_law_218 : decode code 218 = .ok (.iconst 1, 1) := by decide +kernel
theorem d_L_law_219 : decode code 219 = .ok (.iadd, 1) := by decide +kernel
theorem d_L_law_220 : decode code 220 = .ok (.iaload, 1) := by decide +kernel
theorem d_L_law_221 : decode code 221 = .ok (.aload_n 0, 1) := by decide +kernel
theorem d_L_law_222 : decode code 222 = .ok (.iload 4, 2) := by decide +kernel
theorem d_L_law_224 : decode code 224 = .ok (.iconst 2, 1) := by decide +kernel
theorem d_L_law_225 : decode code 225 = .ok (.iadd, 1) := by decide +kernel
theorem d_L_law_226 : decode code 226 = .ok (.iaload, 1) := by decide +kernel
theorem d_L_law_227 : decode code 227 = .ok (.i2l, 1) := by decide +kernel
theorem d_L_law_228 : decode code 228 = .ok (.bipush 32, 2) := by decide +kernel
theorem d_L_law_230 : decode code 230 = .ok (.lshl, 1) := by decide +kernel
theorem d_L_law_231 : decode code 231 = .ok (.aload_n 0, 1) := by decide +kernel
theorem d_L_law_232 : decode code 232 = .ok (.iload 4, 2) := by decide +kernel
theorem d_L_law_234 : decode code 234 = .ok (.iconst 3, 1) := by decide +kernel
theorem d_L_law_235 : decode code 235 = .ok (.iadd, 1) := by decide +kernel
theorem d_L_law_236 : decode code 236 = .ok (.iaload, 1) := by decide +kernel
theorem d_L_law_237 : decode code 237 = .ok (.i2l, 1) := by decide +kernel
theorem d_L_law_238 : decode code 238 = .ok (.ldc2_w 19, 3) := by decide +kernel
theorem d_L_law_241 : decode code 241 = .ok (.land, 1) := by decide +kernel
theorem d_L_law_242 : decode code 242 = .ok (.lor, 1) := by decide +kernel
theorem d_L_law_243 : decode code 243 = .ok (.aload_n 0, 1) := by decide +kernel
theorem d_L_law_244 : decode code 244 = .ok (.iload 4, 2) := by decide +kernel
theorem d_L_law_246 : decode code 246 = .ok (.iconst 4, 1) := by decide +kernel
theorem d_L_law_247 : decode code 247 = .ok (.iadd, 1) := by decide +kernel
theorem d_L_law_248 : decode code 248 = .ok (.iaload, 1) := by decide +kernel
theorem d_L_law_249 : decode code 249 = .ok (.i2l, 1) := by decide +kernel
theorem d_L_law_250 : decode code 250 = .ok (.bipush 32, 2) := by decide +kernel
theorem d_L_law_252 : decode code 252 = .ok (.lshl, 1) := by decide +kernel
theorem d_L_law_253 : decode code 253 = .ok (.aload_n 0, 1) := by decide +kernel
theorem d_L_law_254 : decode code 254 = .ok (.iload 4, 2) := by decide +kernel
theorem d_L_law_256 : decode code 256 = .ok (.iconst 5, 1) := by decide +kernel
theorem d_L_law_257 : decode code 257 = .ok (.iadd, 1) := by decide +kernel
theorem d_L_law_258 : decode code 258 = .ok (.iaload, 1) := by decide +kernel
theorem d_L_law_259 : decode code 259 = .ok (.i2l, 1) := by decide +kernel
theorem d_L_law_260 : decode code 260 = .ok (.ldc2_w 19, 3) := by decide +kernel
theorem d_L_law_263 : decode code 263 = .ok (.land, 1) := by decide +kernel
theorem d_L_law_264 : decode code 264 = .ok (.lor, 1) := by decide +kernel
theorem d_L_law_265 : decode code 265 = .ok (.aload_n 0, 1) := by decide +kernel
theorem d_L_law_266 : decode code 266 = .ok (.iload 4, 2) := by decide +kernel
theorem d_L_law_268 : decode code 268 = .ok (.bipush 6, 2) := by decide +kernel
theorem d_L_law_270 : decode code 270 = .ok (.iadd, 1) := by decide +kernel
theorem d_L_law_271 : decode code 271 = .ok (.iaload, 1) := by decide +kernel
theorem d_L_law_272 : decode code 272 = .ok (.i2l, 1) := by decide +kernel
theorem d_L_law_273 : decode code 273 = .ok (.bipush 32, 2) := by decide +kernel
theorem d_L_law_275 : decode code 275 = .ok (.lshl, 1) := by decide +kernel
theorem d_L_law_276 : decode code 276 = .ok (.aload_n 0, 1) := by decide +kernel
theorem d_L_law_277 : decode code 277 = .ok (.iload 4, 2) := by decide +kernel
theorem d_L_law_279 : decode code 279 = .ok (.bipush 7, 2) := by decide +kernel
theorem d_L_law_281 : decode code 281 = .ok (.iadd, 1) := by decide +kernel
theorem d_L_law_282 : decode code 282 = .ok (.iaload, 1) := by decide +kernel
theorem d_L_law_283 : decode code 283 = .ok (.i2l, 1) := by decide +kernel
theorem d_L_law_284 : decode code 284 = .ok (.ldc2_w 19, 3) := by decide +kernel
theorem d_L_law_287 : decode code 287 = .ok (.land, 1) := by decide +kernel
theorem d_L_law_288 : decode code 288 = .ok (.lor, 1) := by decide +kernel
theorem d_L_law_289 : decode code 289 = .ok (.invokevirtual 31, 3) := by decide +kernel
theorem d_L_law_292 : decode code 292 = .ok (.aload_n 2, 1) := by decide +kernel
theorem d_L_law_293 : decode code 293 = .ok (.aload_n 0, 1) := by decide +kernel
theorem d_L_law_294 : decode code 294 = .ok (.iload 4, 2) := by decide +kernel
theorem d_L_law_296 : decode code 296 = .ok (.iconst 1, 1) := by decide +kernel
theorem d_L_law_297 : decode code 297 = .ok (.iadd, 1) := by decide +kernel
theorem d_L_law_298 : decode code 298 = .ok (.iaload, 1) := by decide +kernel
theorem d_L_law_299 : decode code 299 = .ok (.aload_n 0, 1) := by decide +kernel
theorem d_L_law_300 : decode code 300 = .ok (.iload 4, 2) := by decide +kernel
theorem d_L_law_302 : decode code 302 = .ok (.iconst 2, 1) := by decide +kernel
theorem d_L_law_303 : decode code 303 = .ok (.iadd, 1) := by decide +kernel
theorem d_L_law_304 : decode code 304 = .ok (.iaload, 1) := by decide +kernel
theorem d_L_law_305 : decode code 305 = .ok (.i2l, 1) := by decide +kernel
theorem d_L_law_306 : decode code 306 = .ok (.bipush 32, 2) := by decide +kernel
theorem d_L_law_308 : decode code 308 = .ok (.lshl, 1) := by decide +kernel
theorem d_L_law_309 : decode code 309 = .ok (.aload_n 0, 1) := by decide +kernel
theorem d_L_law_310 : decode code 310 = .ok (.iload 4, 2) := by decide +kernel
theorem d_L_law_312 : decode code 312 = .ok (.iconst 3, 1) := by decide +kernel
theorem d_L_law_313 : decode code 313 = .ok (.iadd, 1) := by decide +kernel
theorem d_L_law_314 : decode code 314 = .ok (.iaload, 1) := by decide +kernel
theorem d_L_law_315 : decode code 315 = .ok (.i2l, 1) := by decide +kernel
theorem d_L_law_316 : decode code 316 = .ok (.ldc2_w 19, 3) := by decide +kernel
theorem d_L_law_319 : decode code 319 = .ok (.land, 1) := by decide +kernel
theorem d_L_law_320 : decode code 320 = .ok (.lor, 1) := by decide +kernel
theorem d_L_law_321 : decode code 321 = .ok (.aload_n 0, 1) := by decide +kernel
theorem d_L_law_322 : decode code 322 = .ok (.iload 4, 2) := by decide +kernel
theorem d_L_law_324 : decode code 324 = .ok (.iconst 4, 1) := by decide +kernel
theorem d_L_law_325 : decode code 325 = .ok (.iadd, 1) := by decide +kernel
theorem d_L_law_326 : decode code 326 = .ok (.iaload, 1) := by decide +kernel
theorem d_L_law_327 : decode code 327 = .ok (.i2l, 1) := by decide +kernel
theorem d_L_law_328 : decode code 328 = .ok (.bipush 32, 2) := by decide +kernel
theorem d_L_law_330 : decode code 330 = .ok (.lshl, 1) := by decide +kernel
theorem d_L_law_331 : decode code 331 = .ok (.aload_n 0, 1) := by decide +kernel
theorem d_L_law_332 : decode code 332 = .ok (.iload 4, 2) := by decide +kernel
theorem d_L_law_334 : decode code 334 = .ok (.iconst 5, 1) := by decide +kernel
theorem d_L_law_335 : decode code 335 = .ok (.iadd, 1) := by decide +kernel
theorem d_L_law_336 : decode code 336 = .ok (.iaload, 1) := by decide +kernel
theorem d_L_law_337 : decode code 337 = .ok (.i2l, 1) := by decide +kernel
theorem d_L_law_338 : decode code 338 = .ok (.ldc2_w 19, 3) := by decide +kernel
theorem d_L_law_341 : decode code 341 = .ok (.land, 1) := by decide +kernel
theorem d_L_law_342 : decode code 342 = .ok (.lor, 1) := by decide +kernel
theorem d_L_law_343 : decode code 343 = .ok (.aload_n 0, 1) := by decide +kernel
theorem d_L_law_344 : decode code 344 = .ok (.iload 4, 2) := by decide +kernel
theorem d_L_law_346 : decode code 346 = .ok (.bipush 6, 2) := by decide +kernel
theorem d_L_law_348 : decode code 348 = .ok (.iadd, 1) := by decide +kernel
theorem d_L_law_349 : decode code 349 = .ok (.iaload, 1) := by decide +kernel
theorem d_L_law_350 : decode code 350 = .ok (.i2l, 1) := by decide +kernel
theorem d_L_law_351 : decode code 351 = .ok (.bipush 32, 2) := by decide +kernel
theorem d_L_law_353 : decode code 353 = .ok (.lshl, 1) := by decide +kernel
theorem d_L_law_354 : decode code 354 = .ok (.aload_n 0, 1) := by decide +kernel
theorem d_L_law_355 : decode code 355 = .ok (.iload 4, 2) := by decide +kernel
theorem d_L_law_357 : decode code 357 = .ok (.bipush 7, 2) := by decide +kernel
theorem d_L_law_359 : decode code 359 = .ok (.iadd, 1) := by decide +kernel
theorem d_L_law_360 : decode code 360 = .ok (.iaload, 1) := by decide +kernel
theorem d_L_law_361 : decode code 361 = .ok (.i2l, 1) := by decide +kernel
theorem d_L_law_362 : decode code 362 = .ok (.ldc2_w 19, 3) := by decide +kernel
theorem d_L_law_365 : decode code 365 = .ok (.land, 1) := by decide +kernel
theorem d_L_law_366 : decode code 366 = .ok (.lor, 1) := by decide +kernel
theorem d_L_law_367 : decode code 367 = .ok (.invokevirtual 35, 3) := by decide +kernel
theorem d_L_law_370 : decode code 370 = .ok (.if_icmp .eq 521, 3) := by decide +kernel
theorem d_L_law_373 : decode code 373 = .ok (.iconst 0, 1) := by decide +kernel
theorem d_L_law_374 : decode code 374 = .ok (.ireturn, 1) := by decide +kernel
theorem d_L_law_375 : decode code 375 = .ok (.aload_n 1, 1) := by decide +kernel
theorem d_L_law_376 : decode code 376 = .ok (.aload_n 0, 1) := by decide +kernel
theorem d_L_law_377 : decode code 377 = .ok (.iload 4, 2) := by decide +kernel
theorem d_L_law_379 : decode code 379 = .ok (.iconst 1, 1) := by decide +kernel
theorem d_L_law_380 : decode code 380 = .ok (.iadd, 1) := by decide +kernel
theorem d_L_law_381 : decode code 381 = .ok (.iaload, 1) := by decide +kernel
theorem d_L_law_382 : decode code 382 = .ok (.aload_n 0, 1) := by decide +kernel
theorem d_L_law_383 : decode code 383 = .ok (.iload 4, 2) := by decide +kernel
theorem d_L_law_385 : decode code 385 = .ok (.iconst 2, 1) := by decide +kernel
theorem d_L_law_386 : decode code 386 = .ok (.iadd, 1) := by decide +kernel
theorem d_L_law_387 : decode code 387 = .ok (.iaload, 1) := by decide +kernel
theorem d_L_law_388 : decode code 388 = .ok (.i2l, 1) := by decide +kernel
theorem d_L_law_389 : decode code 389 = .ok (.bipush 32, 2) := by decide +kernel
theorem d_L_law_391 : decode code 391 = .ok (.lshl, 1) := by decide +kernel
theorem d_L_law_392 : decode code 392 = .ok (.aload_n 0, 1) := by decide +kernel
theorem d_L_law_393 : decode code 393 = .ok (.iload 4, 2) := by decide +kernel
theorem d_L_law_395 : decode code 395 = .ok (.iconst 3, 1) := by decide +kernel
theorem d_L_law_396 : decode code 396 = .ok (.iadd, 1) := by decide +kernel
theorem d_L_law_397 : decode code 397 = .ok (.iaload, 1) := by decide +kernel
theorem d_L_law_398 : decode code 398 = .ok (.i2l, 1) := by decide +kernel
theorem d_L_law_399 : decode code 399 = .ok (.ldc2_w 19, 3) := by decide +kernel
theorem d_L_law_402 : decode code 402 = .ok (.land, 1) := by decide +kernel
theorem d_L_law_403 : decode code 403 = .ok (.lor, 1) := by decide +kernel
theorem d_L_law_404 : decode code 404 = .ok (.invokevirtual 36, 3) := by decide +kernel
theorem d_L_law_407 : decode code 407 = .ok (.aload_n 2, 1) := by decide +kernel
theorem d_L_law_408 : decode code 408 = .ok (.aload_n 0, 1) := by decide +kernel
theorem d_L_law_409 : decode code 409 = .ok (.iload 4, 2) := by decide +kernel
theorem d_L_law_411 : decode code 411 = .ok (.iconst 1, 1) := by decide +kernel
theorem d_L_law_412 : decode code 412 = .ok (.iadd, 1) := by decide +kernel
theorem d_L_law_413 : decode code 413 = .ok (.iaload, 1) := by decide +kernel
theorem d_L_law_414 : decode code 414 = .ok (.aload_n 0, 1) := by decide +kernel
theorem d_L_law_415 : decode code 415 = .ok (.iload 4, 2) := by decide +kernel
theorem d_L_law_417 : decode code 417 = .ok (.iconst 2, 1) := by decide +kernel
theorem d_L_law_418 : decode code 418 = .ok (.iadd, 1) := by decide +kernel
theorem d_L_law_419 : decode code 419 = .ok (.iaload, 1) := by decide +kernel
theorem d_L_law_420 : decode code 420 = .ok (.i2l, 1) := by decide +kernel
theorem d_L_law_421 : decode code 421 = .ok (.bipush 32, 2) := by decide +kernel
theorem d_L_law_423 : decode code 423 = .ok (.lshl, 1) := by decide +kernel
theorem d_L_law_424 : decode code 424 = .ok (.aload_n 0, 1) := by decide +kernel
theorem d_L_law_425 : decode code 425 = .ok (.iload 4, 2) := by decide +kernel
theorem d_L_law_427 : decode code 427 = .ok (.iconst 3, 1) := by decide +kernel
theorem d_L_law_428 : decode code 428 = .ok (.iadd, 1) := by decide +kernel
theorem d_L_law_429 : decode code 429 = .ok (.iaload, 1) := by decide +kernel
theorem d_L_law_430 : decode code 430 = .ok (.i2l, 1) := by decide +kernel
theorem d_L_law_431 : decode code 431 = .ok (.ldc2_w 19, 3) := by decide +kernel
theorem d_L_law_434 : decode code 434 = .ok (.land, 1) := by decide +kernel
theorem d_L_law_435 : decode code 435 = .ok (.lor, 1) := by decide +kernel
theorem d_L_law_436 : decode code 436 = .ok (.invokevirtual 40, 3) := by decide +kernel
theorem d_L_law_439 : decode code 439 = .ok (.if_icmp .eq 452, 3) := by decide +kernel
theorem d_L_law_442 : decode code 442 = .ok (.iconst 0, 1) := by decide +kernel
theorem d_L_law_443 : decode code 443 = .ok (.ireturn, 1) := by decide +kernel
theorem d_L_law_444 : decode code 444 = .ok (.aload_n 1, 1) := by decide +kernel
theorem d_L_law_445 : decode code 445 = .ok (.aload_n 0, 1) := by decide +kernel
theorem d_L_law_446 : decode code 446 = .ok (.iload 4, 2) := by decide +kernel
theorem d_L_law_448 : decode code 448 = .ok (.iconst 1, 1) := by decide +kernel
theorem d_L_law_449 : decode code 449 = .ok (.iadd, 1) := by decide +kernel
theorem d_L_law_450 : decode code 450 = .ok (.iaload, 1) := by decide +kernel
theorem d_L_law_451 : decode code 451 = .ok (.aload_n 0, 1) := by decide +kernel
theorem d_L_law_452 : decode code 452 = .ok (.iload 4, 2) := by decide +kernel
theorem d_L_law_454 : decode code 454 = .ok (.iconst 2, 1) := by decide +kernel
theorem d_L_law_455 : decode code 455 = .ok (.iadd, 1) := by decide +kernel
theorem d_L_law_456 : decode code 456 = .ok (.iaload, 1) := by decide +kernel
theorem d_L_law_457 : decode code 457 = .ok (.aload_n 0, 1) := by decide +kernel
theorem d_L_law_458 : decode code 458 = .ok (.iload 4, 2) := by decide +kernel
theorem d_L_law_460 : decode code 460 = .ok (.iconst 3, 1) := by decide +kernel
theorem d_L_law_461 : decode code 461 = .ok (.iadd, 1) := by decide +kernel
theorem d_L_law_462 : decode code 462 = .ok (.iaload, 1) := by decide +kernel
theorem d_L_law_463 : decode code 463 = .ok (.ifCond .eq 7, 3) := by decide +kernel
theorem d_L_law_466 : decode code 466 = .ok (.iconst 1, 1) := by decide +kernel
theorem d_L_law_467 : decode code 467 = .ok (.goto 4, 3) := by decide +kernel
theorem d_L_law_470 : decode code 470 = .ok (.iconst 0, 1) := by decide +kernel
theorem d_L_law_471 : decode code 471 = .ok (.invokevirtual 41, 3) := by decide +kernel
theorem d_L_law_474 : decode code 474 = .ok (.aload_n 2, 1) := by decide +kernel
theorem d_L_law_475 : decode code 475 = .ok (.aload_n 0, 1) := by decide +kernel
theorem d_L_law_476 : decode code 476 = .ok (.iload 4, 2) := by decide +kernel
theorem d_L_law_478 : decode code 478 = .ok (.iconst 1, 1) := by decide +kernel
theorem d_L_law_479 : decode code 479 = .ok (.iadd, 1) := by decide +kernel
theorem d_L_law_480 : decode code 480 = .ok (.iaload, 1) := by decide +kernel
theorem d_L_law_481 : decode code 481 = .ok (.aload_n 0, 1) := by decide +kernel
theorem d_L_law_482 : decode code 482 = .ok (.iload 4, 2) := by decide +kernel
theorem d_L_law_484 : decode code 484 = .ok (.iconst 2, 1) := by decide +kernel
theorem d_L_law_485 : decode code 485 = .ok (.iadd, 1) := by decide +kernel
theorem d_L_law_486 : decode code 486 = .ok (.iaload, 1) := by decide +kernel
theorem d_L_law_487 : decode code 487 = .ok (.aload_n 0, 1) := by decide +kernel
theorem d_L_law_488 : decode code 488 = .ok (.iload 4, 2) := by decide +kernel
theorem d_L_law_490 : decode code 490 = .ok (.iconst 3, 1) := by decide +kernel
theorem d_L_law_491 : decode code 491 = .ok (.iadd, 1) := by decide +kernel
theorem d_L_law_492 : decode code 492 = .ok (.iaload, 1) := by decide +kernel
theorem d_L_law_493 : decode code 493 = .ok (.ifCond .eq 7, 3) := by decide +kernel
theorem d_L_law_496 : decode code 496 = .ok (.iconst 1, 1) := by decide +kernel
theorem d_L_law_497 : decode code 497 = .ok (.goto 4, 3) := by decide +kernel
theorem d_L_law_500 : decode code 500 = .ok (.iconst 0, 1) := by decide +kernel
theorem d_L_law_501 : decode code 501 = .ok (.invokevirtual 45, 3) := by decide +kernel
theorem d_L_law_504 : decode code 504 = .ok (.if_icmp .eq 387, 3) := by decide +kernel
theorem d_L_law_507 : decode code 507 = .ok (.iconst 0, 1) := by decide +kernel
theorem d_L_law_508 : decode code 508 = .ok (.ireturn, 1) := by decide +kernel
theorem d_L_law_509 : decode code 509 = .ok (.aload_n 1, 1) := by decide +kernel
theorem d_L_law_510 : decode code 510 = .ok (.aload_n 0, 1) := by decide +kernel
theorem d_L_law_511 : decode code 511 = .ok (.iload 4, 2) := by decide +kernel
theorem d_L_law_513 : decode code 513 = .ok (.iconst 1, 1) := by decide +kernel
theorem d_L_law_514 : decode code 514 = .ok (.iadd, 1) := by decide +kernel
theorem d_L_law_515 : decode code 515 = .ok (.iaload, 1) := by decide +kernel
theorem d_L_law_516 : decode code 516 = .ok (.aload_n 0, 1) := by decide +kernel
theorem d_L_law_517 : decode code 517 = .ok (.iload 4, 2) := by decide +kernel
theorem d_L_law_519 : decode code 519 = .ok (.iconst 2, 1) := by decide +kernel
theorem d_L_law_520 : decode code 520 = .ok (.iadd, 1) := by decide +kernel
theorem d_L_law_521 : decode code 521 = .ok (.iaload, 1) := by decide +kernel
theorem d_L_law_522 : decode code 522 = .ok (.aload_n 3, 1) := by decide +kernel
theorem d_L_law_523 : decode code 523 = .ok (.invokestatic 46, 3) := by decide +kernel
theorem d_L_law_526 : decode code 526 = .ok (.istore 5, 2) := by decide +kernel
theorem d_L_law_528 : decode code 528 = .ok (.aload_n 2, 1) := by decide +kernel
theorem d_L_law_529 : decode code 529 = .ok (.aload_n 0, 1) := by decide +kernel
theorem d_L_law_530 : decode code 530 = .ok (.iload 4, 2) := by decide +kernel
theorem d_L_law_532 : decode code 532 = .ok (.iconst 1, 1) := by decide +kernel
theorem d_L_law_533 : decode code 533 = .ok (.iadd, 1) := by decide +kernel
theorem d_L_law_534 : decode code 534 = .ok (.iaload, 1) := by decide +kernel
theorem d_L_law_535 : decode code 535 = .ok (.aload_n 0, 1) := by decide +kernel
theorem d_L_law_536 : decode code 536 = .ok (.iload 4, 2) := by decide +kernel
theorem d_L_law_538 : decode code 538 = .ok (.iconst 2, 1) := by decide +kernel
theorem d_L_law_539 : decode code 539 = .ok (.iadd, 1) := by decide +kernel
theorem d_L_law_540 : decode code 540 = .ok (.iaload, 1) := by decide +kernel
theorem d_L_law_541 : decode code 541 = .ok (.invokevirtual 51, 3) := by decide +kernel
theorem d_L_law_544 : decode code 544 = .ok (.lstore 6, 2) := by decide +kernel
theorem d_L_law_546 : decode code 546 = .ok (.aload_n 2, 1) := by decide +kernel
theorem d_L_law_547 : decode code 547 = .ok (.invokevirtual 52, 3) := by decide +kernel
theorem d_L_law_550 : decode code 550 = .ok (.iload 5, 2) := by decide +kernel
theorem d_L_law_552 : decode code 552 = .ok (.if_icmp .eq 5, 3) := by decide +kernel
theorem d_L_law_555 : decode code 555 = .ok (.iconst 0, 1) := by decide +kernel
theorem d_L_law_556 : decode code 556 = .ok (.ireturn, 1) := by decide +kernel
theorem d_L_law_557 : decode code 557 = .ok (.iload 5, 2) := by decide +kernel
theorem d_L_law_559 : decode code 559 = .ok (.ifCond .ne 14, 3) := by decide +kernel
theorem d_L_law_562 : decode code 562 = .ok (.aload_n 3, 1) := by decide +kernel
theorem d_L_law_563 : decode code 563 = .ok (.iconst 0, 1) := by decide +kernel
theorem d_L_law_564 : decode code 564 = .ok (.laload, 1) := by decide +kernel
theorem d_L_law_565 : decode code 565 = .ok (.lload 6, 2) := by decide +kernel
theorem d_L_law_567 : decode code 567 = .ok (.lcmp, 1) := by decide +kernel
theorem d_L_law_568 : decode code 568 = .ok (.ifCond .eq 5, 3) := by decide +kernel
theorem d_L_law_571 : decode code 571 = .ok (.iconst 0, 1) := by decide +kernel
theorem d_L_law_572 : decode code 572 = .ok (.ireturn, 1) := by decide +kernel
theorem d_L_law_573 : decode code 573 = .ok (.goto 318, 3) := by decide +kernel
theorem d_L_law_576 : decode code 576 = .ok (.aload_n 1, 1) := by decide +kernel
theorem d_L_law_577 : decode code 577 = .ok (.aload_n 0, 1) := by decide +kernel
theorem d_L_law_578 : decode code 578 = .ok (.iload 4, 2) := by decide +kernel
theorem d_L_law_580 : decode code 580 = .ok (.iconst 1, 1) := by decide +kernel
theorem d_L_law_581 : decode code 581 = .ok (.iadd, 1) := by decide +kernel
theorem d_L_law_582 : decode code 582 = .ok (.iaload, 1) := by decide +kernel
theorem d_L_law_583 : decode code 583 = .ok (.aload_n 0, 1) := by decide +kernel
theorem d_L_law_584 : decode code 584 = .ok (.iload 4, 2) := by decide +kernel
theorem d_L_law_586 : decode code 586 = .ok (.iconst 2, 1) := by decide +kernel
theorem d_L_law_587 : decode code 587 = .ok (.iadd, 1) := by decide +kernel
theorem d_L_law_588 : decode code 588 = .ok (.iaload, 1) := by decide +kernel
theorem d_L_law_589 : decode code 589 = .ok (.i2l, 1) := by decide +kernel
theorem d_L_law_590 : decode code 590 = .ok (.bipush 32, 2) := by decide +kernel
theorem d_L_law_592 : decode code 592 = .ok (.lshl, 1) := by decide +kernel
theorem d_L_law_593 : decode code 593 = .ok (.aload_n 0, 1) := by decide +kernel
theorem d_L_law_594 : decode code 594 = .ok (.iload 4, 2) := by decide +kernel
theorem d_L_law_596 : decode code 596 = .ok (.iconst 3, 1) := by decide +kernel
theorem d_L_law_597 : decode code 597 = .ok (.iadd, 1) := by decide +kernel
theorem d_L_law_598 : decode code 598 = .ok (.iaload, 1) := by decide +kernel
theorem d_L_law_599 : decode code 599 = .ok (.i2l, 1) := by decide +kernel
theorem d_L_law_600 : decode code 600 = .ok (.ldc2_w 19, 3) := by decide +kernel
theorem d_L_law_603 : decode code 603 = .ok (.land, 1) := by decide +kernel
theorem d_L_law_604 : decode code 604 = .ok (.lor, 1) := by decide +kernel
theorem d_L_law_605 : decode code 605 = .ok (.aload_n 0, 1) := by decide +kernel
theorem d_L_law_606 : decode code 606 = .ok (.iload 4, 2) := by decide +kernel
theorem d_L_law_608 : decode code 608 = .ok (.iconst 4, 1) := by decide +kernel
theorem d_L_law_609 : decode code 609 = .ok (.iadd, 1) := by decide +kernel
theorem d_L_law_610 : decode code 610 = .ok (.iaload, 1) := by decide +kernel
theorem d_L_law_611 : decode code 611 = .ok (.i2l, 1) := by decide +kernel
theorem d_L_law_612 : decode code 612 = .ok (.bipush 32, 2) := by decide +kernel
theorem d_L_law_614 : decode code 614 = .ok (.lshl, 1) := by decide +kernel
theorem d_L_law_615 : decode code 615 = .ok (.aload_n 0, 1) := by decide +kernel
theorem d_L_law_616 : decode code 616 = .ok (.iload 4, 2) := by decide +kernel
theorem d_L_law_618 : decode code 618 = .ok (.iconst 5, 1) := by decide +kernel
theorem d_L_law_619 : decode code 619 = .ok (.iadd, 1) := by decide +kernel
theorem d_L_law_620 : decode code 620 = .ok (.iaload, 1) := by decide +kernel
theorem d_L_law_621 : decode code 621 = .ok (.i2l, 1) := by decide +kernel
theorem d_L_law_622 : decode code 622 = .ok (.ldc2_w 19, 3) := by decide +kernel
theorem d_L_law_625 : decode code 625 = .ok (.land, 1) := by decide +kernel
theorem d_L_law_626 : decode code 626 = .ok (.lor, 1) := by decide +kernel
theorem d_L_law_627 : decode code 627 = .ok (.invokevirtual 56, 3) := by decide +kernel
theorem d_L_law_630 : decode code 630 = .ok (.aload_n 2, 1) := by decide +kernel
theorem d_L_law_631 : decode code 631 = .ok (.aload_n 0, 1) := by decide +kernel
theorem d_L_law_632 : decode code 632 = .ok (.iload 4, 2) := by decide +kernel
theorem d_L_law_634 : decode code 634 = .ok (.iconst 1, 1) := by decide +kernel
theorem d_L_law_635 : decode code 635 = .ok (.iadd, 1) := by decide +kernel
theorem d_L_law_636 : decode code 636 = .ok (.iaload, 1) := by decide +kernel
theorem d_L_law_637 : decode code 637 = .ok (.aload_n 0, 1) := by decide +kernel
theorem d_L_law_638 : decode code 638 = .ok (.iload 4, 2) := by decide +kernel
theorem d_L_law_640 : decode code 640 = .ok (.iconst 2, 1) := by decide +kernel
theorem d_L_law_641 : decode code 641 = .ok (.iadd, 1) := by decide +kernel
theorem d_L_law_642 : decode code 642 = .ok (.iaload, 1) := by decide +kernel
theorem d_L_law_643 : decode code 643 = .ok (.i2l, 1) := by decide +kernel
theorem d_L_law_644 : decode code 644 = .ok (.bipush 32, 2) := by decide +kernel
theorem d_L_law_646 : decode code 646 = .ok (.lshl, 1) := by decide +kernel
theorem d_L_law_647 : decode code 647 = .ok (.aload_n 0, 1) := by decide +kernel
theorem d_L_law_648 : decode code 648 = .ok (.iload 4, 2) := by decide +kernel
theorem d_L_law_650 : decode code 650 = .ok (.iconst 3, 1) := by decide +kernel
theorem d_L_law_651 : decode code 651 = .ok (.iadd, 1) := by decide +kernel
theorem d_L_law_652 : decode code 652 = .ok (.iaload, 1) := by decide +kernel
theorem d_L_law_653 : decode code 653 = .ok (.i2l, 1) := by decide +kernel
theorem d_L_law_654 : decode code 654 = .ok (.ldc2_w 19, 3) := by decide +kernel
theorem d_L_law_657 : decode code 657 = .ok (.land, 1) := by decide +kernel
theorem d_L_law_658 : decode code 658 = .ok (.lor, 1) := by decide +kernel
theorem d_L_law_659 : decode code 659 = .ok (.aload_n 0, 1) := by decide +kernel
theorem d_L_law_660 : decode code 660 = .ok (.iload 4, 2) := by decide +kernel
theorem d_L_law_662 : decode code 662 = .ok (.iconst 4, 1) := by decide +kernel
theorem d_L_law_663 : decode code 663 = .ok (.iadd, 1) := by decide +kernel
theorem d_L_law_664 : decode code 664 = .ok (.iaload, 1) := by decide +kernel
theorem d_L_law_665 : decode code 665 = .ok (.i2l, 1) := by decide +kernel
theorem d_L_law_666 : decode code 666 = .ok (.bipush 32, 2) := by decide +kernel
theorem d_L_law_668 : decode code 668 = .ok (.lshl, 1) := by decide +kernel
theorem d_L_law_669 : decode code 669 = .ok (.aload_n 0, 1) := by decide +kernel
theorem d_L_law_670 : decode code 670 = .ok (.iload 4, 2) := by decide +kernel
theorem d_L_law_672 : decode code 672 = .ok (.iconst 5, 1) := by decide +kernel
theorem d_L_law_673 : decode code 673 = .ok (.iadd, 1) := by decide +kernel
theorem d_L_law_674 : decode code 674 = .ok (.iaload, 1) := by decide +kernel
theorem d_L_law_675 : decode code 675 = .ok (.i2l, 1) := by decide +kernel
theorem d_L_law_676 : decode code 676 = .ok (.ldc2_w 19, 3) := by decide +kernel
theorem d_L_law_679 : decode code 679 = .ok (.land, 1) := by decide +kernel
theorem d_L_law_680 : decode code 680 = .ok (.lor, 1) := by decide +kernel
theorem d_L_law_681 : decode code 681 = .ok (.invokevirtual 60, 3) := by decide +kernel
theorem d_L_law_684 : decode code 684 = .ok (.if_icmp .eq 207, 3) := by decide +kernel
theorem d_L_law_687 : decode code 687 = .ok (.iconst 0, 1) := by decide +kernel
theorem d_L_law_688 : decode code 688 = .ok (.ireturn, 1) := by decide +kernel
theorem d_L_law_689 : decode code 689 = .ok (.aload_n 1, 1) := by decide +kernel
theorem d_L_law_690 : decode code 690 = .ok (.aload_n 0, 1) := by decide +kernel
theorem d_L_law_691 : decode code 691 = .ok (.iload 4, 2) := by decide +kernel
theorem d_L_law_693 : decode code 693 = .ok (.iconst 1, 1) := by decide +kernel
theorem d_L_law_694 : decode code 694 = .ok (.iadd, 1) := by decide +kernel
theorem d_L_law_695 : decode code 695 = .ok (.iaload, 1) := by decide +kernel
theorem d_L_law_696 : decode code 696 = .ok (.invokevirtual 61, 3) := by decide +kernel
theorem d_L_law_699 : decode code 699 = .ok (.aload_n 2, 1) := by decide +kernel
theorem d_L_law_700 : decode code 700 = .ok (.aload_n 0, 1) := by decide +kernel
theorem d_L_law_701 : decode code 701 = .ok (.iload 4, 2) := by decide +kernel
theorem d_L_law_703 : decode code 703 = .ok (.iconst 1, 1) := by decide +kernel
theorem d_L_law_704 : decode code 704 = .ok (.iadd, 1) := by decide +kernel
theorem d_L_law_705 : decode code 705 = .ok (.iaload, 1) := by decide +kernel
theorem d_L_law_706 : decode code 706 = .ok (.invokevirtual 65, 3) := by decide +kernel
theorem d_L_law_709 : decode code 709 = .ok (.if_icmp .eq 182, 3) := by decide +kernel
theorem d_L_law_712 : decode code 712 = .ok (.iconst 0, 1) := by decide +kernel
theorem d_L_law_713 : decode code 713 = .ok (.ireturn, 1) := by decide +kernel
theorem d_L_law_714 : decode code 714 = .ok (.aload_n 1, 1) := by decide +kernel
theorem d_L_law_715 : decode code 715 = .ok (.aload_n 0, 1) := by decide +kernel
theorem d_L_law_716 : decode code 716 = .ok (.iload 4, 2) := by decide +kernel
theorem d_L_law_718 : decode code 718 = .ok (.iconst 1, 1) := by decide +kernel
theorem d_L_law_719 : decode code 719 = .ok (.iadd, 1) := by decide +kernel
theorem d_L_law_720 : decode code 720 = .ok (.iaload, 1) := by decide +kernel
theorem d_L_law_721 : decode code 721 = .ok (.invokevirtual 66, 3) := by decide +kernel
theorem d_L_law_724 : decode code 724 = .ok (.aload_n 2, 1) := by decide +kernel
theorem d_L_law_725 : decode code 725 = .ok (.aload_n 0, 1) := by decide +kernel
theorem d_L_law_726 : decode code 726 = .ok (.iload 4, 2) := by decide +kernel
theorem d_L_law_728 : decode code 728 = .ok (.iconst 1, 1) := by decide +kernel
theorem d_L_law_729 : decode code 729 = .ok (.iadd, 1) := by decide +kernel
theorem d_L_law_730 : decode code 730 = .ok (.iaload, 1) := by decide +kernel
theorem d_L_law_731 : decode code 731 = .ok (.invokevirtual 69, 3) := by decide +kernel
theorem d_L_law_734 : decode code 734 = .ok (.if_icmp .eq 157, 3) := by decide +kernel
theorem d_L_law_737 : decode code 737 = .ok (.iconst 0, 1) := by decide +kernel
theorem d_L_law_738 : decode code 738 = .ok (.ireturn, 1) := by decide +kernel
theorem d_L_law_739 : decode code 739 = .ok (.aload_n 1, 1) := by decide +kernel
theorem d_L_law_740 : decode code 740 = .ok (.aload_n 0, 1) := by decide +kernel
theorem d_L_law_741 : decode code 741 = .ok (.iload 4, 2) := by decide +kernel
theorem d_L_law_743 : decode code 743 = .ok (.iconst 1, 1) := by decide +kernel
theorem d_L_law_744 : decode code 744 = .ok (.iadd, 1) := by decide +kernel
theorem d_L_law_745 : decode code 745 = .ok (.iaload, 1) := by decide +kernel
theorem d_L_law_746 : decode code 746 = .ok (.aload_n 0, 1) := by decide +kernel
theorem d_L_law_747 : decode code 747 = .ok (.iload 4, 2) := by decide +kernel
theorem d_L_law_749 : decode code 749 = .ok (.iconst 2, 1) := by decide +kernel
theorem d_L_law_750 : decode code 750 = .ok (.iadd, 1) := by decide +kernel
theorem d_L_law_751 : decode code 751 = .ok (.iaload, 1) := by decide +kernel
theorem d_L_law_752 : decode code 752 = .ok (.ifCond .eq 7, 3) := by decide +kernel
theorem d_L_law_755 : decode code 755 = .ok (.iconst 1, 1) := by decide +kernel
theorem d_L_law_756 : decode code 756 = .ok (.goto 4, 3) := by decide +kernel
theorem d_L_law_759 : decode code 759 = .ok (.iconst 0, 1) := by decide +kernel
theorem d_L_law_760 : decode code 760 = .ok (.invokevirtual 70, 3) := by decide +kernel
theorem d_L_law_763 : decode code 763 = .ok (.aload_n 2, 1) := by decide +kernel
theorem d_L_law_764 : decode code 764 = .ok (.aload_n 0, 1) := by decide +kernel
theorem d_L_law_765 : decode code 765 = .ok (.iload 4, 2) := by decide +kernel
theorem d_L_law_767 : decode code 767 = .ok (.iconst 1, 1) := by decide +kernel
theorem d_L_law_768 : decode code 768 = .ok (.iadd, 1) := by decide +kernel
theorem d_L_law_769 : decode code 769 = .ok (.iaload, 1) := by decide +kernel
theorem d_L_law_770 : decode code 770 = .ok (.aload_n 0, 1) := by decide +kernel
theorem d_L_law_771 : decode code 771 = .ok (.iload 4, 2) := by decide +kernel
theorem d_L_law_773 : decode code 773 = .ok (.iconst 2, 1) := by decide +kernel
theorem d_L_law_774 : decode code 774 = .ok (.iadd, 1) := by decide +kernel
theorem d_L_law_775 : decode code 775 = .ok (.iaload, 1) := by decide +kernel
theorem d_L_law_776 : decode code 776 = .ok (.ifCond .eq 7, 3) := by decide +kernel
theorem d_L_law_779 : decode code 779 = .ok (.iconst 1, 1) := by decide +kernel
theorem d_L_law_780 : decode code 780 = .ok (.goto 4, 3) := by decide +kernel
theorem d_L_law_783 : decode code 783 = .ok (.iconst 0, 1) := by decide +kernel
theorem d_L_law_784 : decode code 784 = .ok (.invokevirtual 74, 3) := by decide +kernel
theorem d_L_law_787 : decode code 787 = .ok (.if_icmp .eq 104, 3) := by decide +kernel
theorem d_L_law_790 : decode code 790 = .ok (.iconst 0, 1) := by decide +kernel
theorem d_L_law_791 : decode code 791 = .ok (.ireturn, 1) := by decide +kernel
theorem d_L_law_792 : decode code 792 = .ok (.aload_n 1, 1) := by decide +kernel
theorem d_L_law_793 : decode code 793 = .ok (.aload_n 0, 1) := by decide +kernel
theorem d_L_law_794 : decode code 794 = .ok (.iload 4, 2) := by decide +kernel
theorem d_L_law_796 : decode code 796 = .ok (.iconst 1, 1) := by decide +kernel
theorem d_L_law_797 : decode code 797 = .ok (.iadd, 1) := by decide +kernel
theorem d_L_law_798 : decode code 798 = .ok (.iaload, 1) := by decide +kernel
theorem d_L_law_799 : decode code 799 = .ok (.invokevirtual 75, 3) := by decide +kernel
theorem d_L_law_802 : decode code 802 = .ok (.aload_n 2, 1) := by decide +kernel
theorem d_L_law_803 : decode code 803 = .ok (.aload_n 0, 1) := by decide +kernel
theorem d_L_law_804 : decode code 804 = .ok (.iload 4, 2) := by decide +kernel
theorem d_L_law_806 : decode code 806 = .ok (.iconst 1, 1) := by decide +kernel
theorem d_L_law_807 : decode code 807 = .ok (.iadd, 1) := by decide +kernel
theorem d_L_law_808 : decode code 808 = .ok (.iaload, 1) := by decide +kernel
theorem d_L_law_809 : decode code 809 = .ok (.invokevirtual 78, 3) := by decide +kernel
theorem d_L_law_812 : decode code 812 = .ok (.if_icmp .eq 79, 3) := by decide +kernel
theorem d_L_law_815 : decode code 815 = .ok (.iconst 0, 1) := by decide +kernel
theorem d_L_law_816 : decode code 816 = .ok (.ireturn, 1) := by decide +kernel
theorem d_L_law_817 : decode code 817 = .ok (.aload_n 1, 1) := by decide +kernel
theorem d_L_law_818 : decode code 818 = .ok (.aload_n 0, 1) := by decide +kernel
theorem d_L_law_819 : decode code 819 = .ok (.iload 4, 2) := by decide +kernel
theorem d_L_law_821 : decode code 821 = .ok (.iconst 1, 1) := by decide +kernel
theorem d_L_law_822 : decode code 822 = .ok (.iadd, 1) := by decide +kernel
theorem d_L_law_823 : decode code 823 = .ok (.iaload, 1) := by decide +kernel
theorem d_L_law_824 : decode code 824 = .ok (.aload_n 0, 1) := by decide +kernel
theorem d_L_law_825 : decode code 825 = .ok (.iload 4, 2) := by decide +kernel
theorem d_L_law_827 : decode code 827 = .ok (.iconst 2, 1) := by decide +kernel
theorem d_L_law_828 : decode code 828 = .ok (.iadd, 1) := by decide +kernel
theorem d_L_law_829 : decode code 829 = .ok (.iaload, 1) := by decide +kernel
theorem d_L_law_830 : decode code 830 = .ok (.invokevirtual 79, 3) := by decide +kernel
theorem d_L_law_833 : decode code 833 = .ok (.aload_n 2, 1) := by decide +kernel
theorem d_L_law_834 : decode code 834 = .ok (.aload_n 0, 1) := by decide +kernel
theorem d_L_law_835 : decode code 835 = .ok (.iload 4, 2) := by decide +kernel
theorem d_L_law_837 : decode code 837 = .ok (.iconst 1, 1) := by decide +kernel
theorem d_L_law_838 : decode code 838 = .ok (.iadd, 1) := by decide +kernel
theorem d_L_law_839 : decode code 839 = .ok (.iaload, 1) := by decide +kernel
theorem d_L_law_840 : decode code 840 = .ok (.aload_n 0, 1) := by decide +kernel
theorem d_L_law_841 : decode code 841 = .ok (.iload 4, 2) := by decide +kernel
theorem d_L_law_843 : decode code 843 = .ok (.iconst 2, 1) := by decide +kernel
theorem d_L_law_844 : decode code 844 = .ok (.iadd, 1) := by decide +kernel
theorem d_L_law_845 : decode code 845 = .ok (.iaload, 1) := by decide +kernel
theorem d_L_law_846 : decode code 846 = .ok (.invokevirtual 82, 3) := by decide +kernel
theorem d_L_law_849 : decode code 849 = .ok (.if_icmp .eq 42, 3) := by decide +kernel
theorem d_L_law_852 : decode code 852 = .ok (.iconst 0, 1) := by decide +kernel
theorem d_L_law_853 : decode code 853 = .ok (.ireturn, 1) := by decide +kernel
theorem d_L_law_854 : decode code 854 = .ok (.aload_n 1, 1) := by decide +kernel
theorem d_L_law_855 : decode code 855 = .ok (.aload_n 0, 1) := by decide +kernel
theorem d_L_law_856 : decode code 856 = .ok (.iload 4, 2) := by decide +kernel
theorem d_L_law_858 : decode code 858 = .ok (.iconst 1, 1) := by decide +kernel
theorem d_L_law_859 : decode code 859 = .ok (.iadd, 1) := by decide +kernel
theorem d_L_law_860 : decode code 860 = .ok (.iaload, 1) := by decide +kernel
theorem d_L_law_861 : decode code 861 = .ok (.aload_n 0, 1) := by decide +kernel
theorem d_L_law_862 : decode code 862 = .ok (.iload 4, 2) := by decide +kernel
theorem d_L_law_864 : decode code 864 = .ok (.iconst 2, 1) := by decide +kernel
theorem d_L_law_865 : decode code 865 = .ok (.iadd, 1) := by decide +kernel
theorem d_L_law_866 : decode code 866 = .ok (.iaload, 1) := by decide +kernel
theorem d_L_law_867 : decode code 867 = .ok (.invokevirtual 83, 3) := by decide +kernel
theorem d_L_law_870 : decode code 870 = .ok (.aload_n 2, 1) := by decide +kernel
theorem d_L_law_871 : decode code 871 = .ok (.aload_n 0, 1) := by decide +kernel
theorem d_L_law_872 : decode code 872 = .ok (.iload 4, 2) := by decide +kernel
theorem d_L_law_874 : decode code 874 = .ok (.iconst 1, 1) := by decide +kernel
theorem d_L_law_875 : decode code 875 = .ok (.iadd, 1) := by decide +kernel
theorem d_L_law_876 : decode code 876 = .ok (.iaload, 1) := by decide +kernel
theorem d_L_law_877 : decode code 877 = .ok (.aload_n 0, 1) := by decide +kernel
theorem d_L_law_878 : decode code 878 = .ok (.iload 4, 2) := by decide +kernel
theorem d_L_law_880 : decode code 880 = .ok (.iconst 2, 1) := by decide +kernel
theorem d_L_law_881 : decode code 881 = .ok (.iadd, 1) := by decide +kernel
theorem d_L_law_882 : decode code 882 = .ok (.iaload, 1) := by decide +kernel
theorem d_L_law_883 : decode code 883 = .ok (.invokevirtual 86, 3) := by decide +kernel
theorem d_L_law_886 : decode code 886 = .ok (.if_icmp .eq 5, 3) := by decide +kernel
theorem d_L_law_889 : decode code 889 = .ok (.iconst 0, 1) := by decide +kernel
theorem d_L_law_890 : decode code 890 = .ok (.ireturn, 1) := by decide +kernel
theorem d_L_law_891 : decode code 891 = .ok (.iinc 4 8, 3) := by decide +kernel
theorem d_L_law_894 : decode code 894 = .ok (.goto (-871), 3) := by decide +kernel
theorem d_L_law_897 : decode code 897 = .ok (.iconst 1, 1) := by decide +kernel
theorem d_L_law_898 : decode code 898 = .ok (.ireturn, 1) := by decide +kernel

