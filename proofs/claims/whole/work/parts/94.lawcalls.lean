theorem dL_law_0 : decode cL_law 0 = .ok (.new 7, 3) := by decide +kernel
theorem dL_law_3 : decode cL_law 3 = .ok (.dup, 1) := by decide +kernel
theorem dL_law_4 : decode cL_law 4 = .ok (.invokespecial 9, 3) := by decide +kernel
theorem dL_law_7 : decode cL_law 7 = .ok (.astore_n 1, 1) := by decide +kernel
theorem dL_law_8 : decode cL_law 8 = .ok (.new 10, 3) := by decide +kernel
theorem dL_law_11 : decode cL_law 11 = .ok (.dup, 1) := by decide +kernel
theorem dL_law_12 : decode cL_law 12 = .ok (.invokespecial 12, 3) := by decide +kernel
theorem dL_law_15 : decode cL_law 15 = .ok (.astore_n 2, 1) := by decide +kernel
theorem dL_law_16 : decode cL_law 16 = .ok (.iconst 0, 1) := by decide +kernel
theorem dL_law_17 : decode cL_law 17 = .ok (.istore_n 3, 1) := by decide +kernel
theorem dL_law_18 : decode cL_law 18 = .ok (.iload_n 3, 1) := by decide +kernel
theorem dL_law_19 : decode cL_law 19 = .ok (.aload_n 0, 1) := by decide +kernel
theorem dL_law_20 : decode cL_law 20 = .ok (.arraylength, 1) := by decide +kernel
theorem dL_law_21 : decode cL_law 21 = .ok (.bipush 6, 2) := by decide +kernel
theorem dL_law_23 : decode cL_law 23 = .ok (.isub, 1) := by decide +kernel
theorem dL_law_24 : decode cL_law 24 = .ok (.if_icmp .gt 756, 3) := by decide +kernel
theorem dL_law_27 : decode cL_law 27 = .ok (.aload_n 0, 1) := by decide +kernel
theorem dL_law_28 : decode cL_law 28 = .ok (.iload_n 3, 1) := by decide +kernel
theorem dL_law_29 : decode cL_law 29 = .ok (.iaload, 1) := by decide +kernel
theorem dL_law_30 : decode cL_law 30 = .ok (.bipush 31, 2) := by decide +kernel
theorem dL_law_32 : decode cL_law 32 = .ok (.iand, 1) := by decide +kernel
theorem dL_law_33 : decode cL_law 33 = .ok (.tableswitch 741 0 17 #[87, 190, 213, 237, 261, 355, 418, 441, 464, 487, 500, 533, 566, 579, 602, 635, 685, 718], 87) := by decide +kernel
theorem dL_law_120 : decode cL_law 120 = .ok (.aload_n 1, 1) := by decide +kernel
theorem dL_law_121 : decode cL_law 121 = .ok (.aload_n 0, 1) := by decide +kernel
theorem dL_law_122 : decode cL_law 122 = .ok (.iload_n 3, 1) := by decide +kernel
theorem dL_law_123 : decode cL_law 123 = .ok (.iconst 1, 1) := by decide +kernel
theorem dL_law_124 : decode cL_law 124 = .ok (.iadd, 1) := by decide +kernel
theorem dL_law_125 : decode cL_law 125 = .ok (.iaload, 1) := by decide +kernel
theorem dL_law_126 : decode cL_law 126 = .ok (.i2l, 1) := by decide +kernel
theorem dL_law_127 : decode cL_law 127 = .ok (.bipush 32, 2) := by decide +kernel
theorem dL_law_129 : decode cL_law 129 = .ok (.lshl, 1) := by decide +kernel
theorem dL_law_130 : decode cL_law 130 = .ok (.aload_n 0, 1) := by decide +kernel
theorem dL_law_131 : decode cL_law 131 = .ok (.iload_n 3, 1) := by decide +kernel
theorem dL_law_132 : decode cL_law 132 = .ok (.iconst 2, 1) := by decide +kernel
theorem dL_law_133 : decode cL_law 133 = .ok (.iadd, 1) := by decide +kernel
theorem dL_law_134 : decode cL_law 134 = .ok (.iaload, 1) := by decide +kernel
theorem dL_law_135 : decode cL_law 135 = .ok (.i2l, 1) := by decide +kernel
theorem dL_law_136 : decode cL_law 136 = .ok (.ldc2_w 13, 3) := by decide +kernel
theorem dL_law_139 : decode cL_law 139 = .ok (.land, 1) := by decide +kernel
theorem dL_law_140 : decode cL_law 140 = .ok (.lor, 1) := by decide +kernel
theorem dL_law_141 : decode cL_law 141 = .ok (.aload_n 0, 1) := by decide +kernel
theorem dL_law_142 : decode cL_law 142 = .ok (.iload_n 3, 1) := by decide +kernel
theorem dL_law_143 : decode cL_law 143 = .ok (.iconst 3, 1) := by decide +kernel
theorem dL_law_144 : decode cL_law 144 = .ok (.iadd, 1) := by decide +kernel
theorem dL_law_145 : decode cL_law 145 = .ok (.iaload, 1) := by decide +kernel
theorem dL_law_146 : decode cL_law 146 = .ok (.i2l, 1) := by decide +kernel
theorem dL_law_147 : decode cL_law 147 = .ok (.bipush 32, 2) := by decide +kernel
theorem dL_law_149 : decode cL_law 149 = .ok (.lshl, 1) := by decide +kernel
theorem dL_law_150 : decode cL_law 150 = .ok (.aload_n 0, 1) := by decide +kernel
theorem dL_law_151 : decode cL_law 151 = .ok (.iload_n 3, 1) := by decide +kernel
theorem dL_law_152 : decode cL_law 152 = .ok (.iconst 4, 1) := by decide +kernel
theorem dL_law_153 : decode cL_law 153 = .ok (.iadd, 1) := by decide +kernel
theorem dL_law_154 : decode cL_law 154 = .ok (.iaload, 1) := by decide +kernel
theorem dL_law_155 : decode cL_law 155 = .ok (.i2l, 1) := by decide +kernel
theorem dL_law_156 : decode cL_law 156 = .ok (.ldc2_w 13, 3) := by decide +kernel
theorem dL_law_159 : decode cL_law 159 = .ok (.land, 1) := by decide +kernel
theorem dL_law_160 : decode cL_law 160 = .ok (.lor, 1) := by decide +kernel
theorem dL_law_161 : decode cL_law 161 = .ok (.aload_n 0, 1) := by decide +kernel
theorem dL_law_162 : decode cL_law 162 = .ok (.iload_n 3, 1) := by decide +kernel
theorem dL_law_163 : decode cL_law 163 = .ok (.iconst 5, 1) := by decide +kernel
theorem dL_law_164 : decode cL_law 164 = .ok (.iadd, 1) := by decide +kernel
theorem dL_law_165 : decode cL_law 165 = .ok (.iaload, 1) := by decide +kernel
theorem dL_law_166 : decode cL_law 166 = .ok (.invokevirtual 15, 3) := by decide +kernel
theorem dL_law_169 : decode cL_law 169 = .ok (.aload_n 2, 1) := by decide +kernel
theorem dL_law_170 : decode cL_law 170 = .ok (.aload_n 0, 1) := by decide +kernel
theorem dL_law_171 : decode cL_law 171 = .ok (.iload_n 3, 1) := by decide +kernel
theorem dL_law_172 : decode cL_law 172 = .ok (.iconst 1, 1) := by decide +kernel
theorem dL_law_173 : decode cL_law 173 = .ok (.iadd, 1) := by decide +kernel
theorem dL_law_174 : decode cL_law 174 = .ok (.iaload, 1) := by decide +kernel
theorem dL_law_175 : decode cL_law 175 = .ok (.i2l, 1) := by decide +kernel
theorem dL_law_176 : decode cL_law 176 = .ok (.bipush 32, 2) := by decide +kernel
theorem dL_law_178 : decode cL_law 178 = .ok (.lshl, 1) := by decide +kernel
theorem dL_law_179 : decode cL_law 179 = .ok (.aload_n 0, 1) := by decide +kernel
theorem dL_law_180 : decode cL_law 180 = .ok (.iload_n 3, 1) := by decide +kernel
theorem dL_law_181 : decode cL_law 181 = .ok (.iconst 2, 1) := by decide +kernel
theorem dL_law_182 : decode cL_law 182 = .ok (.iadd, 1) := by decide +kernel
theorem dL_law_183 : decode cL_law 183 = .ok (.iaload, 1) := by decide +kernel
theorem dL_law_184 : decode cL_law 184 = .ok (.i2l, 1) := by decide +kernel
theorem dL_law_185 : decode cL_law 185 = .ok (.ldc2_w 13, 3) := by decide +kernel
theorem dL_law_188 : decode cL_law 188 = .ok (.land, 1) := by decide +kernel
theorem dL_law_189 : decode cL_law 189 = .ok (.lor, 1) := by decide +kernel
theorem dL_law_190 : decode cL_law 190 = .ok (.aload_n 0, 1) := by decide +kernel
theorem dL_law_191 : decode cL_law 191 = .ok (.iload_n 3, 1) := by decide +kernel
theorem dL_law_192 : decode cL_law 192 = .ok (.iconst 3, 1) := by decide +kernel
theorem dL_law_193 : decode cL_law 193 = .ok (.iadd, 1) := by decide +kernel
theorem dL_law_194 : decode cL_law 194 = .ok (.iaload, 1) := by decide +kernel
theorem dL_law_195 : decode cL_law 195 = .ok (.i2l, 1) := by decide +kernel
theorem dL_law_196 : decode cL_law 196 = .ok (.bipush 32, 2) := by decide +kernel
theorem dL_law_198 : decode cL_law 198 = .ok (.lshl, 1) := by decide +kernel
theorem dL_law_199 : decode cL_law 199 = .ok (.aload_n 0, 1) := by decide +kernel
theorem dL_law_200 : decode cL_law 200 = .ok (.iload_n 3, 1) := by decide +kernel
theorem dL_law_201 : decode cL_law 201 = .ok (.iconst 4, 1) := by decide +kernel
theorem dL_law_202 : decode cL_law 202 = .ok (.iadd, 1) := by decide +kernel
theorem dL_law_203 : decode cL_law 203 = .ok (.iaload, 1) := by decide +kernel
theorem dL_law_204 : decode cL_law 204 = .ok (.i2l, 1) := by decide +kernel
theorem dL_law_205 : decode cL_law 205 = .ok (.ldc2_w 13, 3) := by decide +kernel
theorem dL_law_208 : decode cL_law 208 = .ok (.land, 1) := by decide +kernel
theorem dL_law_209 : decode cL_law 209 = .ok (.lor, 1) := by decide +kernel
theorem dL_law_210 : decode cL_law 210 = .ok (.aload_n 0, 1) := by decide +kernel
theorem dL_law_211 : decode cL_law 211 = .ok (.iload_n 3, 1) := by decide +kernel
theorem dL_law_212 : decode cL_law 212 = .ok (.iconst 5, 1) := by decide +kernel
theorem dL_law_213 : decode cL_law 213 = .ok (.iadd, 1) := by decide +kernel
theorem dL_law_214 : decode cL_law 214 = .ok (.iaload, 1) := by decide +kernel
theorem dL_law_215 : decode cL_law 215 = .ok (.invokevirtual 19, 3) := by decide +kernel
theorem dL_law_218 : decode cL_law 218 = .ok (.if_icmp .eq 556, 3) := by decide +kernel
theorem dL_law_221 : decode cL_law 221 = .ok (.iconst 0, 1) := by decide +kernel
theorem dL_law_222 : decode cL_law 222 = .ok (.ireturn, 1) := by decide +kernel
theorem dL_law_223 : decode cL_law 223 = .ok (.aload_n 1, 1) := by decide +kernel
theorem dL_law_224 : decode cL_law 224 = .ok (.aload_n 0, 1) := by decide +kernel
theorem dL_law_225 : decode cL_law 225 = .ok (.iload_n 3, 1) := by decide +kernel
theorem dL_law_226 : decode cL_law 226 = .ok (.iconst 1, 1) := by decide +kernel
theorem dL_law_227 : decode cL_law 227 = .ok (.iadd, 1) := by decide +kernel
theorem dL_law_228 : decode cL_law 228 = .ok (.iaload, 1) := by decide +kernel
theorem dL_law_229 : decode cL_law 229 = .ok (.invokevirtual 20, 3) := by decide +kernel
theorem dL_law_232 : decode cL_law 232 = .ok (.aload_n 2, 1) := by decide +kernel
theorem dL_law_233 : decode cL_law 233 = .ok (.aload_n 0, 1) := by decide +kernel
theorem dL_law_234 : decode cL_law 234 = .ok (.iload_n 3, 1) := by decide +kernel
theorem dL_law_235 : decode cL_law 235 = .ok (.iconst 1, 1) := by decide +kernel
theorem dL_law_236 : decode cL_law 236 = .ok (.iadd, 1) := by decide +kernel
theorem dL_law_237 : decode cL_law 237 = .ok (.iaload, 1) := by decide +kernel
theorem dL_law_238 : decode cL_law 238 = .ok (.invokevirtual 24, 3) := by decide +kernel
theorem dL_law_241 : decode cL_law 241 = .ok (.if_icmp .eq 533, 3) := by decide +kernel
theorem dL_law_244 : decode cL_law 244 = .ok (.iconst 0, 1) := by decide +kernel
theorem dL_law_245 : decode cL_law 245 = .ok (.ireturn, 1) := by decide +kernel
theorem dL_law_246 : decode cL_law 246 = .ok (.aload_n 1, 1) := by decide +kernel
theorem dL_law_247 : decode cL_law 247 = .ok (.aload_n 0, 1) := by decide +kernel
theorem dL_law_248 : decode cL_law 248 = .ok (.iload_n 3, 1) := by decide +kernel
theorem dL_law_249 : decode cL_law 249 = .ok (.iconst 1, 1) := by decide +kernel
theorem dL_law_250 : decode cL_law 250 = .ok (.iadd, 1) := by decide +kernel
theorem dL_law_251 : decode cL_law 251 = .ok (.iaload, 1) := by decide +kernel
theorem dL_law_252 : decode cL_law 252 = .ok (.invokevirtual 25, 3) := by decide +kernel
theorem dL_law_255 : decode cL_law 255 = .ok (.aload_n 2, 1) := by decide +kernel
theorem dL_law_256 : decode cL_law 256 = .ok (.aload_n 0, 1) := by decide +kernel
theorem dL_law_257 : decode cL_law 257 = .ok (.iload_n 3, 1) := by decide +kernel
theorem dL_law_258 : decode cL_law 258 = .ok (.iconst 1, 1) := by decide +kernel
theorem dL_law_259 : decode cL_law 259 = .ok (.iadd, 1) := by decide +kernel
theorem dL_law_260 : decode cL_law 260 = .ok (.iaload, 1) := by decide +kernel
theorem dL_law_261 : decode cL_law 261 = .ok (.invokevirtual 29, 3) := by decide +kernel
theorem dL_law_264 : decode cL_law 264 = .ok (.lcmp, 1) := by decide +kernel
theorem dL_law_265 : decode cL_law 265 = .ok (.ifCond .eq 509, 3) := by decide +kernel
theorem dL_law_268 : decode cL_law 268 = .ok (.iconst 0, 1) := by decide +kernel
theorem dL_law_269 : decode cL_law 269 = .ok (.ireturn, 1) := by decide +kernel
theorem dL_law_270 : decode cL_law 270 = .ok (.aload_n 1, 1) := by decide +kernel
theorem dL_law_271 : decode cL_law 271 = .ok (.aload_n 0, 1) := by decide +kernel
theorem dL_law_272 : decode cL_law 272 = .ok (.iload_n 3, 1) := by decide +kernel
theorem dL_law_273 : decode cL_law 273 = .ok (.iconst 1, 1) := by decide +kernel
theorem dL_law_274 : decode cL_law 274 = .ok (.iadd, 1) := by decide +kernel
theorem dL_law_275 : decode cL_law 275 = .ok (.iaload, 1) := by decide +kernel
theorem dL_law_276 : decode cL_law 276 = .ok (.invokevirtual 30, 3) := by decide +kernel
theorem dL_law_279 : decode cL_law 279 = .ok (.aload_n 2, 1) := by decide +kernel
theorem dL_law_280 : decode cL_law 280 = .ok (.aload_n 0, 1) := by decide +kernel
theorem dL_law_281 : decode cL_law 281 = .ok (.iload_n 3, 1) := by decide +kernel
theorem dL_law_282 : decode cL_law 282 = .ok (.iconst 1, 1) := by decide +kernel
theorem dL_law_283 : decode cL_law 283 = .ok (.iadd, 1) := by decide +kernel
theorem dL_law_284 : decode cL_law 284 = .ok (.iaload, 1) := by decide +kernel
theorem dL_law_285 : decode cL_law 285 = .ok (.invokevirtual 33, 3) := by decide +kernel
theorem dL_law_288 : decode cL_law 288 = .ok (.lcmp, 1) := by decide +kernel
theorem dL_law_289 : decode cL_law 289 = .ok (.ifCond .eq 485, 3) := by decide +kernel
theorem dL_law_292 : decode cL_law 292 = .ok (.iconst 0, 1) := by decide +kernel
theorem dL_law_293 : decode cL_law 293 = .ok (.ireturn, 1) := by decide +kernel
theorem dL_law_294 : decode cL_law 294 = .ok (.aload_n 1, 1) := by decide +kernel
theorem dL_law_295 : decode cL_law 295 = .ok (.aload_n 0, 1) := by decide +kernel
theorem dL_law_296 : decode cL_law 296 = .ok (.iload_n 3, 1) := by decide +kernel
theorem dL_law_297 : decode cL_law 297 = .ok (.iconst 1, 1) := by decide +kernel
theorem dL_law_298 : decode cL_law 298 = .ok (.iadd, 1) := by decide +kernel
theorem dL_law_299 : decode cL_law 299 = .ok (.iaload, 1) := by decide +kernel
theorem dL_law_300 : decode cL_law 300 = .ok (.i2l, 1) := by decide +kernel
theorem dL_law_301 : decode cL_law 301 = .ok (.bipush 32, 2) := by decide +kernel
theorem dL_law_303 : decode cL_law 303 = .ok (.lshl, 1) := by decide +kernel
theorem dL_law_304 : decode cL_law 304 = .ok (.aload_n 0, 1) := by decide +kernel
theorem dL_law_305 : decode cL_law 305 = .ok (.iload_n 3, 1) := by decide +kernel
theorem dL_law_306 : decode cL_law 306 = .ok (.iconst 2, 1) := by decide +kernel
theorem dL_law_307 : decode cL_law 307 = .ok (.iadd, 1) := by decide +kernel
theorem dL_law_308 : decode cL_law 308 = .ok (.iaload, 1) := by decide +kernel
theorem dL_law_309 : decode cL_law 309 = .ok (.i2l, 1) := by decide +kernel
theorem dL_law_310 : decode cL_law 310 = .ok (.ldc2_w 13, 3) := by decide +kernel
theorem dL_law_313 : decode cL_law 313 = .ok (.land, 1) := by decide +kernel
theorem dL_law_314 : decode cL_law 314 = .ok (.lor, 1) := by decide +kernel
theorem dL_law_315 : decode cL_law 315 = .ok (.aload_n 0, 1) := by decide +kernel
theorem dL_law_316 : decode cL_law 316 = .ok (.iload_n 3, 1) := by decide +kernel
theorem dL_law_317 : decode cL_law 317 = .ok (.iconst 3, 1) := by decide +kernel
theorem dL_law_318 : decode cL_law 318 = .ok (.iadd, 1) := by decide +kernel
theorem dL_law_319 : decode cL_law 319 = .ok (.iaload, 1) := by decide +kernel
theorem dL_law_320 : decode cL_law 320 = .ok (.i2l, 1) := by decide +kernel
theorem dL_law_321 : decode cL_law 321 = .ok (.bipush 32, 2) := by decide +kernel
theorem dL_law_323 : decode cL_law 323 = .ok (.lshl, 1) := by decide +kernel
theorem dL_law_324 : decode cL_law 324 = .ok (.aload_n 0, 1) := by decide +kernel
theorem dL_law_325 : decode cL_law 325 = .ok (.iload_n 3, 1) := by decide +kernel
theorem dL_law_326 : decode cL_law 326 = .ok (.iconst 4, 1) := by decide +kernel
theorem dL_law_327 : decode cL_law 327 = .ok (.iadd, 1) := by decide +kernel
theorem dL_law_328 : decode cL_law 328 = .ok (.iaload, 1) := by decide +kernel
theorem dL_law_329 : decode cL_law 329 = .ok (.i2l, 1) := by decide +kernel
theorem dL_law_330 : decode cL_law 330 = .ok (.ldc2_w 13, 3) := by decide +kernel
theorem dL_law_333 : decode cL_law 333 = .ok (.land, 1) := by decide +kernel
theorem dL_law_334 : decode cL_law 334 = .ok (.lor, 1) := by decide +kernel
theorem dL_law_335 : decode cL_law 335 = .ok (.invokevirtual 34, 3) := by decide +kernel
theorem dL_law_338 : decode cL_law 338 = .ok (.aload_n 2, 1) := by decide +kernel
theorem dL_law_339 : decode cL_law 339 = .ok (.aload_n 0, 1) := by decide +kernel
theorem dL_law_340 : decode cL_law 340 = .ok (.iload_n 3, 1) := by decide +kernel
theorem dL_law_341 : decode cL_law 341 = .ok (.iconst 1, 1) := by decide +kernel
theorem dL_law_342 : decode cL_law 342 = .ok (.iadd, 1) := by decide +kernel
theorem dL_law_343 : decode cL_law 343 = .ok (.iaload, 1) := by decide +kernel
theorem dL_law_344 : decode cL_law 344 = .ok (.i2l, 1) := by decide +kernel
theorem dL_law_345 : decode cL_law 345 = .ok (.bipush 32, 2) := by decide +kernel
theorem dL_law_347 : decode cL_law 347 = .ok (.lshl, 1) := by decide +kernel
theorem dL_law_348 : decode cL_law 348 = .ok (.aload_n 0, 1) := by decide +kernel
theorem dL_law_349 : decode cL_law 349 = .ok (.iload_n 3, 1) := by decide +kernel
theorem dL_law_350 : decode cL_law 350 = .ok (.iconst 2, 1) := by decide +kernel
theorem dL_law_351 : decode cL_law 351 = .ok (.iadd, 1) := by decide +kernel
theorem dL_law_352 : decode cL_law 352 = .ok (.iaload, 1) := by decide +kernel
theorem dL_law_353 : decode cL_law 353 = .ok (.i2l, 1) := by decide +kernel
theorem dL_law_354 : decode cL_law 354 = .ok (.ldc2_w 13, 3) := by decide +kernel
theorem dL_law_357 : decode cL_law 357 = .ok (.land, 1) := by decide +kernel
theorem dL_law_358 : decode cL_law 358 = .ok (.lor, 1) := by decide +kernel
theorem dL_law_359 : decode cL_law 359 = .ok (.aload_n 0, 1) := by decide +kernel
theorem dL_law_360 : decode cL_law 360 = .ok (.iload_n 3, 1) := by decide +kernel
theorem dL_law_361 : decode cL_law 361 = .ok (.iconst 3, 1) := by decide +kernel
theorem dL_law_362 : decode cL_law 362 = .ok (.iadd, 1) := by decide +kernel
theorem dL_law_363 : decode cL_law 363 = .ok (.iaload, 1) := by decide +kernel
theorem dL_law_364 : decode cL_law 364 = .ok (.i2l, 1) := by decide +kernel
theorem dL_law_365 : decode cL_law 365 = .ok (.bipush 32, 2) := by decide +kernel
theorem dL_law_367 : decode cL_law 367 = .ok (.lshl, 1) := by decide +kernel
theorem dL_law_368 : decode cL_law 368 = .ok (.aload_n 0, 1) := by decide +kernel
theorem dL_law_369 : decode cL_law 369 = .ok (.iload_n 3, 1) := by decide +kernel
theorem dL_law_370 : decode cL_law 370 = .ok (.iconst 4, 1) := by decide +kernel
theorem dL_law_371 : decode cL_law 371 = .ok (.iadd, 1) := by decide +kernel
theorem dL_law_372 : decode cL_law 372 = .ok (.iaload, 1) := by decide +kernel
theorem dL_law_373 : decode cL_law 373 = .ok (.i2l, 1) := by decide +kernel
theorem dL_law_374 : decode cL_law 374 = .ok (.ldc2_w 13, 3) := by decide +kernel
theorem dL_law_377 : decode cL_law 377 = .ok (.land, 1) := by decide +kernel
theorem dL_law_378 : decode cL_law 378 = .ok (.lor, 1) := by decide +kernel
theorem dL_law_379 : decode cL_law 379 = .ok (.invokevirtual 38, 3) := by decide +kernel
theorem dL_law_382 : decode cL_law 382 = .ok (.lcmp, 1) := by decide +kernel
theorem dL_law_383 : decode cL_law 383 = .ok (.ifCond .eq 391, 3) := by decide +kernel
theorem dL_law_386 : decode cL_law 386 = .ok (.iconst 0, 1) := by decide +kernel
theorem dL_law_387 : decode cL_law 387 = .ok (.ireturn, 1) := by decide +kernel
theorem dL_law_388 : decode cL_law 388 = .ok (.aload_n 1, 1) := by decide +kernel
theorem dL_law_389 : decode cL_law 389 = .ok (.aload_n 0, 1) := by decide +kernel
theorem dL_law_390 : decode cL_law 390 = .ok (.iload_n 3, 1) := by decide +kernel
theorem dL_law_391 : decode cL_law 391 = .ok (.iconst 1, 1) := by decide +kernel
theorem dL_law_392 : decode cL_law 392 = .ok (.iadd, 1) := by decide +kernel
theorem dL_law_393 : decode cL_law 393 = .ok (.iaload, 1) := by decide +kernel
theorem dL_law_394 : decode cL_law 394 = .ok (.aload_n 0, 1) := by decide +kernel
theorem dL_law_395 : decode cL_law 395 = .ok (.iload_n 3, 1) := by decide +kernel
theorem dL_law_396 : decode cL_law 396 = .ok (.iconst 2, 1) := by decide +kernel
theorem dL_law_397 : decode cL_law 397 = .ok (.iadd, 1) := by decide +kernel
theorem dL_law_398 : decode cL_law 398 = .ok (.iaload, 1) := by decide +kernel
theorem dL_law_399 : decode cL_law 399 = .ok (.aload_n 0, 1) := by decide +kernel
theorem dL_law_400 : decode cL_law 400 = .ok (.iload_n 3, 1) := by decide +kernel
theorem dL_law_401 : decode cL_law 401 = .ok (.iconst 3, 1) := by decide +kernel
theorem dL_law_402 : decode cL_law 402 = .ok (.iadd, 1) := by decide +kernel
theorem dL_law_403 : decode cL_law 403 = .ok (.iaload, 1) := by decide +kernel
theorem dL_law_404 : decode cL_law 404 = .ok (.aload_n 0, 1) := by decide +kernel
theorem dL_law_405 : decode cL_law 405 = .ok (.iload_n 3, 1) := by decide +kernel
theorem dL_law_406 : decode cL_law 406 = .ok (.iconst 4, 1) := by decide +kernel
theorem dL_law_407 : decode cL_law 407 = .ok (.iadd, 1) := by decide +kernel
theorem dL_law_408 : decode cL_law 408 = .ok (.iaload, 1) := by decide +kernel
theorem dL_law_409 : decode cL_law 409 = .ok (.aload_n 0, 1) := by decide +kernel
theorem dL_law_410 : decode cL_law 410 = .ok (.iload_n 3, 1) := by decide +kernel
theorem dL_law_411 : decode cL_law 411 = .ok (.iconst 5, 1) := by decide +kernel
theorem dL_law_412 : decode cL_law 412 = .ok (.iadd, 1) := by decide +kernel
theorem dL_law_413 : decode cL_law 413 = .ok (.iaload, 1) := by decide +kernel
theorem dL_law_414 : decode cL_law 414 = .ok (.invokevirtual 39, 3) := by decide +kernel
theorem dL_law_417 : decode cL_law 417 = .ok (.aload_n 2, 1) := by decide +kernel
theorem dL_law_418 : decode cL_law 418 = .ok (.aload_n 0, 1) := by decide +kernel
theorem dL_law_419 : decode cL_law 419 = .ok (.iload_n 3, 1) := by decide +kernel
theorem dL_law_420 : decode cL_law 420 = .ok (.iconst 1, 1) := by decide +kernel
theorem dL_law_421 : decode cL_law 421 = .ok (.iadd, 1) := by decide +kernel
theorem dL_law_422 : decode cL_law 422 = .ok (.iaload, 1) := by decide +kernel
theorem dL_law_423 : decode cL_law 423 = .ok (.aload_n 0, 1) := by decide +kernel
theorem dL_law_424 : decode cL_law 424 = .ok (.iload_n 3, 1) := by decide +kernel
theorem dL_law_425 : decode cL_law 425 = .ok (.iconst 2, 1) := by decide +kernel
theorem dL_law_426 : decode cL_law 426 = .ok (.iadd, 1) := by decide +kernel
theorem dL_law_427 : decode cL_law 427 = .ok (.iaload, 1) := by decide +kernel
theorem dL_law_428 : decode cL_law 428 = .ok (.aload_n 0, 1) := by decide +kernel
theorem dL_law_429 : decode cL_law 429 = .ok (.iload_n 3, 1) := by decide +kernel
theorem dL_law_430 : decode cL_law 430 = .ok (.iconst 3, 1) := by decide +kernel
theorem dL_law_431 : decode cL_law 431 = .ok (.iadd, 1) := by decide +kernel
theorem dL_law_432 : decode cL_law 432 = .ok (.iaload, 1) := by decide +kernel
theorem dL_law_433 : decode cL_law 433 = .ok (.aload_n 0, 1) := by decide +kernel
theorem dL_law_434 : decode cL_law 434 = .ok (.iload_n 3, 1) := by decide +kernel
theorem dL_law_435 : decode cL_law 435 = .ok (.iconst 4, 1) := by decide +kernel
theorem dL_law_436 : decode cL_law 436 = .ok (.iadd, 1) := by decide +kernel
theorem dL_law_437 : decode cL_law 437 = .ok (.iaload, 1) := by decide +kernel
theorem dL_law_438 : decode cL_law 438 = .ok (.aload_n 0, 1) := by decide +kernel
theorem dL_law_439 : decode cL_law 439 = .ok (.iload_n 3, 1) := by decide +kernel
theorem dL_law_440 : decode cL_law 440 = .ok (.iconst 5, 1) := by decide +kernel
theorem dL_law_441 : decode cL_law 441 = .ok (.iadd, 1) := by decide +kernel
theorem dL_law_442 : decode cL_law 442 = .ok (.iaload, 1) := by decide +kernel
theorem dL_law_443 : decode cL_law 443 = .ok (.invokevirtual 43, 3) := by decide +kernel
theorem dL_law_446 : decode cL_law 446 = .ok (.if_icmp .eq 328, 3) := by decide +kernel
theorem dL_law_449 : decode cL_law 449 = .ok (.iconst 0, 1) := by decide +kernel
theorem dL_law_450 : decode cL_law 450 = .ok (.ireturn, 1) := by decide +kernel
theorem dL_law_451 : decode cL_law 451 = .ok (.aload_n 1, 1) := by decide +kernel
theorem dL_law_452 : decode cL_law 452 = .ok (.aload_n 0, 1) := by decide +kernel
theorem dL_law_453 : decode cL_law 453 = .ok (.iload_n 3, 1) := by decide +kernel
theorem dL_law_454 : decode cL_law 454 = .ok (.iconst 1, 1) := by decide +kernel
theorem dL_law_455 : decode cL_law 455 = .ok (.iadd, 1) := by decide +kernel
theorem dL_law_456 : decode cL_law 456 = .ok (.iaload, 1) := by decide +kernel
theorem dL_law_457 : decode cL_law 457 = .ok (.invokevirtual 44, 3) := by decide +kernel
theorem dL_law_460 : decode cL_law 460 = .ok (.aload_n 2, 1) := by decide +kernel
theorem dL_law_461 : decode cL_law 461 = .ok (.aload_n 0, 1) := by decide +kernel
theorem dL_law_462 : decode cL_law 462 = .ok (.iload_n 3, 1) := by decide +kernel
theorem dL_law_463 : decode cL_law 463 = .ok (.iconst 1, 1) := by decide +kernel
theorem dL_law_464 : decode cL_law 464 = .ok (.iadd, 1) := by decide +kernel
theorem dL_law_465 : decode cL_law 465 = .ok (.iaload, 1) := by decide +kernel
theorem dL_law_466 : decode cL_law 466 = .ok (.invokevirtual 47, 3) := by decide +kernel
theorem dL_law_469 : decode cL_law 469 = .ok (.if_icmp .eq 305, 3) := by decide +kernel
theorem dL_law_472 : decode cL_law 472 = .ok (.iconst 0, 1) := by decide +kernel
theorem dL_law_473 : decode cL_law 473 = .ok (.ireturn, 1) := by decide +kernel
theorem dL_law_474 : decode cL_law 474 = .ok (.aload_n 1, 1) := by decide +kernel
theorem dL_law_475 : decode cL_law 475 = .ok (.aload_n 0, 1) := by decide +kernel
theorem dL_law_476 : decode cL_law 476 = .ok (.iload_n 3, 1) := by decide +kernel
theorem dL_law_477 : decode cL_law 477 = .ok (.iconst 1, 1) := by decide +kernel
theorem dL_law_478 : decode cL_law 478 = .ok (.iadd, 1) := by decide +kernel
theorem dL_law_479 : decode cL_law 479 = .ok (.iaload, 1) := by decide +kernel
theorem dL_law_480 : decode cL_law 480 = .ok (.invokevirtual 48, 3) := by decide +kernel
theorem dL_law_483 : decode cL_law 483 = .ok (.aload_n 2, 1) := by decide +kernel
theorem dL_law_484 : decode cL_law 484 = .ok (.aload_n 0, 1) := by decide +kernel
theorem dL_law_485 : decode cL_law 485 = .ok (.iload_n 3, 1) := by decide +kernel
theorem dL_law_486 : decode cL_law 486 = .ok (.iconst 1, 1) := by decide +kernel
theorem dL_law_487 : decode cL_law 487 = .ok (.iadd, 1) := by decide +kernel
theorem dL_law_488 : decode cL_law 488 = .ok (.iaload, 1) := by decide +kernel
theorem dL_law_489 : decode cL_law 489 = .ok (.invokevirtual 51, 3) := by decide +kernel
theorem dL_law_492 : decode cL_law 492 = .ok (.if_icmp .eq 282, 3) := by decide +kernel
theorem dL_law_495 : decode cL_law 495 = .ok (.iconst 0, 1) := by decide +kernel
theorem dL_law_496 : decode cL_law 496 = .ok (.ireturn, 1) := by decide +kernel
theorem dL_law_497 : decode cL_law 497 = .ok (.aload_n 1, 1) := by decide +kernel
theorem dL_law_498 : decode cL_law 498 = .ok (.aload_n 0, 1) := by decide +kernel
theorem dL_law_499 : decode cL_law 499 = .ok (.iload_n 3, 1) := by decide +kernel
theorem dL_law_500 : decode cL_law 500 = .ok (.iconst 1, 1) := by decide +kernel
theorem dL_law_501 : decode cL_law 501 = .ok (.iadd, 1) := by decide +kernel
theorem dL_law_502 : decode cL_law 502 = .ok (.iaload, 1) := by decide +kernel
theorem dL_law_503 : decode cL_law 503 = .ok (.invokevirtual 52, 3) := by decide +kernel
theorem dL_law_506 : decode cL_law 506 = .ok (.aload_n 2, 1) := by decide +kernel
theorem dL_law_507 : decode cL_law 507 = .ok (.aload_n 0, 1) := by decide +kernel
theorem dL_law_508 : decode cL_law 508 = .ok (.iload_n 3, 1) := by decide +kernel
theorem dL_law_509 : decode cL_law 509 = .ok (.iconst 1, 1) := by decide +kernel
theorem dL_law_510 : decode cL_law 510 = .ok (.iadd, 1) := by decide +kernel
theorem dL_law_511 : decode cL_law 511 = .ok (.iaload, 1) := by decide +kernel
theorem dL_law_512 : decode cL_law 512 = .ok (.invokevirtual 55, 3) := by decide +kernel
theorem dL_law_515 : decode cL_law 515 = .ok (.if_icmp .eq 259, 3) := by decide +kernel
theorem dL_law_518 : decode cL_law 518 = .ok (.iconst 0, 1) := by decide +kernel
theorem dL_law_519 : decode cL_law 519 = .ok (.ireturn, 1) := by decide +kernel
theorem dL_law_520 : decode cL_law 520 = .ok (.aload_n 1, 1) := by decide +kernel
theorem dL_law_521 : decode cL_law 521 = .ok (.invokevirtual 56, 3) := by decide +kernel
theorem dL_law_524 : decode cL_law 524 = .ok (.aload_n 2, 1) := by decide +kernel
theorem dL_law_525 : decode cL_law 525 = .ok (.invokevirtual 60, 3) := by decide +kernel
theorem dL_law_528 : decode cL_law 528 = .ok (.if_icmp .eq 246, 3) := by decide +kernel
theorem dL_law_531 : decode cL_law 531 = .ok (.iconst 0, 1) := by decide +kernel
theorem dL_law_532 : decode cL_law 532 = .ok (.ireturn, 1) := by decide +kernel
theorem dL_law_533 : decode cL_law 533 = .ok (.aload_n 1, 1) := by decide +kernel
theorem dL_law_534 : decode cL_law 534 = .ok (.aload_n 0, 1) := by decide +kernel
theorem dL_law_535 : decode cL_law 535 = .ok (.iload_n 3, 1) := by decide +kernel
theorem dL_law_536 : decode cL_law 536 = .ok (.iconst 1, 1) := by decide +kernel
theorem dL_law_537 : decode cL_law 537 = .ok (.iadd, 1) := by decide +kernel
theorem dL_law_538 : decode cL_law 538 = .ok (.iaload, 1) := by decide +kernel
theorem dL_law_539 : decode cL_law 539 = .ok (.aload_n 0, 1) := by decide +kernel
theorem dL_law_540 : decode cL_law 540 = .ok (.iload_n 3, 1) := by decide +kernel
theorem dL_law_541 : decode cL_law 541 = .ok (.iconst 2, 1) := by decide +kernel
theorem dL_law_542 : decode cL_law 542 = .ok (.iadd, 1) := by decide +kernel
theorem dL_law_543 : decode cL_law 543 = .ok (.iaload, 1) := by decide +kernel
theorem dL_law_544 : decode cL_law 544 = .ok (.invokevirtual 61, 3) := by decide +kernel
theorem dL_law_547 : decode cL_law 547 = .ok (.aload_n 2, 1) := by decide +kernel
theorem dL_law_548 : decode cL_law 548 = .ok (.aload_n 0, 1) := by decide +kernel
theorem dL_law_549 : decode cL_law 549 = .ok (.iload_n 3, 1) := by decide +kernel
theorem dL_law_550 : decode cL_law 550 = .ok (.iconst 1, 1) := by decide +kernel
theorem dL_law_551 : decode cL_law 551 = .ok (.iadd, 1) := by decide +kernel
theorem dL_law_552 : decode cL_law 552 = .ok (.iaload, 1) := by decide +kernel
theorem dL_law_553 : decode cL_law 553 = .ok (.aload_n 0, 1) := by decide +kernel
theorem dL_law_554 : decode cL_law 554 = .ok (.iload_n 3, 1) := by decide +kernel
theorem dL_law_555 : decode cL_law 555 = .ok (.iconst 2, 1) := by decide +kernel
theorem dL_law_556 : decode cL_law 556 = .ok (.iadd, 1) := by decide +kernel
theorem dL_law_557 : decode cL_law 557 = .ok (.iaload, 1) := by decide +kernel
theorem dL_law_558 : decode cL_law 558 = .ok (.invokevirtual 65, 3) := by decide +kernel
theorem dL_law_561 : decode cL_law 561 = .ok (.if_icmp .eq 213, 3) := by decide +kernel
theorem dL_law_564 : decode cL_law 564 = .ok (.iconst 0, 1) := by decide +kernel
theorem dL_law_565 : decode cL_law 565 = .ok (.ireturn, 1) := by decide +kernel
theorem dL_law_566 : decode cL_law 566 = .ok (.aload_n 1, 1) := by decide +kernel
theorem dL_law_567 : decode cL_law 567 = .ok (.aload_n 0, 1) := by decide +kernel
theorem dL_law_568 : decode cL_law 568 = .ok (.iload_n 3, 1) := by decide +kernel
theorem dL_law_569 : decode cL_law 569 = .ok (.iconst 1, 1) := by decide +kernel
theorem dL_law_570 : decode cL_law 570 = .ok (.iadd, 1) := by decide +kernel
theorem dL_law_571 : decode cL_law 571 = .ok (.iaload, 1) := by decide +kernel
theorem dL_law_572 : decode cL_law 572 = .ok (.aload_n 0, 1) := by decide +kernel
theorem dL_law_573 : decode cL_law 573 = .ok (.iload_n 3, 1) := by decide +kernel
theorem dL_law_574 : decode cL_law 574 = .ok (.iconst 2, 1) := by decide +kernel
theorem dL_law_575 : decode cL_law 575 = .ok (.iadd, 1) := by decide +kernel
theorem dL_law_576 : decode cL_law 576 = .ok (.iaload, 1) := by decide +kernel
theorem dL_law_577 : decode cL_law 577 = .ok (.invokevirtual 66, 3) := by decide +kernel
theorem dL_law_580 : decode cL_law 580 = .ok (.aload_n 2, 1) := by decide +kernel
theorem dL_law_581 : decode cL_law 581 = .ok (.aload_n 0, 1) := by decide +kernel
theorem dL_law_582 : decode cL_law 582 = .ok (.iload_n 3, 1) := by decide +kernel
theorem dL_law_583 : decode cL_law 583 = .ok (.iconst 1, 1) := by decide +kernel
theorem dL_law_584 : decode cL_law 584 = .ok (.iadd, 1) := by decide +kernel
theorem dL_law_585 : decode cL_law 585 = .ok (.iaload, 1) := by decide +kernel
theorem dL_law_586 : decode cL_law 586 = .ok (.aload_n 0, 1) := by decide +kernel
theorem dL_law_587 : decode cL_law 587 = .ok (.iload_n 3, 1) := by decide +kernel
theorem dL_law_588 : decode cL_law 588 = .ok (.iconst 2, 1) := by decide +kernel
theorem dL_law_589 : decode cL_law 589 = .ok (.iadd, 1) := by decide +kernel
theorem dL_law_590 : decode cL_law 590 = .ok (.iaload, 1) := by decide +kernel
theorem dL_law_591 : decode cL_law 591 = .ok (.invokevirtual 69, 3) := by decide +kernel
theorem dL_law_594 : decode cL_law 594 = .ok (.if_icmp .eq 180, 3) := by decide +kernel
theorem dL_law_597 : decode cL_law 597 = .ok (.iconst 0, 1) := by decide +kernel
theorem dL_law_598 : decode cL_law 598 = .ok (.ireturn, 1) := by decide +kernel
theorem dL_law_599 : decode cL_law 599 = .ok (.aload_n 1, 1) := by decide +kernel
theorem dL_law_600 : decode cL_law 600 = .ok (.invokevirtual 70, 3) := by decide +kernel
theorem dL_law_603 : decode cL_law 603 = .ok (.aload_n 2, 1) := by decide +kernel
theorem dL_law_604 : decode cL_law 604 = .ok (.invokevirtual 73, 3) := by decide +kernel
theorem dL_law_607 : decode cL_law 607 = .ok (.if_icmp .eq 167, 3) := by decide +kernel
theorem dL_law_610 : decode cL_law 610 = .ok (.iconst 0, 1) := by decide +kernel
theorem dL_law_611 : decode cL_law 611 = .ok (.ireturn, 1) := by decide +kernel
theorem dL_law_612 : decode cL_law 612 = .ok (.aload_n 1, 1) := by decide +kernel
theorem dL_law_613 : decode cL_law 613 = .ok (.aload_n 0, 1) := by decide +kernel
theorem dL_law_614 : decode cL_law 614 = .ok (.iload_n 3, 1) := by decide +kernel
theorem dL_law_615 : decode cL_law 615 = .ok (.iconst 1, 1) := by decide +kernel
theorem dL_law_616 : decode cL_law 616 = .ok (.iadd, 1) := by decide +kernel
theorem dL_law_617 : decode cL_law 617 = .ok (.iaload, 1) := by decide +kernel
theorem dL_law_618 : decode cL_law 618 = .ok (.invokevirtual 74, 3) := by decide +kernel
theorem dL_law_621 : decode cL_law 621 = .ok (.aload_n 2, 1) := by decide +kernel
theorem dL_law_622 : decode cL_law 622 = .ok (.aload_n 0, 1) := by decide +kernel
theorem dL_law_623 : decode cL_law 623 = .ok (.iload_n 3, 1) := by decide +kernel
theorem dL_law_624 : decode cL_law 624 = .ok (.iconst 1, 1) := by decide +kernel
theorem dL_law_625 : decode cL_law 625 = .ok (.iadd, 1) := by decide +kernel
theorem dL_law_626 : decode cL_law 626 = .ok (.iaload, 1) := by decide +kernel
theorem dL_law_627 : decode cL_law 627 = .ok (.invokevirtual 77, 3) := by decide +kernel
theorem dL_law_630 : decode cL_law 630 = .ok (.if_icmp .eq 144, 3) := by decide +kernel
theorem dL_law_633 : decode cL_law 633 = .ok (.iconst 0, 1) := by decide +kernel
theorem dL_law_634 : decode cL_law 634 = .ok (.ireturn, 1) := by decide +kernel
theorem dL_law_635 : decode cL_law 635 = .ok (.aload_n 1, 1) := by decide +kernel
theorem dL_law_636 : decode cL_law 636 = .ok (.aload_n 0, 1) := by decide +kernel
theorem dL_law_637 : decode cL_law 637 = .ok (.iload_n 3, 1) := by decide +kernel
theorem dL_law_638 : decode cL_law 638 = .ok (.iconst 1, 1) := by decide +kernel
theorem dL_law_639 : decode cL_law 639 = .ok (.iadd, 1) := by decide +kernel
theorem dL_law_640 : decode cL_law 640 = .ok (.iaload, 1) := by decide +kernel
theorem dL_law_641 : decode cL_law 641 = .ok (.aload_n 0, 1) := by decide +kernel
theorem dL_law_642 : decode cL_law 642 = .ok (.iload_n 3, 1) := by decide +kernel
theorem dL_law_643 : decode cL_law 643 = .ok (.iconst 2, 1) := by decide +kernel
theorem dL_law_644 : decode cL_law 644 = .ok (.iadd, 1) := by decide +kernel
theorem dL_law_645 : decode cL_law 645 = .ok (.iaload, 1) := by decide +kernel
theorem dL_law_646 : decode cL_law 646 = .ok (.invokevirtual 78, 3) := by decide +kernel
theorem dL_law_649 : decode cL_law 649 = .ok (.aload_n 2, 1) := by decide +kernel
theorem dL_law_650 : decode cL_law 650 = .ok (.aload_n 0, 1) := by decide +kernel
theorem dL_law_651 : decode cL_law 651 = .ok (.iload_n 3, 1) := by decide +kernel
theorem dL_law_652 : decode cL_law 652 = .ok (.iconst 1, 1) := by decide +kernel
theorem dL_law_653 : decode cL_law 653 = .ok (.iadd, 1) := by decide +kernel
theorem dL_law_654 : decode cL_law 654 = .ok (.iaload, 1) := by decide +kernel
theorem dL_law_655 : decode cL_law 655 = .ok (.aload_n 0, 1) := by decide +kernel
theorem dL_law_656 : decode cL_law 656 = .ok (.iload_n 3, 1) := by decide +kernel
theorem dL_law_657 : decode cL_law 657 = .ok (.iconst 2, 1) := by decide +kernel
theorem dL_law_658 : decode cL_law 658 = .ok (.iadd, 1) := by decide +kernel
theorem dL_law_659 : decode cL_law 659 = .ok (.iaload, 1) := by decide +kernel
theorem dL_law_660 : decode cL_law 660 = .ok (.invokevirtual 81, 3) := by decide +kernel
theorem dL_law_663 : decode cL_law 663 = .ok (.if_icmp .eq 111, 3) := by decide +kernel
theorem dL_law_666 : decode cL_law 666 = .ok (.iconst 0, 1) := by decide +kernel
theorem dL_law_667 : decode cL_law 667 = .ok (.ireturn, 1) := by decide +kernel
theorem dL_law_668 : decode cL_law 668 = .ok (.aload_n 1, 1) := by decide +kernel
theorem dL_law_669 : decode cL_law 669 = .ok (.aload_n 0, 1) := by decide +kernel
theorem dL_law_670 : decode cL_law 670 = .ok (.iload_n 3, 1) := by decide +kernel
theorem dL_law_671 : decode cL_law 671 = .ok (.iconst 1, 1) := by decide +kernel
theorem dL_law_672 : decode cL_law 672 = .ok (.iadd, 1) := by decide +kernel
theorem dL_law_673 : decode cL_law 673 = .ok (.iaload, 1) := by decide +kernel
theorem dL_law_674 : decode cL_law 674 = .ok (.aload_n 0, 1) := by decide +kernel
theorem dL_law_675 : decode cL_law 675 = .ok (.iload_n 3, 1) := by decide +kernel
theorem dL_law_676 : decode cL_law 676 = .ok (.iconst 2, 1) := by decide +kernel
theorem dL_law_677 : decode cL_law 677 = .ok (.iadd, 1) := by decide +kernel
theorem dL_law_678 : decode cL_law 678 = .ok (.iaload, 1) := by decide +kernel
theorem dL_law_679 : decode cL_law 679 = .ok (.ifCond .eq 7, 3) := by decide +kernel
theorem dL_law_682 : decode cL_law 682 = .ok (.iconst 1, 1) := by decide +kernel
theorem dL_law_683 : decode cL_law 683 = .ok (.goto 4, 3) := by decide +kernel
theorem dL_law_686 : decode cL_law 686 = .ok (.iconst 0, 1) := by decide +kernel
theorem dL_law_687 : decode cL_law 687 = .ok (.invokevirtual 82, 3) := by decide +kernel
theorem dL_law_690 : decode cL_law 690 = .ok (.aload_n 2, 1) := by decide +kernel
theorem dL_law_691 : decode cL_law 691 = .ok (.aload_n 0, 1) := by decide +kernel
theorem dL_law_692 : decode cL_law 692 = .ok (.iload_n 3, 1) := by decide +kernel
theorem dL_law_693 : decode cL_law 693 = .ok (.iconst 1, 1) := by decide +kernel
theorem dL_law_694 : decode cL_law 694 = .ok (.iadd, 1) := by decide +kernel
theorem dL_law_695 : decode cL_law 695 = .ok (.iaload, 1) := by decide +kernel
theorem dL_law_696 : decode cL_law 696 = .ok (.aload_n 0, 1) := by decide +kernel
theorem dL_law_697 : decode cL_law 697 = .ok (.iload_n 3, 1) := by decide +kernel
theorem dL_law_698 : decode cL_law 698 = .ok (.iconst 2, 1) := by decide +kernel
theorem dL_law_699 : decode cL_law 699 = .ok (.iadd, 1) := by decide +kernel
theorem dL_law_700 : decode cL_law 700 = .ok (.iaload, 1) := by decide +kernel
theorem dL_law_701 : decode cL_law 701 = .ok (.ifCond .eq 7, 3) := by decide +kernel
theorem dL_law_704 : decode cL_law 704 = .ok (.iconst 1, 1) := by decide +kernel
theorem dL_law_705 : decode cL_law 705 = .ok (.goto 4, 3) := by decide +kernel
theorem dL_law_708 : decode cL_law 708 = .ok (.iconst 0, 1) := by decide +kernel
theorem dL_law_709 : decode cL_law 709 = .ok (.invokevirtual 86, 3) := by decide +kernel
theorem dL_law_712 : decode cL_law 712 = .ok (.lcmp, 1) := by decide +kernel
theorem dL_law_713 : decode cL_law 713 = .ok (.ifCond .eq 61, 3) := by decide +kernel
theorem dL_law_716 : decode cL_law 716 = .ok (.iconst 0, 1) := by decide +kernel
theorem dL_law_717 : decode cL_law 717 = .ok (.ireturn, 1) := by decide +kernel
theorem dL_law_718 : decode cL_law 718 = .ok (.aload_n 1, 1) := by decide +kernel
theorem dL_law_719 : decode cL_law 719 = .ok (.aload_n 0, 1) := by decide +kernel
theorem dL_law_720 : decode cL_law 720 = .ok (.iload_n 3, 1) := by decide +kernel
theorem dL_law_721 : decode cL_law 721 = .ok (.iconst 1, 1) := by decide +kernel
theorem dL_law_722 : decode cL_law 722 = .ok (.iadd, 1) := by decide +kernel
theorem dL_law_723 : decode cL_law 723 = .ok (.iaload, 1) := by decide +kernel
theorem dL_law_724 : decode cL_law 724 = .ok (.aload_n 0, 1) := by decide +kernel
theorem dL_law_725 : decode cL_law 725 = .ok (.iload_n 3, 1) := by decide +kernel
theorem dL_law_726 : decode cL_law 726 = .ok (.iconst 2, 1) := by decide +kernel
theorem dL_law_727 : decode cL_law 727 = .ok (.iadd, 1) := by decide +kernel
theorem dL_law_728 : decode cL_law 728 = .ok (.iaload, 1) := by decide +kernel
theorem dL_law_729 : decode cL_law 729 = .ok (.invokevirtual 87, 3) := by decide +kernel
theorem dL_law_732 : decode cL_law 732 = .ok (.aload_n 2, 1) := by decide +kernel
theorem dL_law_733 : decode cL_law 733 = .ok (.aload_n 0, 1) := by decide +kernel
theorem dL_law_734 : decode cL_law 734 = .ok (.iload_n 3, 1) := by decide +kernel
theorem dL_law_735 : decode cL_law 735 = .ok (.iconst 1, 1) := by decide +kernel
theorem dL_law_736 : decode cL_law 736 = .ok (.iadd, 1) := by decide +kernel
theorem dL_law_737 : decode cL_law 737 = .ok (.iaload, 1) := by decide +kernel
theorem dL_law_738 : decode cL_law 738 = .ok (.aload_n 0, 1) := by decide +kernel
theorem dL_law_739 : decode cL_law 739 = .ok (.iload_n 3, 1) := by decide +kernel
theorem dL_law_740 : decode cL_law 740 = .ok (.iconst 2, 1) := by decide +kernel
theorem dL_law_741 : decode cL_law 741 = .ok (.iadd, 1) := by decide +kernel
theorem dL_law_742 : decode cL_law 742 = .ok (.iaload, 1) := by decide +kernel
theorem dL_law_743 : decode cL_law 743 = .ok (.invokevirtual 90, 3) := by decide +kernel
theorem dL_law_746 : decode cL_law 746 = .ok (.if_icmp .eq 28, 3) := by decide +kernel
theorem dL_law_749 : decode cL_law 749 = .ok (.iconst 0, 1) := by decide +kernel
theorem dL_law_750 : decode cL_law 750 = .ok (.ireturn, 1) := by decide +kernel
theorem dL_law_751 : decode cL_law 751 = .ok (.aload_n 1, 1) := by decide +kernel
theorem dL_law_752 : decode cL_law 752 = .ok (.aload_n 0, 1) := by decide +kernel
theorem dL_law_753 : decode cL_law 753 = .ok (.iload_n 3, 1) := by decide +kernel
theorem dL_law_754 : decode cL_law 754 = .ok (.iconst 1, 1) := by decide +kernel
theorem dL_law_755 : decode cL_law 755 = .ok (.iadd, 1) := by decide +kernel
theorem dL_law_756 : decode cL_law 756 = .ok (.iaload, 1) := by decide +kernel
theorem dL_law_757 : decode cL_law 757 = .ok (.invokevirtual 91, 3) := by decide +kernel
theorem dL_law_760 : decode cL_law 760 = .ok (.aload_n 2, 1) := by decide +kernel
theorem dL_law_761 : decode cL_law 761 = .ok (.aload_n 0, 1) := by decide +kernel
theorem dL_law_762 : decode cL_law 762 = .ok (.iload_n 3, 1) := by decide +kernel
theorem dL_law_763 : decode cL_law 763 = .ok (.iconst 1, 1) := by decide +kernel
theorem dL_law_764 : decode cL_law 764 = .ok (.iadd, 1) := by decide +kernel
theorem dL_law_765 : decode cL_law 765 = .ok (.iaload, 1) := by decide +kernel
theorem dL_law_766 : decode cL_law 766 = .ok (.invokevirtual 94, 3) := by decide +kernel
theorem dL_law_769 : decode cL_law 769 = .ok (.if_icmp .eq 5, 3) := by decide +kernel
theorem dL_law_772 : decode cL_law 772 = .ok (.iconst 0, 1) := by decide +kernel
theorem dL_law_773 : decode cL_law 773 = .ok (.ireturn, 1) := by decide +kernel
theorem dL_law_774 : decode cL_law 774 = .ok (.iinc 3 6, 3) := by decide +kernel
theorem dL_law_777 : decode cL_law 777 = .ok (.goto (-759), 3) := by decide +kernel
theorem dL_law_780 : decode cL_law 780 = .ok (.iconst 1, 1) := by decide +kernel
theorem dL_law_781 : decode cL_law 781 = .ok (.ireturn, 1) := by decide +kernel
abbrev lwA (s : State) : Nat → Prop := fun q => s.heap.size ≤ q
abbrev lwL (b x mo i : Nat) : List (Nat × Value) := [(3, .int (nI i)), (2, .ref mo), (1, .ref x), (0, .ref b)]
theorem and31 (x : Int32) : ∃ q : Nat, q < 32 ∧ x &&& nI 31 = nI q := by
  obtain ⟨a, ha, rfl⟩ := nI_ofx x
  refine ⟨a % 32, Nat.mod_lt _ (by decide), ?_⟩
  apply Int32.toBitVec_inj.mp
  apply BitVec.eq_of_toNat_eq
  show ((nI a).toBitVec &&& (nI 31).toBitVec).toNat = (nI (a % 32)).toBitVec.toNat
  rw [BitVec.toNat_and]
  show (BitVec.ofNat 32 a).toNat &&& (BitVec.ofNat 32 31).toNat = (BitVec.ofNat 32 (a % 32)).toNat
  rw [BitVec.toNat_ofNat, BitVec.toNat_ofNat, BitVec.toNat_ofNat, Nat.mod_eq_of_lt ha, show 31 % 2 ^ 32 = 2 ^ 5 - 1 by decide, Nat.and_two_pow_sub_one_eq_mod]
  omega
section LW
variable {p : Program} {l : Launch} {e : Env} {s : State} {m : MethodId} {below : List Frame} {meth : Method} {c : Code} {H : Heap} {locs : List Loc} {cells slots : Nat} {Q : State → Prop} {pc : Nat} {ls : Array Slot} {rest : List Value} {b L : Nat} {xs : Nat → Int32} {i x mo : Nat} {cd : Cond} {args : Array Value}
variable {y : MethodName} {bytes : ByteArray} {maxL n index : Nat} {ret : Option FieldType} {C : String} {As st : List Value} {r : Value} {D : va_G} {cy : Nat → ClassId} {e0 : Nat × Nat} {ws : va_W} {Post : va_W → Prop} {ad am : Nat → Nat} {N : Nat}
theorem sc_ld {k : Nat} {k0 : Int} (hx : p.tables.exec = Jvm.exec) (hb : c.code = code) (hl : lv_has ls 4 (lwL b x mo i)) (hX : va_X b L xs s s.heap) (hbl : b < s.heap.size) (hS : va_S (lwA s) s.heap H locs) (hk : i + k < L) (hL : L ≤ 3072) (d0 : decode code pc = .ok (.aload_n 0, 1)) (d1 : decode code (pc + 1) = .ok (.iload_n 3, 1)) (d2 : decode code (pc + 2) = .ok (.iconst k0, 1)) (hk0 : k0 = (k : Int)) (d3 : decode code (pc + 3) = .ok (.iadd, 1)) (d4 : decode code (pc + 4) = .ok (.iaload, 1))
    (kk : W p l e room_1 s m args below meth c H locs cells slots Q (F0 m (pc + 5) ls (.int (xs (i + k)) :: rest))) : W p l e room_1 s m args below meth c H locs cells slots Q (F0 m pc ls rest) := by
  refine lv_aload_n hx hb d0 rfl (lv_at hl 3 rfl) ?_
  refine lv_iload_n hx hb d1 rfl (lv_at hl 0 rfl) ?_
  refine nv_iconst (k := k) hx hb d2 hk0 ?_
  refine nv_iadd hx hb d3 ?_
  refine va_sld (A := lwA s) hx hb hX hbl (Nat.not_le_of_lt hbl) hS (vp_in_nI hk (by omega)) d4 ?_
  rw [nI_clamp (by omega)]
  exact kk
theorem opx_V (S : CallFix p m c code 4 s args (cd :: lw_g) "TransitGateLaw") (hO : OPX l y bytes maxL ret (.ref x :: As) D cy e0 ws r Post) (hlk : Cond.methodLink "TransitGateLaw" index y ∈ lw_g) (hy : YV C y bytes maxL ret n) (hmL : maxL ≤ 15) (hK : va_K D vwCl (TYS cy) s) (hP : va_P D vwCl ws H) (hD : va_D (lwA s) ws) (hS : va_S (lwA s) s.heap H locs) (hE : EX e0 (lwA s) s)
    (hr : ∃ cell : Cell, H[x]? = some cell ∧ cell.vm.isStatics = false ∧ s.vm.findClass C = some cell.cls) (hn : As.length = n) (hsz : ls.size = 4) (hst : st = As.reverse ++ .ref x :: rest) (hw : (rest.map fun v => v.category).sum ≤ 8) (hdg : decode code pc = .ok (.invokevirtual index, 3)) (hc : cells + 5 ≤ 600000) (hs : slots + 617 ≤ 7302249)
    (kk : ∀ (w : va_W) (H1 : Heap) (locs1 : List Loc) (c1 s1 : Nat), c1 ≤ cells + 5 → s1 ≤ slots + 617 → Post w → va_P D vwCl w H1 → va_D (lwA s) w → va_S (lwA s) s.heap H1 locs1 → W p l e room_1 s m args below meth c H1 locs1 c1 s1 Q (F0 m (pc + 3) ls (r :: rest))) : W p l e room_1 s m args below meth c H locs cells slots Q (F0 m pc ls st) := by
  obtain ⟨f, mc, ms, lo, h1, h2, h3, h4, h⟩ := hO
  exact wx_V S h hlk hy ⟨by show f + 1 ≤ 13; omega, by show 8 + (maxL + 11) + lo ≤ 524; omega⟩ hK hP hD hS (fun q h => h) hE hr hn hsz hst hw hdg ⟨by show _ ≤ 600000; omega, by show _ ≤ 7302249; omega⟩ (fun w H1 locs1 hp hP hD hS => kk w H1 locs1 _ _ (by omega) (by omega) hp hP hD hS)
set_option maxHeartbeats 4000000 in
set_option maxRecDepth 100000 in
theorem law_prefix (S : CallFix p m c code 4 s args (cd :: lw_g) "TransitGateLaw") (hX : va_X b L xs s s.heap) (hbl : b < s.heap.size) (hL : L ≤ 3072) (hi : i + 6 ≤ L) (hK : va_K D vwCl (TYS cy) s) (hE : EX e0 (lwA s) s) (hJ : J cy ad mo am e0 N ws) (hN : N ≤ 1000) (hP : va_P D vwCl ws H) (hD : va_D (lwA s) ws) (hS : va_S (lwA s) s.heap H locs) (hc : cells + 10 ≤ 600000) (hs : slots + 1234 ≤ 7302249) (hl : lv_has ls 4 (lwL b (ad 0) mo i))
    (kk : ∀ (w : va_W) (H1 : Heap) (locs1 : List Loc) (c1 s1 : Nat), c1 ≤ cells + 10 → s1 ≤ slots + 1234 → J cy ad mo am e0 (N + 1) w → va_P D vwCl w H1 → va_D (lwA s) w → va_S (lwA s) s.heap H1 locs1 → W p l e room_1 s m args below meth c H1 locs1 c1 s1 Q (F0 m 774 ls [])) : W p l e room_1 s m args below meth c H locs cells slots Q (F0 m 120 ls []) := by
  have hx := S.1
  have hb := S.2.1
  have hown : s.vm.findClass "TransitGateLaw" = some m.cls := S.2.2.2.1
  have ht : ∀ w ∈ lw_g, w.before args s = true := fun w h => S.2.2.2.2 w (List.mem_cons_of_mem _ h)
  obtain ⟨f0, hm0⟩ := hJ.c0
  obtain ⟨v, P1, hO1, hO2⟩ := op_prefix (l := l) (D := D) hJ hN ((xs (i + 1)).toInt64 <<< ((nI 32).toInt64 &&& 63) ||| (xs (i + 2)).toInt64 &&& lN 4294967295) ((xs (i + 3)).toInt64 <<< ((nI 32).toInt64 &&& 63) ||| (xs (i + 4)).toInt64 &&& lN 4294967295) (xs (i + 5))
  refine lv_aload_n hx hb dL_law_120 rfl (lv_at hl 2 rfl) ?_
  refine sc_ld (k := 1) hx hb hl hX hbl hS (by omega) hL dL_law_121 dL_law_122 dL_law_123 rfl dL_law_124 dL_law_125 ?_
  refine lv_i2l hx hb dL_law_126 rfl ?_
  refine nv_bipush (k := 32) hx hb dL_law_127 (by decide) ?_
  refine lv_lshl hx hb dL_law_129 rfl ?_
  refine sc_ld (k := 2) hx hb hl hX hbl hS (by omega) hL dL_law_130 dL_law_131 dL_law_132 rfl dL_law_133 dL_law_134 ?_
  refine lv_i2l hx hb dL_law_135 rfl ?_
  refine nv_ldc2 (k := 4294967295) hx hb hown (ht _ kw5_207) (by decide) dL_law_136 ?_
  refine lv_land hx hb dL_law_139 ?_
  refine lv_lor hx hb dL_law_140 ?_
  refine sc_ld (k := 3) hx hb hl hX hbl hS (by omega) hL dL_law_141 dL_law_142 dL_law_143 rfl dL_law_144 dL_law_145 ?_
  refine lv_i2l hx hb dL_law_146 rfl ?_
  refine nv_bipush (k := 32) hx hb dL_law_147 (by decide) ?_
  refine lv_lshl hx hb dL_law_149 rfl ?_
  refine sc_ld (k := 4) hx hb hl hX hbl hS (by omega) hL dL_law_150 dL_law_151 dL_law_152 rfl dL_law_153 dL_law_154 ?_
  refine lv_i2l hx hb dL_law_155 rfl ?_
  refine nv_ldc2 (k := 4294967295) hx hb hown (ht _ kw5_207) (by decide) dL_law_156 ?_
  refine lv_land hx hb dL_law_159 ?_
  refine lv_lor hx hb dL_law_160 ?_
  refine sc_ld (k := 5) hx hb hl hX hbl hS (by omega) hL dL_law_161 dL_law_162 dL_law_163 rfl dL_law_164 dL_law_165 ?_
  refine opx_V S hO1 kw1_148 yv_X11_prefix (Nat.le_of_ble_eq_true rfl) hK hP hD hS hE (va_recv hK hP (ci := 8) (q0 := 0) rfl hm0) rfl hl.1 rfl (Nat.le_of_ble_eq_true rfl) dL_law_166 (by omega) (by omega) (fun w1 H1 locs1 c1 s1 hc1 hs1 hp1 hP hD hS => ?_)
  obtain ⟨hO3, km, fm, hm1⟩ := hO2 w1 hp1
  refine lv_aload_n hx hb dL_law_169 rfl (lv_at hl 1 rfl) ?_
  refine sc_ld (k := 1) hx hb hl hX hbl hS (by omega) hL dL_law_170 dL_law_171 dL_law_172 rfl dL_law_173 dL_law_174 ?_
  refine lv_i2l hx hb dL_law_175 rfl ?_
  refine nv_bipush (k := 32) hx hb dL_law_176 (by decide) ?_
  refine lv_lshl hx hb dL_law_178 rfl ?_
  refine sc_ld (k := 2) hx hb hl hX hbl hS (by omega) hL dL_law_179 dL_law_180 dL_law_181 rfl dL_law_182 dL_law_183 ?_
  refine lv_i2l hx hb dL_law_184 rfl ?_
  refine nv_ldc2 (k := 4294967295) hx hb hown (ht _ kw5_207) (by decide) dL_law_185 ?_
  refine lv_land hx hb dL_law_188 ?_
  refine lv_lor hx hb dL_law_189 ?_
  refine sc_ld (k := 3) hx hb hl hX hbl hS (by omega) hL dL_law_190 dL_law_191 dL_law_192 rfl dL_law_193 dL_law_194 ?_
  refine lv_i2l hx hb dL_law_195 rfl ?_
  refine nv_bipush (k := 32) hx hb dL_law_196 (by decide) ?_
  refine lv_lshl hx hb dL_law_198 rfl ?_
  refine sc_ld (k := 4) hx hb hl hX hbl hS (by omega) hL dL_law_199 dL_law_200 dL_law_201 rfl dL_law_202 dL_law_203 ?_
  refine lv_i2l hx hb dL_law_204 rfl ?_
  refine nv_ldc2 (k := 4294967295) hx hb hown (ht _ kw5_207) (by decide) dL_law_205 ?_
  refine lv_land hx hb dL_law_208 ?_
  refine lv_lor hx hb dL_law_209 ?_
  refine sc_ld (k := 5) hx hb hl hX hbl hS (by omega) hL dL_law_210 dL_law_211 dL_law_212 rfl dL_law_213 dL_law_214 ?_
  refine opx_V S hO3 kw4_196 yv_X12_prefix (Nat.le_of_ble_eq_true rfl) hK hP hD hS hE (va_recv hK hP (ci := 9) (q0 := km) rfl hm1) rfl hl.1 rfl (Nat.le_of_ble_eq_true rfl) dL_law_215 (by omega) (by omega) (fun w2 H2 locs2 c2 s2 hc2 hs2 hp2 hP hD hS => ?_)
  refine lv_icmp_eq (tgt := 774) hx hb dL_law_218 (by decide) (fun _ => ?_) (fun h => absurd rfl h)
  exact kk w2 H2 locs2 c2 s2 (by omega) (by omega) hp2 hP hD hS
set_option maxHeartbeats 4000000 in
set_option maxRecDepth 100000 in
theorem law_pool (S : CallFix p m c code 4 s args (cd :: lw_g) "TransitGateLaw") (hX : va_X b L xs s s.heap) (hbl : b < s.heap.size) (hL : L ≤ 3072) (hi : i + 6 ≤ L) (hK : va_K D vwCl (TYS cy) s) (hE : EX e0 (lwA s) s) (hJ : J cy ad mo am e0 N ws) (hN : N ≤ 1000) (hP : va_P D vwCl ws H) (hD : va_D (lwA s) ws) (hS : va_S (lwA s) s.heap H locs) (hc : cells + 10 ≤ 600000) (hs : slots + 1234 ≤ 7302249) (hl : lv_has ls 4 (lwL b (ad 0) mo i))
    (kk : ∀ (w : va_W) (H1 : Heap) (locs1 : List Loc) (c1 s1 : Nat), c1 ≤ cells + 10 → s1 ≤ slots + 1234 → J cy ad mo am e0 (N + 1) w → va_P D vwCl w H1 → va_D (lwA s) w → va_S (lwA s) s.heap H1 locs1 → W p l e room_1 s m args below meth c H1 locs1 c1 s1 Q (F0 m 774 ls [])) : W p l e room_1 s m args below meth c H locs cells slots Q (F0 m 223 ls []) := by
  have hx := S.1
  have hb := S.2.1
  have hown : s.vm.findClass "TransitGateLaw" = some m.cls := S.2.2.2.1
  have ht : ∀ w ∈ lw_g, w.before args s = true := fun w h => S.2.2.2.2 w (List.mem_cons_of_mem _ h)
  obtain ⟨f0, hm0⟩ := hJ.c0
  obtain ⟨v, P1, hO1, hO2⟩ := op_pool (l := l) (D := D) hJ hN (xs (i + 1))
  refine lv_aload_n hx hb dL_law_223 rfl (lv_at hl 2 rfl) ?_
  refine sc_ld (k := 1) hx hb hl hX hbl hS (by omega) hL dL_law_224 dL_law_225 dL_law_226 rfl dL_law_227 dL_law_228 ?_
  refine opx_V S hO1 kw1_169 yv_X11_pool (Nat.le_of_ble_eq_true rfl) hK hP hD hS hE (va_recv hK hP (ci := 8) (q0 := 0) rfl hm0) rfl hl.1 rfl (Nat.le_of_ble_eq_true rfl) dL_law_229 (by omega) (by omega) (fun w1 H1 locs1 c1 s1 hc1 hs1 hp1 hP hD hS => ?_)
  obtain ⟨hO3, km, fm, hm1⟩ := hO2 w1 hp1
  refine lv_aload_n hx hb dL_law_232 rfl (lv_at hl 1 rfl) ?_
  refine sc_ld (k := 1) hx hb hl hX hbl hS (by omega) hL dL_law_233 dL_law_234 dL_law_235 rfl dL_law_236 dL_law_237 ?_
  refine opx_V S hO3 kw4_202 yv_X12_pool (Nat.le_of_ble_eq_true rfl) hK hP hD hS hE (va_recv hK hP (ci := 9) (q0 := km) rfl hm1) rfl hl.1 rfl (Nat.le_of_ble_eq_true rfl) dL_law_238 (by omega) (by omega) (fun w2 H2 locs2 c2 s2 hc2 hs2 hp2 hP hD hS => ?_)
  refine lv_icmp_eq (tgt := 774) hx hb dL_law_241 (by decide) (fun _ => ?_) (fun h => absurd rfl h)
  exact kk w2 H2 locs2 c2 s2 (by omega) (by omega) hp2 hP hD hS
set_option maxHeartbeats 4000000 in
set_option maxRecDepth 100000 in
theorem law_high (S : CallFix p m c code 4 s args (cd :: lw_g) "TransitGateLaw") (hX : va_X b L xs s s.heap) (hbl : b < s.heap.size) (hL : L ≤ 3072) (hi : i + 6 ≤ L) (hK : va_K D vwCl (TYS cy) s) (hE : EX e0 (lwA s) s) (hJ : J cy ad mo am e0 N ws) (hN : N ≤ 1000) (hP : va_P D vwCl ws H) (hD : va_D (lwA s) ws) (hS : va_S (lwA s) s.heap H locs) (hc : cells + 10 ≤ 600000) (hs : slots + 1234 ≤ 7302249) (hl : lv_has ls 4 (lwL b (ad 0) mo i))
    (kk : ∀ (w : va_W) (H1 : Heap) (locs1 : List Loc) (c1 s1 : Nat), c1 ≤ cells + 10 → s1 ≤ slots + 1234 → J cy ad mo am e0 (N + 1) w → va_P D vwCl w H1 → va_D (lwA s) w → va_S (lwA s) s.heap H1 locs1 → W p l e room_1 s m args below meth c H1 locs1 c1 s1 Q (F0 m 774 ls [])) : W p l e room_1 s m args below meth c H locs cells slots Q (F0 m 246 ls []) := by
  have hx := S.1
  have hb := S.2.1
  have hown : s.vm.findClass "TransitGateLaw" = some m.cls := S.2.2.2.1
  have ht : ∀ w ∈ lw_g, w.before args s = true := fun w h => S.2.2.2.2 w (List.mem_cons_of_mem _ h)
  obtain ⟨f0, hm0⟩ := hJ.c0
  obtain ⟨v, P1, hO1, hO2⟩ := op_high (l := l) (D := D) hJ hN (xs (i + 1))
  refine lv_aload_n hx hb dL_law_246 rfl (lv_at hl 2 rfl) ?_
  refine sc_ld (k := 1) hx hb hl hX hbl hS (by omega) hL dL_law_247 dL_law_248 dL_law_249 rfl dL_law_250 dL_law_251 ?_
  refine opx_V S hO1 kw1_188 yv_X11_high (Nat.le_of_ble_eq_true rfl) hK hP hD hS hE (va_recv hK hP (ci := 8) (q0 := 0) rfl hm0) rfl hl.1 rfl (Nat.le_of_ble_eq_true rfl) dL_law_252 (by omega) (by omega) (fun w1 H1 locs1 c1 s1 hc1 hs1 hp1 hP hD hS => ?_)
  obtain ⟨hO3, km, fm, hm1⟩ := hO2 w1 hp1
  refine lv_aload_n hx hb dL_law_255 rfl (lv_at hl 1 rfl) ?_
  refine sc_ld (k := 1) hx hb hl hX hbl hS (by omega) hL dL_law_256 dL_law_257 dL_law_258 rfl dL_law_259 dL_law_260 ?_
  refine opx_V S hO3 kw4_213 yv_X12_high (Nat.le_of_ble_eq_true rfl) hK hP hD hS hE (va_recv hK hP (ci := 9) (q0 := km) rfl hm1) rfl hl.1 rfl (Nat.le_of_ble_eq_true rfl) dL_law_261 (by omega) (by omega) (fun w2 H2 locs2 c2 s2 hc2 hs2 hp2 hP hD hS => ?_)
  refine nv_lcmp_eq (tgt := 774) hx hb dL_law_264 dL_law_265 (by decide) (fun _ => ?_) (fun h => absurd rfl h)
  exact kk w2 H2 locs2 c2 s2 (by omega) (by omega) hp2 hP hD hS
set_option maxHeartbeats 4000000 in
set_option maxRecDepth 100000 in
theorem law_low (S : CallFix p m c code 4 s args (cd :: lw_g) "TransitGateLaw") (hX : va_X b L xs s s.heap) (hbl : b < s.heap.size) (hL : L ≤ 3072) (hi : i + 6 ≤ L) (hK : va_K D vwCl (TYS cy) s) (hE : EX e0 (lwA s) s) (hJ : J cy ad mo am e0 N ws) (hN : N ≤ 1000) (hP : va_P D vwCl ws H) (hD : va_D (lwA s) ws) (hS : va_S (lwA s) s.heap H locs) (hc : cells + 10 ≤ 600000) (hs : slots + 1234 ≤ 7302249) (hl : lv_has ls 4 (lwL b (ad 0) mo i))
    (kk : ∀ (w : va_W) (H1 : Heap) (locs1 : List Loc) (c1 s1 : Nat), c1 ≤ cells + 10 → s1 ≤ slots + 1234 → J cy ad mo am e0 (N + 1) w → va_P D vwCl w H1 → va_D (lwA s) w → va_S (lwA s) s.heap H1 locs1 → W p l e room_1 s m args below meth c H1 locs1 c1 s1 Q (F0 m 774 ls [])) : W p l e room_1 s m args below meth c H locs cells slots Q (F0 m 270 ls []) := by
  have hx := S.1
  have hb := S.2.1
  have hown : s.vm.findClass "TransitGateLaw" = some m.cls := S.2.2.2.1
  have ht : ∀ w ∈ lw_g, w.before args s = true := fun w h => S.2.2.2.2 w (List.mem_cons_of_mem _ h)
  obtain ⟨f0, hm0⟩ := hJ.c0
  obtain ⟨v, P1, hO1, hO2⟩ := op_low (l := l) (D := D) hJ hN (xs (i + 1))
  refine lv_aload_n hx hb dL_law_270 rfl (lv_at hl 2 rfl) ?_
  refine sc_ld (k := 1) hx hb hl hX hbl hS (by omega) hL dL_law_271 dL_law_272 dL_law_273 rfl dL_law_274 dL_law_275 ?_
  refine opx_V S hO1 kw1_197 yv_X11_low (Nat.le_of_ble_eq_true rfl) hK hP hD hS hE (va_recv hK hP (ci := 8) (q0 := 0) rfl hm0) rfl hl.1 rfl (Nat.le_of_ble_eq_true rfl) dL_law_276 (by omega) (by omega) (fun w1 H1 locs1 c1 s1 hc1 hs1 hp1 hP hD hS => ?_)
  obtain ⟨hO3, km, fm, hm1⟩ := hO2 w1 hp1
  refine lv_aload_n hx hb dL_law_279 rfl (lv_at hl 1 rfl) ?_
  refine sc_ld (k := 1) hx hb hl hX hbl hS (by omega) hL dL_law_280 dL_law_281 dL_law_282 rfl dL_law_283 dL_law_284 ?_
  refine opx_V S hO3 kw4_225 yv_X12_low (Nat.le_of_ble_eq_true rfl) hK hP hD hS hE (va_recv hK hP (ci := 9) (q0 := km) rfl hm1) rfl hl.1 rfl (Nat.le_of_ble_eq_true rfl) dL_law_285 (by omega) (by omega) (fun w2 H2 locs2 c2 s2 hc2 hs2 hp2 hP hD hS => ?_)
  refine nv_lcmp_eq (tgt := 774) hx hb dL_law_288 dL_law_289 (by decide) (fun _ => ?_) (fun h => absurd rfl h)
  exact kk w2 H2 locs2 c2 s2 (by omega) (by omega) hp2 hP hD hS
set_option maxHeartbeats 4000000 in
set_option maxRecDepth 100000 in
theorem law_drawn (S : CallFix p m c code 4 s args (cd :: lw_g) "TransitGateLaw") (hX : va_X b L xs s s.heap) (hbl : b < s.heap.size) (hL : L ≤ 3072) (hi : i + 6 ≤ L) (hK : va_K D vwCl (TYS cy) s) (hE : EX e0 (lwA s) s) (hJ : J cy ad mo am e0 N ws) (hN : N ≤ 1000) (hP : va_P D vwCl ws H) (hD : va_D (lwA s) ws) (hS : va_S (lwA s) s.heap H locs) (hc : cells + 10 ≤ 600000) (hs : slots + 1234 ≤ 7302249) (hl : lv_has ls 4 (lwL b (ad 0) mo i))
    (kk : ∀ (w : va_W) (H1 : Heap) (locs1 : List Loc) (c1 s1 : Nat), c1 ≤ cells + 10 → s1 ≤ slots + 1234 → J cy ad mo am e0 (N + 1) w → va_P D vwCl w H1 → va_D (lwA s) w → va_S (lwA s) s.heap H1 locs1 → W p l e room_1 s m args below meth c H1 locs1 c1 s1 Q (F0 m 774 ls [])) : W p l e room_1 s m args below meth c H locs cells slots Q (F0 m 294 ls []) := by
  have hx := S.1
  have hb := S.2.1
  have hown : s.vm.findClass "TransitGateLaw" = some m.cls := S.2.2.2.1
  have ht : ∀ w ∈ lw_g, w.before args s = true := fun w h => S.2.2.2.2 w (List.mem_cons_of_mem _ h)
  obtain ⟨f0, hm0⟩ := hJ.c0
  obtain ⟨v, P1, hO1, hO2⟩ := op_drawn (l := l) (D := D) hJ hN ((xs (i + 1)).toInt64 <<< ((nI 32).toInt64 &&& 63) ||| (xs (i + 2)).toInt64 &&& lN 4294967295) ((xs (i + 3)).toInt64 <<< ((nI 32).toInt64 &&& 63) ||| (xs (i + 4)).toInt64 &&& lN 4294967295)
  refine lv_aload_n hx hb dL_law_294 rfl (lv_at hl 2 rfl) ?_
  refine sc_ld (k := 1) hx hb hl hX hbl hS (by omega) hL dL_law_295 dL_law_296 dL_law_297 rfl dL_law_298 dL_law_299 ?_
  refine lv_i2l hx hb dL_law_300 rfl ?_
  refine nv_bipush (k := 32) hx hb dL_law_301 (by decide) ?_
  refine lv_lshl hx hb dL_law_303 rfl ?_
  refine sc_ld (k := 2) hx hb hl hX hbl hS (by omega) hL dL_law_304 dL_law_305 dL_law_306 rfl dL_law_307 dL_law_308 ?_
  refine lv_i2l hx hb dL_law_309 rfl ?_
  refine nv_ldc2 (k := 4294967295) hx hb hown (ht _ kw5_207) (by decide) dL_law_310 ?_
  refine lv_land hx hb dL_law_313 ?_
  refine lv_lor hx hb dL_law_314 ?_
  refine sc_ld (k := 3) hx hb hl hX hbl hS (by omega) hL dL_law_315 dL_law_316 dL_law_317 rfl dL_law_318 dL_law_319 ?_
  refine lv_i2l hx hb dL_law_320 rfl ?_
  refine nv_bipush (k := 32) hx hb dL_law_321 (by decide) ?_
  refine lv_lshl hx hb dL_law_323 rfl ?_
  refine sc_ld (k := 4) hx hb hl hX hbl hS (by omega) hL dL_law_324 dL_law_325 dL_law_326 rfl dL_law_327 dL_law_328 ?_
  refine lv_i2l hx hb dL_law_329 rfl ?_
  refine nv_ldc2 (k := 4294967295) hx hb hown (ht _ kw5_207) (by decide) dL_law_330 ?_
  refine lv_land hx hb dL_law_333 ?_
  refine lv_lor hx hb dL_law_334 ?_
  refine opx_V S hO1 kw1_208 yv_X11_drawn (Nat.le_of_ble_eq_true rfl) hK hP hD hS hE (va_recv hK hP (ci := 8) (q0 := 0) rfl hm0) rfl hl.1 rfl (Nat.le_of_ble_eq_true rfl) dL_law_335 (by omega) (by omega) (fun w1 H1 locs1 c1 s1 hc1 hs1 hp1 hP hD hS => ?_)
  obtain ⟨hO3, km, fm, hm1⟩ := hO2 w1 hp1
  refine lv_aload_n hx hb dL_law_338 rfl (lv_at hl 1 rfl) ?_
  refine sc_ld (k := 1) hx hb hl hX hbl hS (by omega) hL dL_law_339 dL_law_340 dL_law_341 rfl dL_law_342 dL_law_343 ?_
  refine lv_i2l hx hb dL_law_344 rfl ?_
  refine nv_bipush (k := 32) hx hb dL_law_345 (by decide) ?_
  refine lv_lshl hx hb dL_law_347 rfl ?_
  refine sc_ld (k := 2) hx hb hl hX hbl hS (by omega) hL dL_law_348 dL_law_349 dL_law_350 rfl dL_law_351 dL_law_352 ?_
  refine lv_i2l hx hb dL_law_353 rfl ?_
  refine nv_ldc2 (k := 4294967295) hx hb hown (ht _ kw5_207) (by decide) dL_law_354 ?_
  refine lv_land hx hb dL_law_357 ?_
  refine lv_lor hx hb dL_law_358 ?_
  refine sc_ld (k := 3) hx hb hl hX hbl hS (by omega) hL dL_law_359 dL_law_360 dL_law_361 rfl dL_law_362 dL_law_363 ?_
  refine lv_i2l hx hb dL_law_364 rfl ?_
  refine nv_bipush (k := 32) hx hb dL_law_365 (by decide) ?_
  refine lv_lshl hx hb dL_law_367 rfl ?_
  refine sc_ld (k := 4) hx hb hl hX hbl hS (by omega) hL dL_law_368 dL_law_369 dL_law_370 rfl dL_law_371 dL_law_372 ?_
  refine lv_i2l hx hb dL_law_373 rfl ?_
  refine nv_ldc2 (k := 4294967295) hx hb hown (ht _ kw5_207) (by decide) dL_law_374 ?_
  refine lv_land hx hb dL_law_377 ?_
  refine lv_lor hx hb dL_law_378 ?_
  refine opx_V S hO3 kw4_229 yv_X12_drawn (Nat.le_of_ble_eq_true rfl) hK hP hD hS hE (va_recv hK hP (ci := 9) (q0 := km) rfl hm1) rfl hl.1 rfl (Nat.le_of_ble_eq_true rfl) dL_law_379 (by omega) (by omega) (fun w2 H2 locs2 c2 s2 hc2 hs2 hp2 hP hD hS => ?_)
  refine nv_lcmp_eq (tgt := 774) hx hb dL_law_382 dL_law_383 (by decide) (fun _ => ?_) (fun h => absurd rfl h)
  exact kk w2 H2 locs2 c2 s2 (by omega) (by omega) hp2 hP hD hS
set_option maxHeartbeats 4000000 in
set_option maxRecDepth 100000 in
theorem law_feed (S : CallFix p m c code 4 s args (cd :: lw_g) "TransitGateLaw") (hX : va_X b L xs s s.heap) (hbl : b < s.heap.size) (hL : L ≤ 3072) (hi : i + 6 ≤ L) (hK : va_K D vwCl (TYS cy) s) (hE : EX e0 (lwA s) s) (hJ : J cy ad mo am e0 N ws) (hN : N ≤ 1000) (hP : va_P D vwCl ws H) (hD : va_D (lwA s) ws) (hS : va_S (lwA s) s.heap H locs) (hc : cells + 10 ≤ 600000) (hs : slots + 1234 ≤ 7302249) (hl : lv_has ls 4 (lwL b (ad 0) mo i))
    (kk : ∀ (w : va_W) (H1 : Heap) (locs1 : List Loc) (c1 s1 : Nat), c1 ≤ cells + 10 → s1 ≤ slots + 1234 → J cy ad mo am e0 (N + 1) w → va_P D vwCl w H1 → va_D (lwA s) w → va_S (lwA s) s.heap H1 locs1 → W p l e room_1 s m args below meth c H1 locs1 c1 s1 Q (F0 m 774 ls [])) : W p l e room_1 s m args below meth c H locs cells slots Q (F0 m 388 ls []) := by
  have hx := S.1
  have hb := S.2.1
  have hown : s.vm.findClass "TransitGateLaw" = some m.cls := S.2.2.2.1
  have ht : ∀ w ∈ lw_g, w.before args s = true := fun w h => S.2.2.2.2 w (List.mem_cons_of_mem _ h)
  obtain ⟨f0, hm0⟩ := hJ.c0
  obtain ⟨v, P1, hO1, hO2⟩ := op_feed (l := l) (D := D) hJ hN (xs (i + 1)) (xs (i + 2)) (xs (i + 3)) (xs (i + 4)) (xs (i + 5))
  refine lv_aload_n hx hb dL_law_388 rfl (lv_at hl 2 rfl) ?_
  refine sc_ld (k := 1) hx hb hl hX hbl hS (by omega) hL dL_law_389 dL_law_390 dL_law_391 rfl dL_law_392 dL_law_393 ?_
  refine sc_ld (k := 2) hx hb hl hX hbl hS (by omega) hL dL_law_394 dL_law_395 dL_law_396 rfl dL_law_397 dL_law_398 ?_
  refine sc_ld (k := 3) hx hb hl hX hbl hS (by omega) hL dL_law_399 dL_law_400 dL_law_401 rfl dL_law_402 dL_law_403 ?_
  refine sc_ld (k := 4) hx hb hl hX hbl hS (by omega) hL dL_law_404 dL_law_405 dL_law_406 rfl dL_law_407 dL_law_408 ?_
  refine sc_ld (k := 5) hx hb hl hX hbl hS (by omega) hL dL_law_409 dL_law_410 dL_law_411 rfl dL_law_412 dL_law_413 ?_
  refine opx_V S hO1 kw1_216 yv_X11_feed (Nat.le_of_ble_eq_true rfl) hK hP hD hS hE (va_recv hK hP (ci := 8) (q0 := 0) rfl hm0) rfl hl.1 rfl (Nat.le_of_ble_eq_true rfl) dL_law_414 (by omega) (by omega) (fun w1 H1 locs1 c1 s1 hc1 hs1 hp1 hP hD hS => ?_)
  obtain ⟨hO3, km, fm, hm1⟩ := hO2 w1 hp1
  refine lv_aload_n hx hb dL_law_417 rfl (lv_at hl 1 rfl) ?_
  refine sc_ld (k := 1) hx hb hl hX hbl hS (by omega) hL dL_law_418 dL_law_419 dL_law_420 rfl dL_law_421 dL_law_422 ?_
  refine sc_ld (k := 2) hx hb hl hX hbl hS (by omega) hL dL_law_423 dL_law_424 dL_law_425 rfl dL_law_426 dL_law_427 ?_
  refine sc_ld (k := 3) hx hb hl hX hbl hS (by omega) hL dL_law_428 dL_law_429 dL_law_430 rfl dL_law_431 dL_law_432 ?_
  refine sc_ld (k := 4) hx hb hl hX hbl hS (by omega) hL dL_law_433 dL_law_434 dL_law_435 rfl dL_law_436 dL_law_437 ?_
  refine sc_ld (k := 5) hx hb hl hX hbl hS (by omega) hL dL_law_438 dL_law_439 dL_law_440 rfl dL_law_441 dL_law_442 ?_
  refine opx_V S hO3 kw5_5 yv_X12_feed (Nat.le_of_ble_eq_true rfl) hK hP hD hS hE (va_recv hK hP (ci := 9) (q0 := km) rfl hm1) rfl hl.1 rfl (Nat.le_of_ble_eq_true rfl) dL_law_443 (by omega) (by omega) (fun w2 H2 locs2 c2 s2 hc2 hs2 hp2 hP hD hS => ?_)
  refine lv_icmp_eq (tgt := 774) hx hb dL_law_446 (by decide) (fun _ => ?_) (fun h => absurd rfl h)
  exact kk w2 H2 locs2 c2 s2 (by omega) (by omega) hp2 hP hD hS
set_option maxHeartbeats 4000000 in
set_option maxRecDepth 100000 in
theorem law_inside (S : CallFix p m c code 4 s args (cd :: lw_g) "TransitGateLaw") (hX : va_X b L xs s s.heap) (hbl : b < s.heap.size) (hL : L ≤ 3072) (hi : i + 6 ≤ L) (hK : va_K D vwCl (TYS cy) s) (hE : EX e0 (lwA s) s) (hJ : J cy ad mo am e0 N ws) (hN : N ≤ 1000) (hP : va_P D vwCl ws H) (hD : va_D (lwA s) ws) (hS : va_S (lwA s) s.heap H locs) (hc : cells + 10 ≤ 600000) (hs : slots + 1234 ≤ 7302249) (hl : lv_has ls 4 (lwL b (ad 0) mo i))
    (kk : ∀ (w : va_W) (H1 : Heap) (locs1 : List Loc) (c1 s1 : Nat), c1 ≤ cells + 10 → s1 ≤ slots + 1234 → J cy ad mo am e0 (N + 1) w → va_P D vwCl w H1 → va_D (lwA s) w → va_S (lwA s) s.heap H1 locs1 → W p l e room_1 s m args below meth c H1 locs1 c1 s1 Q (F0 m 774 ls [])) : W p l e room_1 s m args below meth c H locs cells slots Q (F0 m 451 ls []) := by
  have hx := S.1
  have hb := S.2.1
  have hown : s.vm.findClass "TransitGateLaw" = some m.cls := S.2.2.2.1
  have ht : ∀ w ∈ lw_g, w.before args s = true := fun w h => S.2.2.2.2 w (List.mem_cons_of_mem _ h)
  obtain ⟨f0, hm0⟩ := hJ.c0
  obtain ⟨v, P1, hO1, hO2⟩ := op_inside (l := l) (D := D) hJ hN (xs (i + 1))
  refine lv_aload_n hx hb dL_law_451 rfl (lv_at hl 2 rfl) ?_
  refine sc_ld (k := 1) hx hb hl hX hbl hS (by omega) hL dL_law_452 dL_law_453 dL_law_454 rfl dL_law_455 dL_law_456 ?_
  refine opx_V S hO1 kw1_239 yv_X11_inside (Nat.le_of_ble_eq_true rfl) hK hP hD hS hE (va_recv hK hP (ci := 8) (q0 := 0) rfl hm0) rfl hl.1 rfl (Nat.le_of_ble_eq_true rfl) dL_law_457 (by omega) (by omega) (fun w1 H1 locs1 c1 s1 hc1 hs1 hp1 hP hD hS => ?_)
  obtain ⟨hO3, km, fm, hm1⟩ := hO2 w1 hp1
  refine lv_aload_n hx hb dL_law_460 rfl (lv_at hl 1 rfl) ?_
  refine sc_ld (k := 1) hx hb hl hX hbl hS (by omega) hL dL_law_461 dL_law_462 dL_law_463 rfl dL_law_464 dL_law_465 ?_
  refine opx_V S hO3 kw5_29 yv_X12_inside (Nat.le_of_ble_eq_true rfl) hK hP hD hS hE (va_recv hK hP (ci := 9) (q0 := km) rfl hm1) rfl hl.1 rfl (Nat.le_of_ble_eq_true rfl) dL_law_466 (by omega) (by omega) (fun w2 H2 locs2 c2 s2 hc2 hs2 hp2 hP hD hS => ?_)
  refine lv_icmp_eq (tgt := 774) hx hb dL_law_469 (by decide) (fun _ => ?_) (fun h => absurd rfl h)
  exact kk w2 H2 locs2 c2 s2 (by omega) (by omega) hp2 hP hD hS
set_option maxHeartbeats 4000000 in
set_option maxRecDepth 100000 in
theorem law_outside (S : CallFix p m c code 4 s args (cd :: lw_g) "TransitGateLaw") (hX : va_X b L xs s s.heap) (hbl : b < s.heap.size) (hL : L ≤ 3072) (hi : i + 6 ≤ L) (hK : va_K D vwCl (TYS cy) s) (hE : EX e0 (lwA s) s) (hJ : J cy ad mo am e0 N ws) (hN : N ≤ 1000) (hP : va_P D vwCl ws H) (hD : va_D (lwA s) ws) (hS : va_S (lwA s) s.heap H locs) (hc : cells + 10 ≤ 600000) (hs : slots + 1234 ≤ 7302249) (hl : lv_has ls 4 (lwL b (ad 0) mo i))
    (kk : ∀ (w : va_W) (H1 : Heap) (locs1 : List Loc) (c1 s1 : Nat), c1 ≤ cells + 10 → s1 ≤ slots + 1234 → J cy ad mo am e0 (N + 1) w → va_P D vwCl w H1 → va_D (lwA s) w → va_S (lwA s) s.heap H1 locs1 → W p l e room_1 s m args below meth c H1 locs1 c1 s1 Q (F0 m 774 ls [])) : W p l e room_1 s m args below meth c H locs cells slots Q (F0 m 474 ls []) := by
  have hx := S.1
  have hb := S.2.1
  have hown : s.vm.findClass "TransitGateLaw" = some m.cls := S.2.2.2.1
  have ht : ∀ w ∈ lw_g, w.before args s = true := fun w h => S.2.2.2.2 w (List.mem_cons_of_mem _ h)
  obtain ⟨f0, hm0⟩ := hJ.c0
  obtain ⟨v, P1, hO1, hO2⟩ := op_outside (l := l) (D := D) hJ hN (xs (i + 1))
  refine lv_aload_n hx hb dL_law_474 rfl (lv_at hl 2 rfl) ?_
  refine sc_ld (k := 1) hx hb hl hX hbl hS (by omega) hL dL_law_475 dL_law_476 dL_law_477 rfl dL_law_478 dL_law_479 ?_
  refine opx_V S hO1 kw3_150 yv_X11_outside (Nat.le_of_ble_eq_true rfl) hK hP hD hS hE (va_recv hK hP (ci := 8) (q0 := 0) rfl hm0) rfl hl.1 rfl (Nat.le_of_ble_eq_true rfl) dL_law_480 (by omega) (by omega) (fun w1 H1 locs1 c1 s1 hc1 hs1 hp1 hP hD hS => ?_)
  obtain ⟨hO3, km, fm, hm1⟩ := hO2 w1 hp1
  refine lv_aload_n hx hb dL_law_483 rfl (lv_at hl 1 rfl) ?_
  refine sc_ld (k := 1) hx hb hl hX hbl hS (by omega) hL dL_law_484 dL_law_485 dL_law_486 rfl dL_law_487 dL_law_488 ?_
  refine opx_V S hO3 kw5_131 yv_X12_outside (Nat.le_of_ble_eq_true rfl) hK hP hD hS hE (va_recv hK hP (ci := 9) (q0 := km) rfl hm1) rfl hl.1 rfl (Nat.le_of_ble_eq_true rfl) dL_law_489 (by omega) (by omega) (fun w2 H2 locs2 c2 s2 hc2 hs2 hp2 hP hD hS => ?_)
  refine lv_icmp_eq (tgt := 774) hx hb dL_law_492 (by decide) (fun _ => ?_) (fun h => absurd rfl h)
  exact kk w2 H2 locs2 c2 s2 (by omega) (by omega) hp2 hP hD hS
set_option maxHeartbeats 4000000 in
set_option maxRecDepth 100000 in
theorem law_word (S : CallFix p m c code 4 s args (cd :: lw_g) "TransitGateLaw") (hX : va_X b L xs s s.heap) (hbl : b < s.heap.size) (hL : L ≤ 3072) (hi : i + 6 ≤ L) (hK : va_K D vwCl (TYS cy) s) (hE : EX e0 (lwA s) s) (hJ : J cy ad mo am e0 N ws) (hN : N ≤ 1000) (hP : va_P D vwCl ws H) (hD : va_D (lwA s) ws) (hS : va_S (lwA s) s.heap H locs) (hc : cells + 10 ≤ 600000) (hs : slots + 1234 ≤ 7302249) (hl : lv_has ls 4 (lwL b (ad 0) mo i))
    (kk : ∀ (w : va_W) (H1 : Heap) (locs1 : List Loc) (c1 s1 : Nat), c1 ≤ cells + 10 → s1 ≤ slots + 1234 → J cy ad mo am e0 (N + 1) w → va_P D vwCl w H1 → va_D (lwA s) w → va_S (lwA s) s.heap H1 locs1 → W p l e room_1 s m args below meth c H1 locs1 c1 s1 Q (F0 m 774 ls [])) : W p l e room_1 s m args below meth c H locs cells slots Q (F0 m 497 ls []) := by
  have hx := S.1
  have hb := S.2.1
  have hown : s.vm.findClass "TransitGateLaw" = some m.cls := S.2.2.2.1
  have ht : ∀ w ∈ lw_g, w.before args s = true := fun w h => S.2.2.2.2 w (List.mem_cons_of_mem _ h)
  obtain ⟨f0, hm0⟩ := hJ.c0
  obtain ⟨v, P1, hO1, hO2⟩ := op_word (l := l) (D := D) hJ hN (xs (i + 1))
  refine lv_aload_n hx hb dL_law_497 rfl (lv_at hl 2 rfl) ?_
  refine sc_ld (k := 1) hx hb hl hX hbl hS (by omega) hL dL_law_498 dL_law_499 dL_law_500 rfl dL_law_501 dL_law_502 ?_
  refine opx_V S hO1 kw4_2 yv_X11_word (Nat.le_of_ble_eq_true rfl) hK hP hD hS hE (va_recv hK hP (ci := 8) (q0 := 0) rfl hm0) rfl hl.1 rfl (Nat.le_of_ble_eq_true rfl) dL_law_503 (by omega) (by omega) (fun w1 H1 locs1 c1 s1 hc1 hs1 hp1 hP hD hS => ?_)
  obtain ⟨hO3, km, fm, hm1⟩ := hO2 w1 hp1
  refine lv_aload_n hx hb dL_law_506 rfl (lv_at hl 1 rfl) ?_
  refine sc_ld (k := 1) hx hb hl hX hbl hS (by omega) hL dL_law_507 dL_law_508 dL_law_509 rfl dL_law_510 dL_law_511 ?_
  refine opx_V S hO3 kw5_166 yv_X12_word (Nat.le_of_ble_eq_true rfl) hK hP hD hS hE (va_recv hK hP (ci := 9) (q0 := km) rfl hm1) rfl hl.1 rfl (Nat.le_of_ble_eq_true rfl) dL_law_512 (by omega) (by omega) (fun w2 H2 locs2 c2 s2 hc2 hs2 hp2 hP hD hS => ?_)
  refine lv_icmp_eq (tgt := 774) hx hb dL_law_515 (by decide) (fun _ => ?_) (fun h => absurd rfl h)
  exact kk w2 H2 locs2 c2 s2 (by omega) (by omega) hp2 hP hD hS
set_option maxHeartbeats 4000000 in
set_option maxRecDepth 100000 in
theorem law_take (S : CallFix p m c code 4 s args (cd :: lw_g) "TransitGateLaw") (hX : va_X b L xs s s.heap) (hbl : b < s.heap.size) (hL : L ≤ 3072) (hi : i + 6 ≤ L) (hK : va_K D vwCl (TYS cy) s) (hE : EX e0 (lwA s) s) (hJ : J cy ad mo am e0 N ws) (hN : N ≤ 1000) (hP : va_P D vwCl ws H) (hD : va_D (lwA s) ws) (hS : va_S (lwA s) s.heap H locs) (hc : cells + 10 ≤ 600000) (hs : slots + 1234 ≤ 7302249) (hl : lv_has ls 4 (lwL b (ad 0) mo i))
    (kk : ∀ (w : va_W) (H1 : Heap) (locs1 : List Loc) (c1 s1 : Nat), c1 ≤ cells + 10 → s1 ≤ slots + 1234 → J cy ad mo am e0 (N + 1) w → va_P D vwCl w H1 → va_D (lwA s) w → va_S (lwA s) s.heap H1 locs1 → W p l e room_1 s m args below meth c H1 locs1 c1 s1 Q (F0 m 774 ls [])) : W p l e room_1 s m args below meth c H locs cells slots Q (F0 m 520 ls []) := by
  have hx := S.1
  have hb := S.2.1
  have hown : s.vm.findClass "TransitGateLaw" = some m.cls := S.2.2.2.1
  have ht : ∀ w ∈ lw_g, w.before args s = true := fun w h => S.2.2.2.2 w (List.mem_cons_of_mem _ h)
  obtain ⟨f0, hm0⟩ := hJ.c0
  obtain ⟨v, P1, hO1, hO2⟩ := op_take (l := l) (D := D) hJ hN 
  refine lv_aload_n hx hb dL_law_520 rfl (lv_at hl 2 rfl) ?_
  refine opx_V S hO1 kw4_6 yv_X11_take (Nat.le_of_ble_eq_true rfl) hK hP hD hS hE (va_recv hK hP (ci := 8) (q0 := 0) rfl hm0) rfl hl.1 rfl (Nat.le_of_ble_eq_true rfl) dL_law_521 (by omega) (by omega) (fun w1 H1 locs1 c1 s1 hc1 hs1 hp1 hP hD hS => ?_)
  obtain ⟨hO3, km, fm, hm1⟩ := hO2 w1 hp1
  refine lv_aload_n hx hb dL_law_524 rfl (lv_at hl 1 rfl) ?_
  refine opx_V S hO3 kw5_171 yv_X12_take (Nat.le_of_ble_eq_true rfl) hK hP hD hS hE (va_recv hK hP (ci := 9) (q0 := km) rfl hm1) rfl hl.1 rfl (Nat.le_of_ble_eq_true rfl) dL_law_525 (by omega) (by omega) (fun w2 H2 locs2 c2 s2 hc2 hs2 hp2 hP hD hS => ?_)
  refine lv_icmp_eq (tgt := 774) hx hb dL_law_528 (by decide) (fun _ => ?_) (fun h => absurd rfl h)
  exact kk w2 H2 locs2 c2 s2 (by omega) (by omega) hp2 hP hD hS
set_option maxHeartbeats 4000000 in
set_option maxRecDepth 100000 in
theorem law_bend (S : CallFix p m c code 4 s args (cd :: lw_g) "TransitGateLaw") (hX : va_X b L xs s s.heap) (hbl : b < s.heap.size) (hL : L ≤ 3072) (hi : i + 6 ≤ L) (hK : va_K D vwCl (TYS cy) s) (hE : EX e0 (lwA s) s) (hJ : J cy ad mo am e0 N ws) (hN : N ≤ 1000) (hP : va_P D vwCl ws H) (hD : va_D (lwA s) ws) (hS : va_S (lwA s) s.heap H locs) (hc : cells + 10 ≤ 600000) (hs : slots + 1234 ≤ 7302249) (hl : lv_has ls 4 (lwL b (ad 0) mo i))
    (kk : ∀ (w : va_W) (H1 : Heap) (locs1 : List Loc) (c1 s1 : Nat), c1 ≤ cells + 10 → s1 ≤ slots + 1234 → J cy ad mo am e0 (N + 1) w → va_P D vwCl w H1 → va_D (lwA s) w → va_S (lwA s) s.heap H1 locs1 → W p l e room_1 s m args below meth c H1 locs1 c1 s1 Q (F0 m 774 ls [])) : W p l e room_1 s m args below meth c H locs cells slots Q (F0 m 533 ls []) := by
  have hx := S.1
  have hb := S.2.1
  have hown : s.vm.findClass "TransitGateLaw" = some m.cls := S.2.2.2.1
  have ht : ∀ w ∈ lw_g, w.before args s = true := fun w h => S.2.2.2.2 w (List.mem_cons_of_mem _ h)
  obtain ⟨f0, hm0⟩ := hJ.c0
  obtain ⟨v, P1, hO1, hO2⟩ := op_bend (l := l) (D := D) hJ hN (xs (i + 1)) (xs (i + 2))
  refine lv_aload_n hx hb dL_law_533 rfl (lv_at hl 2 rfl) ?_
  refine sc_ld (k := 1) hx hb hl hX hbl hS (by omega) hL dL_law_534 dL_law_535 dL_law_536 rfl dL_law_537 dL_law_538 ?_
  refine sc_ld (k := 2) hx hb hl hX hbl hS (by omega) hL dL_law_539 dL_law_540 dL_law_541 rfl dL_law_542 dL_law_543 ?_
  refine opx_V S hO1 kw4_11 yv_X11_bend (Nat.le_of_ble_eq_true rfl) hK hP hD hS hE (va_recv hK hP (ci := 8) (q0 := 0) rfl hm0) rfl hl.1 rfl (Nat.le_of_ble_eq_true rfl) dL_law_544 (by omega) (by omega) (fun w1 H1 locs1 c1 s1 hc1 hs1 hp1 hP hD hS => ?_)
  obtain ⟨hO3, km, fm, hm1⟩ := hO2 w1 hp1
  refine lv_aload_n hx hb dL_law_547 rfl (lv_at hl 1 rfl) ?_
  refine sc_ld (k := 1) hx hb hl hX hbl hS (by omega) hL dL_law_548 dL_law_549 dL_law_550 rfl dL_law_551 dL_law_552 ?_
  refine sc_ld (k := 2) hx hb hl hX hbl hS (by omega) hL dL_law_553 dL_law_554 dL_law_555 rfl dL_law_556 dL_law_557 ?_
  refine opx_V S hO3 kw5_175 yv_X12_bend (Nat.le_of_ble_eq_true rfl) hK hP hD hS hE (va_recv hK hP (ci := 9) (q0 := km) rfl hm1) rfl hl.1 rfl (Nat.le_of_ble_eq_true rfl) dL_law_558 (by omega) (by omega) (fun w2 H2 locs2 c2 s2 hc2 hs2 hp2 hP hD hS => ?_)
  refine lv_icmp_eq (tgt := 774) hx hb dL_law_561 (by decide) (fun _ => ?_) (fun h => absurd rfl h)
  exact kk w2 H2 locs2 c2 s2 (by omega) (by omega) hp2 hP hD hS
set_option maxHeartbeats 4000000 in
set_option maxRecDepth 100000 in
theorem law_sign (S : CallFix p m c code 4 s args (cd :: lw_g) "TransitGateLaw") (hX : va_X b L xs s s.heap) (hbl : b < s.heap.size) (hL : L ≤ 3072) (hi : i + 6 ≤ L) (hK : va_K D vwCl (TYS cy) s) (hE : EX e0 (lwA s) s) (hJ : J cy ad mo am e0 N ws) (hN : N ≤ 1000) (hP : va_P D vwCl ws H) (hD : va_D (lwA s) ws) (hS : va_S (lwA s) s.heap H locs) (hc : cells + 10 ≤ 600000) (hs : slots + 1234 ≤ 7302249) (hl : lv_has ls 4 (lwL b (ad 0) mo i))
    (kk : ∀ (w : va_W) (H1 : Heap) (locs1 : List Loc) (c1 s1 : Nat), c1 ≤ cells + 10 → s1 ≤ slots + 1234 → J cy ad mo am e0 (N + 1) w → va_P D vwCl w H1 → va_D (lwA s) w → va_S (lwA s) s.heap H1 locs1 → W p l e room_1 s m args below meth c H1 locs1 c1 s1 Q (F0 m 774 ls [])) : W p l e room_1 s m args below meth c H locs cells slots Q (F0 m 566 ls []) := by
  have hx := S.1
  have hb := S.2.1
  have hown : s.vm.findClass "TransitGateLaw" = some m.cls := S.2.2.2.1
  have ht : ∀ w ∈ lw_g, w.before args s = true := fun w h => S.2.2.2.2 w (List.mem_cons_of_mem _ h)
  obtain ⟨f0, hm0⟩ := hJ.c0
  obtain ⟨v, P1, hO1, hO2⟩ := op_sign (l := l) (D := D) hJ hN (xs (i + 1)) (xs (i + 2))
  refine lv_aload_n hx hb dL_law_566 rfl (lv_at hl 2 rfl) ?_
  refine sc_ld (k := 1) hx hb hl hX hbl hS (by omega) hL dL_law_567 dL_law_568 dL_law_569 rfl dL_law_570 dL_law_571 ?_
  refine sc_ld (k := 2) hx hb hl hX hbl hS (by omega) hL dL_law_572 dL_law_573 dL_law_574 rfl dL_law_575 dL_law_576 ?_
  refine opx_V S hO1 kw4_16 yv_X11_sign (Nat.le_of_ble_eq_true rfl) hK hP hD hS hE (va_recv hK hP (ci := 8) (q0 := 0) rfl hm0) rfl hl.1 rfl (Nat.le_of_ble_eq_true rfl) dL_law_577 (by omega) (by omega) (fun w1 H1 locs1 c1 s1 hc1 hs1 hp1 hP hD hS => ?_)
  obtain ⟨hO3, km, fm, hm1⟩ := hO2 w1 hp1
  refine lv_aload_n hx hb dL_law_580 rfl (lv_at hl 1 rfl) ?_
  refine sc_ld (k := 1) hx hb hl hX hbl hS (by omega) hL dL_law_581 dL_law_582 dL_law_583 rfl dL_law_584 dL_law_585 ?_
  refine sc_ld (k := 2) hx hb hl hX hbl hS (by omega) hL dL_law_586 dL_law_587 dL_law_588 rfl dL_law_589 dL_law_590 ?_
  refine opx_V S hO3 kw5_179 yv_X12_sign (Nat.le_of_ble_eq_true rfl) hK hP hD hS hE (va_recv hK hP (ci := 9) (q0 := km) rfl hm1) rfl hl.1 rfl (Nat.le_of_ble_eq_true rfl) dL_law_591 (by omega) (by omega) (fun w2 H2 locs2 c2 s2 hc2 hs2 hp2 hP hD hS => ?_)
  refine lv_icmp_eq (tgt := 774) hx hb dL_law_594 (by decide) (fun _ => ?_) (fun h => absurd rfl h)
  exact kk w2 H2 locs2 c2 s2 (by omega) (by omega) hp2 hP hD hS
set_option maxHeartbeats 4000000 in
set_option maxRecDepth 100000 in
theorem law_signHead (S : CallFix p m c code 4 s args (cd :: lw_g) "TransitGateLaw") (hX : va_X b L xs s s.heap) (hbl : b < s.heap.size) (hL : L ≤ 3072) (hi : i + 6 ≤ L) (hK : va_K D vwCl (TYS cy) s) (hE : EX e0 (lwA s) s) (hJ : J cy ad mo am e0 N ws) (hN : N ≤ 1000) (hP : va_P D vwCl ws H) (hD : va_D (lwA s) ws) (hS : va_S (lwA s) s.heap H locs) (hc : cells + 10 ≤ 600000) (hs : slots + 1234 ≤ 7302249) (hl : lv_has ls 4 (lwL b (ad 0) mo i))
    (kk : ∀ (w : va_W) (H1 : Heap) (locs1 : List Loc) (c1 s1 : Nat), c1 ≤ cells + 10 → s1 ≤ slots + 1234 → J cy ad mo am e0 (N + 1) w → va_P D vwCl w H1 → va_D (lwA s) w → va_S (lwA s) s.heap H1 locs1 → W p l e room_1 s m args below meth c H1 locs1 c1 s1 Q (F0 m 774 ls [])) : W p l e room_1 s m args below meth c H locs cells slots Q (F0 m 599 ls []) := by
  have hx := S.1
  have hb := S.2.1
  have hown : s.vm.findClass "TransitGateLaw" = some m.cls := S.2.2.2.1
  have ht : ∀ w ∈ lw_g, w.before args s = true := fun w h => S.2.2.2.2 w (List.mem_cons_of_mem _ h)
  obtain ⟨f0, hm0⟩ := hJ.c0
  obtain ⟨v, P1, hO1, hO2⟩ := op_signHead (l := l) (D := D) hJ hN 
  refine lv_aload_n hx hb dL_law_599 rfl (lv_at hl 2 rfl) ?_
  refine opx_V S hO1 kw4_25 yv_X11_signHead (Nat.le_of_ble_eq_true rfl) hK hP hD hS hE (va_recv hK hP (ci := 8) (q0 := 0) rfl hm0) rfl hl.1 rfl (Nat.le_of_ble_eq_true rfl) dL_law_600 (by omega) (by omega) (fun w1 H1 locs1 c1 s1 hc1 hs1 hp1 hP hD hS => ?_)
  obtain ⟨hO3, km, fm, hm1⟩ := hO2 w1 hp1
  refine lv_aload_n hx hb dL_law_603 rfl (lv_at hl 1 rfl) ?_
  refine opx_V S hO3 kw5_185 yv_X12_signHead (Nat.le_of_ble_eq_true rfl) hK hP hD hS hE (va_recv hK hP (ci := 9) (q0 := km) rfl hm1) rfl hl.1 rfl (Nat.le_of_ble_eq_true rfl) dL_law_604 (by omega) (by omega) (fun w2 H2 locs2 c2 s2 hc2 hs2 hp2 hP hD hS => ?_)
  refine lv_icmp_eq (tgt := 774) hx hb dL_law_607 (by decide) (fun _ => ?_) (fun h => absurd rfl h)
  exact kk w2 H2 locs2 c2 s2 (by omega) (by omega) hp2 hP hD hS
set_option maxHeartbeats 4000000 in
set_option maxRecDepth 100000 in
theorem law_tick (S : CallFix p m c code 4 s args (cd :: lw_g) "TransitGateLaw") (hX : va_X b L xs s s.heap) (hbl : b < s.heap.size) (hL : L ≤ 3072) (hi : i + 6 ≤ L) (hK : va_K D vwCl (TYS cy) s) (hE : EX e0 (lwA s) s) (hJ : J cy ad mo am e0 N ws) (hN : N ≤ 1000) (hP : va_P D vwCl ws H) (hD : va_D (lwA s) ws) (hS : va_S (lwA s) s.heap H locs) (hc : cells + 10 ≤ 600000) (hs : slots + 1234 ≤ 7302249) (hl : lv_has ls 4 (lwL b (ad 0) mo i))
    (kk : ∀ (w : va_W) (H1 : Heap) (locs1 : List Loc) (c1 s1 : Nat), c1 ≤ cells + 10 → s1 ≤ slots + 1234 → J cy ad mo am e0 (N + 1) w → va_P D vwCl w H1 → va_D (lwA s) w → va_S (lwA s) s.heap H1 locs1 → W p l e room_1 s m args below meth c H1 locs1 c1 s1 Q (F0 m 774 ls [])) : W p l e room_1 s m args below meth c H locs cells slots Q (F0 m 612 ls []) := by
  have hx := S.1
  have hb := S.2.1
  have hown : s.vm.findClass "TransitGateLaw" = some m.cls := S.2.2.2.1
  have ht : ∀ w ∈ lw_g, w.before args s = true := fun w h => S.2.2.2.2 w (List.mem_cons_of_mem _ h)
  obtain ⟨f0, hm0⟩ := hJ.c0
  obtain ⟨v, P1, hO1, hO2⟩ := op_tick (l := l) (D := D) hJ hN (xs (i + 1))
  refine lv_aload_n hx hb dL_law_612 rfl (lv_at hl 2 rfl) ?_
  refine sc_ld (k := 1) hx hb hl hX hbl hS (by omega) hL dL_law_613 dL_law_614 dL_law_615 rfl dL_law_616 dL_law_617 ?_
  refine opx_V S hO1 kw4_30 yv_X11_tick (Nat.le_of_ble_eq_true rfl) hK hP hD hS hE (va_recv hK hP (ci := 8) (q0 := 0) rfl hm0) rfl hl.1 rfl (Nat.le_of_ble_eq_true rfl) dL_law_618 (by omega) (by omega) (fun w1 H1 locs1 c1 s1 hc1 hs1 hp1 hP hD hS => ?_)
  obtain ⟨hO3, km, fm, hm1⟩ := hO2 w1 hp1
  refine lv_aload_n hx hb dL_law_621 rfl (lv_at hl 1 rfl) ?_
  refine sc_ld (k := 1) hx hb hl hX hbl hS (by omega) hL dL_law_622 dL_law_623 dL_law_624 rfl dL_law_625 dL_law_626 ?_
  refine opx_V S hO3 kw5_9 yv_X12_tick (Nat.le_of_ble_eq_true rfl) hK hP hD hS hE (va_recv hK hP (ci := 9) (q0 := km) rfl hm1) rfl hl.1 rfl (Nat.le_of_ble_eq_true rfl) dL_law_627 (by omega) (by omega) (fun w2 H2 locs2 c2 s2 hc2 hs2 hp2 hP hD hS => ?_)
  refine lv_icmp_eq (tgt := 774) hx hb dL_law_630 (by decide) (fun _ => ?_) (fun h => absurd rfl h)
  exact kk w2 H2 locs2 c2 s2 (by omega) (by omega) hp2 hP hD hS
set_option maxHeartbeats 4000000 in
set_option maxRecDepth 100000 in
theorem law_binding (S : CallFix p m c code 4 s args (cd :: lw_g) "TransitGateLaw") (hX : va_X b L xs s s.heap) (hbl : b < s.heap.size) (hL : L ≤ 3072) (hi : i + 6 ≤ L) (hK : va_K D vwCl (TYS cy) s) (hE : EX e0 (lwA s) s) (hJ : J cy ad mo am e0 N ws) (hN : N ≤ 1000) (hP : va_P D vwCl ws H) (hD : va_D (lwA s) ws) (hS : va_S (lwA s) s.heap H locs) (hc : cells + 10 ≤ 600000) (hs : slots + 1234 ≤ 7302249) (hl : lv_has ls 4 (lwL b (ad 0) mo i))
    (kk : ∀ (w : va_W) (H1 : Heap) (locs1 : List Loc) (c1 s1 : Nat), c1 ≤ cells + 10 → s1 ≤ slots + 1234 → J cy ad mo am e0 (N + 1) w → va_P D vwCl w H1 → va_D (lwA s) w → va_S (lwA s) s.heap H1 locs1 → W p l e room_1 s m args below meth c H1 locs1 c1 s1 Q (F0 m 774 ls [])) : W p l e room_1 s m args below meth c H locs cells slots Q (F0 m 635 ls []) := by
  have hx := S.1
  have hb := S.2.1
  have hown : s.vm.findClass "TransitGateLaw" = some m.cls := S.2.2.2.1
  have ht : ∀ w ∈ lw_g, w.before args s = true := fun w h => S.2.2.2.2 w (List.mem_cons_of_mem _ h)
  obtain ⟨f0, hm0⟩ := hJ.c0
  obtain ⟨v, P1, hO1, hO2⟩ := op_binding (l := l) (D := D) hJ hN (xs (i + 1)) (xs (i + 2))
  refine lv_aload_n hx hb dL_law_635 rfl (lv_at hl 2 rfl) ?_
  refine sc_ld (k := 1) hx hb hl hX hbl hS (by omega) hL dL_law_636 dL_law_637 dL_law_638 rfl dL_law_639 dL_law_640 ?_
  refine sc_ld (k := 2) hx hb hl hX hbl hS (by omega) hL dL_law_641 dL_law_642 dL_law_643 rfl dL_law_644 dL_law_645 ?_
  refine opx_V S hO1 kw4_55 yv_X11_binding (Nat.le_of_ble_eq_true rfl) hK hP hD hS hE (va_recv hK hP (ci := 8) (q0 := 0) rfl hm0) rfl hl.1 rfl (Nat.le_of_ble_eq_true rfl) dL_law_646 (by omega) (by omega) (fun w1 H1 locs1 c1 s1 hc1 hs1 hp1 hP hD hS => ?_)
  obtain ⟨hO3, km, fm, hm1⟩ := hO2 w1 hp1
  refine lv_aload_n hx hb dL_law_649 rfl (lv_at hl 1 rfl) ?_
  refine sc_ld (k := 1) hx hb hl hX hbl hS (by omega) hL dL_law_650 dL_law_651 dL_law_652 rfl dL_law_653 dL_law_654 ?_
  refine sc_ld (k := 2) hx hb hl hX hbl hS (by omega) hL dL_law_655 dL_law_656 dL_law_657 rfl dL_law_658 dL_law_659 ?_
  refine opx_V S hO3 kw5_189 yv_X12_binding (Nat.le_of_ble_eq_true rfl) hK hP hD hS hE (va_recv hK hP (ci := 9) (q0 := km) rfl hm1) rfl hl.1 rfl (Nat.le_of_ble_eq_true rfl) dL_law_660 (by omega) (by omega) (fun w2 H2 locs2 c2 s2 hc2 hs2 hp2 hP hD hS => ?_)
  refine lv_icmp_eq (tgt := 774) hx hb dL_law_663 (by decide) (fun _ => ?_) (fun h => absurd rfl h)
  exact kk w2 H2 locs2 c2 s2 (by omega) (by omega) hp2 hP hD hS
set_option maxHeartbeats 4000000 in
set_option maxRecDepth 100000 in
theorem law_inner (S : CallFix p m c code 4 s args (cd :: lw_g) "TransitGateLaw") (hX : va_X b L xs s s.heap) (hbl : b < s.heap.size) (hL : L ≤ 3072) (hi : i + 6 ≤ L) (hK : va_K D vwCl (TYS cy) s) (hE : EX e0 (lwA s) s) (hJ : J cy ad mo am e0 N ws) (hN : N ≤ 1000) (hP : va_P D vwCl ws H) (hD : va_D (lwA s) ws) (hS : va_S (lwA s) s.heap H locs) (hc : cells + 10 ≤ 600000) (hs : slots + 1234 ≤ 7302249) (hl : lv_has ls 4 (lwL b (ad 0) mo i))
    (kk : ∀ (w : va_W) (H1 : Heap) (locs1 : List Loc) (c1 s1 : Nat), c1 ≤ cells + 10 → s1 ≤ slots + 1234 → J cy ad mo am e0 (N + 1) w → va_P D vwCl w H1 → va_D (lwA s) w → va_S (lwA s) s.heap H1 locs1 → W p l e room_1 s m args below meth c H1 locs1 c1 s1 Q (F0 m 774 ls [])) : W p l e room_1 s m args below meth c H locs cells slots Q (F0 m 668 ls []) := by
  have hx := S.1
  have hb := S.2.1
  have hown : s.vm.findClass "TransitGateLaw" = some m.cls := S.2.2.2.1
  have ht : ∀ w ∈ lw_g, w.before args s = true := fun w h => S.2.2.2.2 w (List.mem_cons_of_mem _ h)
  obtain ⟨f0, hm0⟩ := hJ.c0
  by_cases h0 : xs (i + 2) = 0
  · skip
    obtain ⟨v, P1, hO1, hO2⟩ := op_inner (l := l) (D := D) hJ hN (xs (i + 1)) false
    refine lv_aload_n hx hb dL_law_668 rfl (lv_at hl 2 rfl) ?_
    refine sc_ld (k := 1) hx hb hl hX hbl hS (by omega) hL dL_law_669 dL_law_670 dL_law_671 rfl dL_law_672 dL_law_673 ?_
    refine sc_ld (k := 2) hx hb hl hX hbl hS (by omega) hL dL_law_674 dL_law_675 dL_law_676 rfl dL_law_677 dL_law_678 ?_
    refine lv_if_eq (tgt := 686) hx hb dL_law_679 (by decide) (fun _ => ?_) (fun h => absurd h0 h)
    refine nv_iconst (k := 0) hx hb dL_law_686 rfl ?_
    refine opx_V S hO1 kw4_64 yv_X11_inner (Nat.le_of_ble_eq_true rfl) hK hP hD hS hE (va_recv hK hP (ci := 8) (q0 := 0) rfl hm0) rfl hl.1 rfl (Nat.le_of_ble_eq_true rfl) dL_law_687 (by omega) (by omega) (fun w1 H1 locs1 c1 s1 hc1 hs1 hp1 hP hD hS => ?_)
    obtain ⟨hO3, km, fm, hm1⟩ := hO2 w1 hp1
    refine lv_aload_n hx hb dL_law_690 rfl (lv_at hl 1 rfl) ?_
    refine sc_ld (k := 1) hx hb hl hX hbl hS (by omega) hL dL_law_691 dL_law_692 dL_law_693 rfl dL_law_694 dL_law_695 ?_
    refine sc_ld (k := 2) hx hb hl hX hbl hS (by omega) hL dL_law_696 dL_law_697 dL_law_698 rfl dL_law_699 dL_law_700 ?_
    refine lv_if_eq (tgt := 708) hx hb dL_law_701 (by decide) (fun _ => ?_) (fun h => absurd h0 h)
    refine nv_iconst (k := 0) hx hb dL_law_708 rfl ?_
    refine opx_V S hO3 kw5_193 yv_X12_inner (Nat.le_of_ble_eq_true rfl) hK hP hD hS hE (va_recv hK hP (ci := 9) (q0 := km) rfl hm1) rfl hl.1 rfl (Nat.le_of_ble_eq_true rfl) dL_law_709 (by omega) (by omega) (fun w2 H2 locs2 c2 s2 hc2 hs2 hp2 hP hD hS => ?_)
    refine nv_lcmp_eq (tgt := 774) hx hb dL_law_712 dL_law_713 (by decide) (fun _ => ?_) (fun h => absurd rfl h)
    exact kk w2 H2 locs2 c2 s2 (by omega) (by omega) hp2 hP hD hS
  · skip
    obtain ⟨v, P1, hO1, hO2⟩ := op_inner (l := l) (D := D) hJ hN (xs (i + 1)) true
    refine lv_aload_n hx hb dL_law_668 rfl (lv_at hl 2 rfl) ?_
    refine sc_ld (k := 1) hx hb hl hX hbl hS (by omega) hL dL_law_669 dL_law_670 dL_law_671 rfl dL_law_672 dL_law_673 ?_
    refine sc_ld (k := 2) hx hb hl hX hbl hS (by omega) hL dL_law_674 dL_law_675 dL_law_676 rfl dL_law_677 dL_law_678 ?_
    refine lv_if_eq (tgt := 686) hx hb dL_law_679 (by decide) (fun h => absurd h h0) (fun _ => ?_)
    refine nv_iconst (k := 1) hx hb dL_law_682 rfl ?_
    refine lv_goto (tgt := 687) hx hb dL_law_683 (by decide) ?_
    refine opx_V S hO1 kw4_64 yv_X11_inner (Nat.le_of_ble_eq_true rfl) hK hP hD hS hE (va_recv hK hP (ci := 8) (q0 := 0) rfl hm0) rfl hl.1 rfl (Nat.le_of_ble_eq_true rfl) dL_law_687 (by omega) (by omega) (fun w1 H1 locs1 c1 s1 hc1 hs1 hp1 hP hD hS => ?_)
    obtain ⟨hO3, km, fm, hm1⟩ := hO2 w1 hp1
    refine lv_aload_n hx hb dL_law_690 rfl (lv_at hl 1 rfl) ?_
    refine sc_ld (k := 1) hx hb hl hX hbl hS (by omega) hL dL_law_691 dL_law_692 dL_law_693 rfl dL_law_694 dL_law_695 ?_
    refine sc_ld (k := 2) hx hb hl hX hbl hS (by omega) hL dL_law_696 dL_law_697 dL_law_698 rfl dL_law_699 dL_law_700 ?_
    refine lv_if_eq (tgt := 708) hx hb dL_law_701 (by decide) (fun h => absurd h h0) (fun _ => ?_)
    refine nv_iconst (k := 1) hx hb dL_law_704 rfl ?_
    refine lv_goto (tgt := 709) hx hb dL_law_705 (by decide) ?_
    refine opx_V S hO3 kw5_193 yv_X12_inner (Nat.le_of_ble_eq_true rfl) hK hP hD hS hE (va_recv hK hP (ci := 9) (q0 := km) rfl hm1) rfl hl.1 rfl (Nat.le_of_ble_eq_true rfl) dL_law_709 (by omega) (by omega) (fun w2 H2 locs2 c2 s2 hc2 hs2 hp2 hP hD hS => ?_)
    refine nv_lcmp_eq (tgt := 774) hx hb dL_law_712 dL_law_713 (by decide) (fun _ => ?_) (fun h => absurd rfl h)
    exact kk w2 H2 locs2 c2 s2 (by omega) (by omega) hp2 hP hD hS
set_option maxHeartbeats 4000000 in
set_option maxRecDepth 100000 in
theorem law_session (S : CallFix p m c code 4 s args (cd :: lw_g) "TransitGateLaw") (hX : va_X b L xs s s.heap) (hbl : b < s.heap.size) (hL : L ≤ 3072) (hi : i + 6 ≤ L) (hK : va_K D vwCl (TYS cy) s) (hE : EX e0 (lwA s) s) (hJ : J cy ad mo am e0 N ws) (hN : N ≤ 1000) (hP : va_P D vwCl ws H) (hD : va_D (lwA s) ws) (hS : va_S (lwA s) s.heap H locs) (hc : cells + 10 ≤ 600000) (hs : slots + 1234 ≤ 7302249) (hl : lv_has ls 4 (lwL b (ad 0) mo i))
    (kk : ∀ (w : va_W) (H1 : Heap) (locs1 : List Loc) (c1 s1 : Nat), c1 ≤ cells + 10 → s1 ≤ slots + 1234 → J cy ad mo am e0 (N + 1) w → va_P D vwCl w H1 → va_D (lwA s) w → va_S (lwA s) s.heap H1 locs1 → W p l e room_1 s m args below meth c H1 locs1 c1 s1 Q (F0 m 774 ls [])) : W p l e room_1 s m args below meth c H locs cells slots Q (F0 m 718 ls []) := by
  have hx := S.1
  have hb := S.2.1
  have hown : s.vm.findClass "TransitGateLaw" = some m.cls := S.2.2.2.1
  have ht : ∀ w ∈ lw_g, w.before args s = true := fun w h => S.2.2.2.2 w (List.mem_cons_of_mem _ h)
  obtain ⟨f0, hm0⟩ := hJ.c0
  obtain ⟨v, P1, hO1, hO2⟩ := op_session (l := l) (D := D) hJ hN (xs (i + 1)) (xs (i + 2))
  refine lv_aload_n hx hb dL_law_718 rfl (lv_at hl 2 rfl) ?_
  refine sc_ld (k := 1) hx hb hl hX hbl hS (by omega) hL dL_law_719 dL_law_720 dL_law_721 rfl dL_law_722 dL_law_723 ?_
  refine sc_ld (k := 2) hx hb hl hX hbl hS (by omega) hL dL_law_724 dL_law_725 dL_law_726 rfl dL_law_727 dL_law_728 ?_
  refine opx_V S hO1 kw4_68 yv_X11_session (Nat.le_of_ble_eq_true rfl) hK hP hD hS hE (va_recv hK hP (ci := 8) (q0 := 0) rfl hm0) rfl hl.1 rfl (Nat.le_of_ble_eq_true rfl) dL_law_729 (by omega) (by omega) (fun w1 H1 locs1 c1 s1 hc1 hs1 hp1 hP hD hS => ?_)
  obtain ⟨hO3, km, fm, hm1⟩ := hO2 w1 hp1
  refine lv_aload_n hx hb dL_law_732 rfl (lv_at hl 1 rfl) ?_
  refine sc_ld (k := 1) hx hb hl hX hbl hS (by omega) hL dL_law_733 dL_law_734 dL_law_735 rfl dL_law_736 dL_law_737 ?_
  refine sc_ld (k := 2) hx hb hl hX hbl hS (by omega) hL dL_law_738 dL_law_739 dL_law_740 rfl dL_law_741 dL_law_742 ?_
  refine opx_V S hO3 kw5_197 yv_X12_session (Nat.le_of_ble_eq_true rfl) hK hP hD hS hE (va_recv hK hP (ci := 9) (q0 := km) rfl hm1) rfl hl.1 rfl (Nat.le_of_ble_eq_true rfl) dL_law_743 (by omega) (by omega) (fun w2 H2 locs2 c2 s2 hc2 hs2 hp2 hP hD hS => ?_)
  refine lv_icmp_eq (tgt := 774) hx hb dL_law_746 (by decide) (fun _ => ?_) (fun h => absurd rfl h)
  exact kk w2 H2 locs2 c2 s2 (by omega) (by omega) hp2 hP hD hS
set_option maxHeartbeats 4000000 in
set_option maxRecDepth 100000 in
theorem law_count (S : CallFix p m c code 4 s args (cd :: lw_g) "TransitGateLaw") (hX : va_X b L xs s s.heap) (hbl : b < s.heap.size) (hL : L ≤ 3072) (hi : i + 6 ≤ L) (hK : va_K D vwCl (TYS cy) s) (hE : EX e0 (lwA s) s) (hJ : J cy ad mo am e0 N ws) (hN : N ≤ 1000) (hP : va_P D vwCl ws H) (hD : va_D (lwA s) ws) (hS : va_S (lwA s) s.heap H locs) (hc : cells + 10 ≤ 600000) (hs : slots + 1234 ≤ 7302249) (hl : lv_has ls 4 (lwL b (ad 0) mo i))
    (kk : ∀ (w : va_W) (H1 : Heap) (locs1 : List Loc) (c1 s1 : Nat), c1 ≤ cells + 10 → s1 ≤ slots + 1234 → J cy ad mo am e0 (N + 1) w → va_P D vwCl w H1 → va_D (lwA s) w → va_S (lwA s) s.heap H1 locs1 → W p l e room_1 s m args below meth c H1 locs1 c1 s1 Q (F0 m 774 ls [])) : W p l e room_1 s m args below meth c H locs cells slots Q (F0 m 751 ls []) := by
  have hx := S.1
  have hb := S.2.1
  have hown : s.vm.findClass "TransitGateLaw" = some m.cls := S.2.2.2.1
  have ht : ∀ w ∈ lw_g, w.before args s = true := fun w h => S.2.2.2.2 w (List.mem_cons_of_mem _ h)
  obtain ⟨f0, hm0⟩ := hJ.c0
  obtain ⟨v, P1, hO1, hO2⟩ := op_count (l := l) (D := D) hJ hN (xs (i + 1))
  refine lv_aload_n hx hb dL_law_751 rfl (lv_at hl 2 rfl) ?_
  refine sc_ld (k := 1) hx hb hl hX hbl hS (by omega) hL dL_law_752 dL_law_753 dL_law_754 rfl dL_law_755 dL_law_756 ?_
  refine opx_V S hO1 kw4_84 yv_X11_count (Nat.le_of_ble_eq_true rfl) hK hP hD hS hE (va_recv hK hP (ci := 8) (q0 := 0) rfl hm0) rfl hl.1 rfl (Nat.le_of_ble_eq_true rfl) dL_law_757 (by omega) (by omega) (fun w1 H1 locs1 c1 s1 hc1 hs1 hp1 hP hD hS => ?_)
  obtain ⟨hO3, km, fm, hm1⟩ := hO2 w1 hp1
  refine lv_aload_n hx hb dL_law_760 rfl (lv_at hl 1 rfl) ?_
  refine sc_ld (k := 1) hx hb hl hX hbl hS (by omega) hL dL_law_761 dL_law_762 dL_law_763 rfl dL_law_764 dL_law_765 ?_
  refine opx_V S hO3 kw5_201 yv_X12_count (Nat.le_of_ble_eq_true rfl) hK hP hD hS hE (va_recv hK hP (ci := 9) (q0 := km) rfl hm1) rfl hl.1 rfl (Nat.le_of_ble_eq_true rfl) dL_law_766 (by omega) (by omega) (fun w2 H2 locs2 c2 s2 hc2 hs2 hp2 hP hD hS => ?_)
  refine lv_icmp_eq (tgt := 774) hx hb dL_law_769 (by decide) (fun _ => ?_) (fun h => absurd rfl h)
  exact kk w2 H2 locs2 c2 s2 (by omega) (by omega) hp2 hP hD hS
end LW
