theorem dX12_makeInner_0 : decode cX12_makeInner 0 = .ok (.aload_n 0, 1) := by decide +kernel
theorem dX12_makeInner_1 : decode cX12_makeInner 1 = .ok (.aload_n 0, 1) := by decide +kernel
theorem dX12_makeInner_2 : decode cX12_makeInner 2 = .ok (.getfield 121, 3) := by decide +kernel
theorem dX12_makeInner_5 : decode cX12_makeInner 5 = .ok (.bipush 20, 2) := by decide +kernel
theorem dX12_makeInner_7 : decode cX12_makeInner 7 = .ok (.isub, 1) := by decide +kernel
theorem dX12_makeInner_8 : decode cX12_makeInner 8 = .ok (.putfield 234, 3) := by decide +kernel
theorem dX12_makeInner_11 : decode cX12_makeInner 11 = .ok (.aload_n 0, 1) := by decide +kernel
theorem dX12_makeInner_12 : decode cX12_makeInner 12 = .ok (.getfield 13, 3) := by decide +kernel
theorem dX12_makeInner_15 : decode cX12_makeInner 15 = .ok (.iconst 0, 1) := by decide +kernel
theorem dX12_makeInner_16 : decode cX12_makeInner 16 = .ok (.iconst 1, 1) := by decide +kernel
theorem dX12_makeInner_17 : decode cX12_makeInner 17 = .ok (.ldc2_w 237, 3) := by decide +kernel
theorem dX12_makeInner_20 : decode cX12_makeInner 20 = .ok (.invokestatic 239, 3) := by decide +kernel
theorem dX12_makeInner_23 : decode cX12_makeInner 23 = .ok (.aload_n 0, 1) := by decide +kernel
theorem dX12_makeInner_24 : decode cX12_makeInner 24 = .ok (.getfield 13, 3) := by decide +kernel
theorem dX12_makeInner_27 : decode cX12_makeInner 27 = .ok (.iconst 1, 1) := by decide +kernel
theorem dX12_makeInner_28 : decode cX12_makeInner 28 = .ok (.iconst 1, 1) := by decide +kernel
theorem dX12_makeInner_29 : decode cX12_makeInner 29 = .ok (.aload_n 0, 1) := by decide +kernel
theorem dX12_makeInner_30 : decode cX12_makeInner 30 = .ok (.getfield 16, 3) := by decide +kernel
theorem dX12_makeInner_33 : decode cX12_makeInner 33 = .ok (.iconst 0, 1) := by decide +kernel
theorem dX12_makeInner_34 : decode cX12_makeInner 34 = .ok (.invokestatic 128, 3) := by decide +kernel
theorem dX12_makeInner_37 : decode cX12_makeInner 37 = .ok (.iconst 4, 1) := by decide +kernel
theorem dX12_makeInner_38 : decode cX12_makeInner 38 = .ok (.ishr, 1) := by decide +kernel
theorem dX12_makeInner_39 : decode cX12_makeInner 39 = .ok (.sipush 255, 3) := by decide +kernel
theorem dX12_makeInner_42 : decode cX12_makeInner 42 = .ok (.iand, 1) := by decide +kernel
theorem dX12_makeInner_43 : decode cX12_makeInner 43 = .ok (.i2l, 1) := by decide +kernel
theorem dX12_makeInner_44 : decode cX12_makeInner 44 = .ok (.invokestatic 239, 3) := by decide +kernel
theorem dX12_makeInner_47 : decode cX12_makeInner 47 = .ok (.aload_n 0, 1) := by decide +kernel
theorem dX12_makeInner_48 : decode cX12_makeInner 48 = .ok (.getfield 13, 3) := by decide +kernel
theorem dX12_makeInner_51 : decode cX12_makeInner 51 = .ok (.iconst 2, 1) := by decide +kernel
theorem dX12_makeInner_52 : decode cX12_makeInner 52 = .ok (.iconst 2, 1) := by decide +kernel
theorem dX12_makeInner_53 : decode cX12_makeInner 53 = .ok (.aload_n 0, 1) := by decide +kernel
theorem dX12_makeInner_54 : decode cX12_makeInner 54 = .ok (.getfield 234, 3) := by decide +kernel
theorem dX12_makeInner_57 : decode cX12_makeInner 57 = .ok (.i2l, 1) := by decide +kernel
theorem dX12_makeInner_58 : decode cX12_makeInner 58 = .ok (.invokestatic 239, 3) := by decide +kernel
theorem dX12_makeInner_61 : decode cX12_makeInner 61 = .ok (.aload_n 0, 1) := by decide +kernel
theorem dX12_makeInner_62 : decode cX12_makeInner 62 = .ok (.getfield 234, 3) := by decide +kernel
theorem dX12_makeInner_65 : decode cX12_makeInner 65 = .ok (.sipush 1260, 3) := by decide +kernel
theorem dX12_makeInner_68 : decode cX12_makeInner 68 = .ok (.if_icmp .gt 7, 3) := by decide +kernel
theorem dX12_makeInner_71 : decode cX12_makeInner 71 = .ok (.iconst 1, 1) := by decide +kernel
theorem dX12_makeInner_72 : decode cX12_makeInner 72 = .ok (.goto 4, 3) := by decide +kernel
theorem dX12_makeInner_75 : decode cX12_makeInner 75 = .ok (.iconst 0, 1) := by decide +kernel
theorem dX12_makeInner_76 : decode cX12_makeInner 76 = .ok (.istore 4, 2) := by decide +kernel
theorem dX12_makeInner_78 : decode cX12_makeInner 78 = .ok (.aload_n 0, 1) := by decide +kernel
theorem dX12_makeInner_79 : decode cX12_makeInner 79 = .ok (.getfield 13, 3) := by decide +kernel
theorem dX12_makeInner_82 : decode cX12_makeInner 82 = .ok (.iconst 4, 1) := by decide +kernel
theorem dX12_makeInner_83 : decode cX12_makeInner 83 = .ok (.iconst 2, 1) := by decide +kernel
theorem dX12_makeInner_84 : decode cX12_makeInner 84 = .ok (.iload 4, 2) := by decide +kernel
theorem dX12_makeInner_86 : decode cX12_makeInner 86 = .ok (.ifCond .eq 11, 3) := by decide +kernel
theorem dX12_makeInner_89 : decode cX12_makeInner 89 = .ok (.aload_n 0, 1) := by decide +kernel
theorem dX12_makeInner_90 : decode cX12_makeInner 90 = .ok (.getfield 60, 3) := by decide +kernel
theorem dX12_makeInner_93 : decode cX12_makeInner 93 = .ok (.i2l, 1) := by decide +kernel
theorem dX12_makeInner_94 : decode cX12_makeInner 94 = .ok (.goto 4, 3) := by decide +kernel
theorem dX12_makeInner_97 : decode cX12_makeInner 97 = .ok (.lconst 0, 1) := by decide +kernel
theorem dX12_makeInner_98 : decode cX12_makeInner 98 = .ok (.invokestatic 239, 3) := by decide +kernel
theorem dX12_makeInner_101 : decode cX12_makeInner 101 = .ok (.aload_n 0, 1) := by decide +kernel
theorem dX12_makeInner_102 : decode cX12_makeInner 102 = .ok (.getfield 13, 3) := by decide +kernel
theorem dX12_makeInner_105 : decode cX12_makeInner 105 = .ok (.bipush 6, 2) := by decide +kernel
theorem dX12_makeInner_107 : decode cX12_makeInner 107 = .ok (.iconst 2, 1) := by decide +kernel
theorem dX12_makeInner_108 : decode cX12_makeInner 108 = .ok (.iload 4, 2) := by decide +kernel
theorem dX12_makeInner_110 : decode cX12_makeInner 110 = .ok (.ifCond .eq 7, 3) := by decide +kernel
theorem dX12_makeInner_113 : decode cX12_makeInner 113 = .ok (.lconst 0, 1) := by decide +kernel
theorem dX12_makeInner_114 : decode cX12_makeInner 114 = .ok (.goto 6, 3) := by decide +kernel
theorem dX12_makeInner_117 : decode cX12_makeInner 117 = .ok (.ldc2_w 243, 3) := by decide +kernel
theorem dX12_makeInner_120 : decode cX12_makeInner 120 = .ok (.invokestatic 239, 3) := by decide +kernel
theorem dX12_makeInner_123 : decode cX12_makeInner 123 = .ok (.iload 4, 2) := by decide +kernel
theorem dX12_makeInner_125 : decode cX12_makeInner 125 = .ok (.ifCond .eq 26, 3) := by decide +kernel
theorem dX12_makeInner_128 : decode cX12_makeInner 128 = .ok (.aload_n 0, 1) := by decide +kernel
theorem dX12_makeInner_129 : decode cX12_makeInner 129 = .ok (.aload_n 0, 1) := by decide +kernel
theorem dX12_makeInner_130 : decode cX12_makeInner 130 = .ok (.getfield 60, 3) := by decide +kernel
theorem dX12_makeInner_133 : decode cX12_makeInner 133 = .ok (.ldc 144, 2) := by decide +kernel
theorem dX12_makeInner_135 : decode cX12_makeInner 135 = .ok (.if_icmp .ne 7, 3) := by decide +kernel
theorem dX12_makeInner_138 : decode cX12_makeInner 138 = .ok (.iconst 1, 1) := by decide +kernel
theorem dX12_makeInner_139 : decode cX12_makeInner 139 = .ok (.goto 9, 3) := by decide +kernel
theorem dX12_makeInner_142 : decode cX12_makeInner 142 = .ok (.aload_n 0, 1) := by decide +kernel
theorem dX12_makeInner_143 : decode cX12_makeInner 143 = .ok (.getfield 60, 3) := by decide +kernel
theorem dX12_makeInner_146 : decode cX12_makeInner 146 = .ok (.iconst 1, 1) := by decide +kernel
theorem dX12_makeInner_147 : decode cX12_makeInner 147 = .ok (.iadd, 1) := by decide +kernel
theorem dX12_makeInner_148 : decode cX12_makeInner 148 = .ok (.putfield 60, 3) := by decide +kernel
theorem dX12_makeInner_151 : decode cX12_makeInner 151 = .ok (.aload_n 0, 1) := by decide +kernel
theorem dX12_makeInner_152 : decode cX12_makeInner 152 = .ok (.getfield 13, 3) := by decide +kernel
theorem dX12_makeInner_155 : decode cX12_makeInner 155 = .ok (.bipush 8, 2) := by decide +kernel
theorem dX12_makeInner_157 : decode cX12_makeInner 157 = .ok (.iconst 1, 1) := by decide +kernel
theorem dX12_makeInner_158 : decode cX12_makeInner 158 = .ok (.aload_n 0, 1) := by decide +kernel
theorem dX12_makeInner_159 : decode cX12_makeInner 159 = .ok (.getfield 16, 3) := by decide +kernel
theorem dX12_makeInner_162 : decode cX12_makeInner 162 = .ok (.bipush 7, 2) := by decide +kernel
theorem dX12_makeInner_164 : decode cX12_makeInner 164 = .ok (.invokestatic 124, 3) := by decide +kernel
theorem dX12_makeInner_167 : decode cX12_makeInner 167 = .ok (.iconst 1, 1) := by decide +kernel
theorem dX12_makeInner_168 : decode cX12_makeInner 168 = .ok (.isub, 1) := by decide +kernel
theorem dX12_makeInner_169 : decode cX12_makeInner 169 = .ok (.i2l, 1) := by decide +kernel
theorem dX12_makeInner_170 : decode cX12_makeInner 170 = .ok (.invokestatic 239, 3) := by decide +kernel
theorem dX12_makeInner_173 : decode cX12_makeInner 173 = .ok (.aload_n 0, 1) := by decide +kernel
theorem dX12_makeInner_174 : decode cX12_makeInner 174 = .ok (.getfield 13, 3) := by decide +kernel
theorem dX12_makeInner_177 : decode cX12_makeInner 177 = .ok (.bipush 9, 2) := by decide +kernel
theorem dX12_makeInner_179 : decode cX12_makeInner 179 = .ok (.iconst 1, 1) := by decide +kernel
theorem dX12_makeInner_180 : decode cX12_makeInner 180 = .ok (.iload_n 1, 1) := by decide +kernel
theorem dX12_makeInner_181 : decode cX12_makeInner 181 = .ok (.i2l, 1) := by decide +kernel
theorem dX12_makeInner_182 : decode cX12_makeInner 182 = .ok (.invokestatic 239, 3) := by decide +kernel
theorem dX12_makeInner_185 : decode cX12_makeInner 185 = .ok (.aload_n 0, 1) := by decide +kernel
theorem dX12_makeInner_186 : decode cX12_makeInner 186 = .ok (.getfield 13, 3) := by decide +kernel
theorem dX12_makeInner_189 : decode cX12_makeInner 189 = .ok (.bipush 10, 2) := by decide +kernel
theorem dX12_makeInner_191 : decode cX12_makeInner 191 = .ok (.iconst 2, 1) := by decide +kernel
theorem dX12_makeInner_192 : decode cX12_makeInner 192 = .ok (.lconst 0, 1) := by decide +kernel
theorem dX12_makeInner_193 : decode cX12_makeInner 193 = .ok (.invokestatic 239, 3) := by decide +kernel
theorem dX12_makeInner_196 : decode cX12_makeInner 196 = .ok (.aload_n 0, 1) := by decide +kernel
theorem dX12_makeInner_197 : decode cX12_makeInner 197 = .ok (.getfield 13, 3) := by decide +kernel
theorem dX12_makeInner_200 : decode cX12_makeInner 200 = .ok (.bipush 12, 2) := by decide +kernel
theorem dX12_makeInner_202 : decode cX12_makeInner 202 = .ok (.iconst 4, 1) := by decide +kernel
theorem dX12_makeInner_203 : decode cX12_makeInner 203 = .ok (.aload_n 0, 1) := by decide +kernel
theorem dX12_makeInner_204 : decode cX12_makeInner 204 = .ok (.getfield 19, 3) := by decide +kernel
theorem dX12_makeInner_207 : decode cX12_makeInner 207 = .ok (.aload_n 0, 1) := by decide +kernel
theorem dX12_makeInner_208 : decode cX12_makeInner 208 = .ok (.getfield 36, 3) := by decide +kernel
theorem dX12_makeInner_211 : decode cX12_makeInner 211 = .ok (.iload_n 2, 1) := by decide +kernel
theorem dX12_makeInner_212 : decode cX12_makeInner 212 = .ok (.iaload, 1) := by decide +kernel
theorem dX12_makeInner_213 : decode cX12_makeInner 213 = .ok (.iaload, 1) := by decide +kernel
theorem dX12_makeInner_214 : decode cX12_makeInner 214 = .ok (.i2l, 1) := by decide +kernel
theorem dX12_makeInner_215 : decode cX12_makeInner 215 = .ok (.invokestatic 239, 3) := by decide +kernel
theorem dX12_makeInner_218 : decode cX12_makeInner 218 = .ok (.aload_n 0, 1) := by decide +kernel
theorem dX12_makeInner_219 : decode cX12_makeInner 219 = .ok (.getfield 13, 3) := by decide +kernel
theorem dX12_makeInner_222 : decode cX12_makeInner 222 = .ok (.bipush 16, 2) := by decide +kernel
theorem dX12_makeInner_224 : decode cX12_makeInner 224 = .ok (.iconst 4, 1) := by decide +kernel
theorem dX12_makeInner_225 : decode cX12_makeInner 225 = .ok (.iload_n 3, 1) := by decide +kernel
theorem dX12_makeInner_226 : decode cX12_makeInner 226 = .ok (.i2l, 1) := by decide +kernel
theorem dX12_makeInner_227 : decode cX12_makeInner 227 = .ok (.invokestatic 239, 3) := by decide +kernel
theorem dX12_makeInner_230 : decode cX12_makeInner 230 = .ok (.aload_n 0, 1) := by decide +kernel
theorem dX12_makeInner_231 : decode cX12_makeInner 231 = .ok (.getfield 13, 3) := by decide +kernel
theorem dX12_makeInner_234 : decode cX12_makeInner 234 = .ok (.bipush 10, 2) := by decide +kernel
theorem dX12_makeInner_236 : decode cX12_makeInner 236 = .ok (.iconst 2, 1) := by decide +kernel
theorem dX12_makeInner_237 : decode cX12_makeInner 237 = .ok (.aload_n 0, 1) := by decide +kernel
theorem dX12_makeInner_238 : decode cX12_makeInner 238 = .ok (.getfield 13, 3) := by decide +kernel
theorem dX12_makeInner_241 : decode cX12_makeInner 241 = .ok (.invokestatic 245, 3) := by decide +kernel
theorem dX12_makeInner_244 : decode cX12_makeInner 244 = .ok (.i2l, 1) := by decide +kernel
theorem dX12_makeInner_245 : decode cX12_makeInner 245 = .ok (.invokestatic 239, 3) := by decide +kernel
theorem dX12_makeInner_248 : decode cX12_makeInner 248 = .ok (.bipush 40, 2) := by decide +kernel
theorem dX12_makeInner_250 : decode cX12_makeInner 250 = .ok (.istore 5, 2) := by decide +kernel
theorem dX12_makeInner_252 : decode cX12_makeInner 252 = .ok (.iload 5, 2) := by decide +kernel
theorem dX12_makeInner_254 : decode cX12_makeInner 254 = .ok (.aload_n 0, 1) := by decide +kernel
theorem dX12_makeInner_255 : decode cX12_makeInner 255 = .ok (.getfield 121, 3) := by decide +kernel
theorem dX12_makeInner_258 : decode cX12_makeInner 258 = .ok (.if_icmp .ge 26, 3) := by decide +kernel
theorem dX12_makeInner_261 : decode cX12_makeInner 261 = .ok (.aload_n 0, 1) := by decide +kernel
theorem dX12_makeInner_262 : decode cX12_makeInner 262 = .ok (.getfield 13, 3) := by decide +kernel
theorem dX12_makeInner_265 : decode cX12_makeInner 265 = .ok (.iload 5, 2) := by decide +kernel
theorem dX12_makeInner_267 : decode cX12_makeInner 267 = .ok (.bipush 20, 2) := by decide +kernel
theorem dX12_makeInner_269 : decode cX12_makeInner 269 = .ok (.isub, 1) := by decide +kernel
theorem dX12_makeInner_270 : decode cX12_makeInner 270 = .ok (.aload_n 0, 1) := by decide +kernel
theorem dX12_makeInner_271 : decode cX12_makeInner 271 = .ok (.getfield 16, 3) := by decide +kernel
theorem dX12_makeInner_274 : decode cX12_makeInner 274 = .ok (.iload 5, 2) := by decide +kernel
theorem dX12_makeInner_276 : decode cX12_makeInner 276 = .ok (.baload, 1) := by decide +kernel
theorem dX12_makeInner_277 : decode cX12_makeInner 277 = .ok (.bastore, 1) := by decide +kernel
theorem dX12_makeInner_278 : decode cX12_makeInner 278 = .ok (.iinc 5 1, 3) := by decide +kernel
theorem dX12_makeInner_281 : decode cX12_makeInner 281 = .ok (.goto (-29), 3) := by decide +kernel
theorem dX12_makeInner_284 : decode cX12_makeInner 284 = .ok (.iload_n 1, 1) := by decide +kernel
theorem dX12_makeInner_285 : decode cX12_makeInner 285 = .ok (.iconst 1, 1) := by decide +kernel
theorem dX12_makeInner_286 : decode cX12_makeInner 286 = .ok (.if_icmp .ne 55, 3) := by decide +kernel
theorem dX12_makeInner_289 : decode cX12_makeInner 289 = .ok (.aload_n 0, 1) := by decide +kernel
theorem dX12_makeInner_290 : decode cX12_makeInner 290 = .ok (.getfield 13, 3) := by decide +kernel
theorem dX12_makeInner_293 : decode cX12_makeInner 293 = .ok (.bipush 20, 2) := by decide +kernel
theorem dX12_makeInner_295 : decode cX12_makeInner 295 = .ok (.iconst 1, 1) := by decide +kernel
theorem dX12_makeInner_296 : decode cX12_makeInner 296 = .ok (.aload_n 0, 1) := by decide +kernel
theorem dX12_makeInner_297 : decode cX12_makeInner 297 = .ok (.getfield 16, 3) := by decide +kernel
theorem dX12_makeInner_300 : decode cX12_makeInner 300 = .ok (.bipush 40, 2) := by decide +kernel
theorem dX12_makeInner_302 : decode cX12_makeInner 302 = .ok (.invokestatic 124, 3) := by decide +kernel
theorem dX12_makeInner_305 : decode cX12_makeInner 305 = .ok (.sipush 128, 3) := by decide +kernel
theorem dX12_makeInner_308 : decode cX12_makeInner 308 = .ok (.if_icmp .ne 9, 3) := by decide +kernel
theorem dX12_makeInner_311 : decode cX12_makeInner 311 = .ok (.ldc2_w 249, 3) := by decide +kernel
theorem dX12_makeInner_314 : decode cX12_makeInner 314 = .ok (.goto 4, 3) := by decide +kernel
theorem dX12_makeInner_317 : decode cX12_makeInner 317 = .ok (.lconst 0, 1) := by decide +kernel
theorem dX12_makeInner_318 : decode cX12_makeInner 318 = .ok (.invokestatic 239, 3) := by decide +kernel
theorem dX12_makeInner_321 : decode cX12_makeInner 321 = .ok (.aload_n 0, 1) := by decide +kernel
theorem dX12_makeInner_322 : decode cX12_makeInner 322 = .ok (.getfield 13, 3) := by decide +kernel
theorem dX12_makeInner_325 : decode cX12_makeInner 325 = .ok (.bipush 24, 2) := by decide +kernel
theorem dX12_makeInner_327 : decode cX12_makeInner 327 = .ok (.iconst 2, 1) := by decide +kernel
theorem dX12_makeInner_328 : decode cX12_makeInner 328 = .ok (.aload_n 0, 1) := by decide +kernel
theorem dX12_makeInner_329 : decode cX12_makeInner 329 = .ok (.getfield 39, 3) := by decide +kernel
theorem dX12_makeInner_332 : decode cX12_makeInner 332 = .ok (.iload_n 2, 1) := by decide +kernel
theorem dX12_makeInner_333 : decode cX12_makeInner 333 = .ok (.iaload, 1) := by decide +kernel
theorem dX12_makeInner_334 : decode cX12_makeInner 334 = .ok (.i2l, 1) := by decide +kernel
theorem dX12_makeInner_335 : decode cX12_makeInner 335 = .ok (.invokestatic 239, 3) := by decide +kernel
theorem dX12_makeInner_338 : decode cX12_makeInner 338 = .ok (.goto 20, 3) := by decide +kernel
theorem dX12_makeInner_341 : decode cX12_makeInner 341 = .ok (.aload_n 0, 1) := by decide +kernel
theorem dX12_makeInner_342 : decode cX12_makeInner 342 = .ok (.getfield 13, 3) := by decide +kernel
theorem dX12_makeInner_345 : decode cX12_makeInner 345 = .ok (.bipush 20, 2) := by decide +kernel
theorem dX12_makeInner_347 : decode cX12_makeInner 347 = .ok (.iconst 2, 1) := by decide +kernel
theorem dX12_makeInner_348 : decode cX12_makeInner 348 = .ok (.aload_n 0, 1) := by decide +kernel
theorem dX12_makeInner_349 : decode cX12_makeInner 349 = .ok (.getfield 39, 3) := by decide +kernel
theorem dX12_makeInner_352 : decode cX12_makeInner 352 = .ok (.iload_n 2, 1) := by decide +kernel
theorem dX12_makeInner_353 : decode cX12_makeInner 353 = .ok (.iaload, 1) := by decide +kernel
theorem dX12_makeInner_354 : decode cX12_makeInner 354 = .ok (.i2l, 1) := by decide +kernel
theorem dX12_makeInner_355 : decode cX12_makeInner 355 = .ok (.invokestatic 239, 3) := by decide +kernel
theorem dX12_makeInner_358 : decode cX12_makeInner 358 = .ok (.bipush 20, 2) := by decide +kernel
theorem dX12_makeInner_360 : decode cX12_makeInner 360 = .ok (.iload_n 1, 1) := by decide +kernel
theorem dX12_makeInner_361 : decode cX12_makeInner 361 = .ok (.invokestatic 145, 3) := by decide +kernel
theorem dX12_makeInner_364 : decode cX12_makeInner 364 = .ok (.iadd, 1) := by decide +kernel
theorem dX12_makeInner_365 : decode cX12_makeInner 365 = .ok (.istore 5, 2) := by decide +kernel
theorem dX12_makeInner_367 : decode cX12_makeInner 367 = .ok (.aload_n 0, 1) := by decide +kernel
theorem dX12_makeInner_368 : decode cX12_makeInner 368 = .ok (.getfield 13, 3) := by decide +kernel
theorem dX12_makeInner_371 : decode cX12_makeInner 371 = .ok (.iload 5, 2) := by decide +kernel
theorem dX12_makeInner_373 : decode cX12_makeInner 373 = .ok (.iconst 2, 1) := by decide +kernel
theorem dX12_makeInner_374 : decode cX12_makeInner 374 = .ok (.aload_n 0, 1) := by decide +kernel
theorem dX12_makeInner_375 : decode cX12_makeInner 375 = .ok (.getfield 13, 3) := by decide +kernel
theorem dX12_makeInner_378 : decode cX12_makeInner 378 = .ok (.bipush 20, 2) := by decide +kernel
theorem dX12_makeInner_380 : decode cX12_makeInner 380 = .ok (.aload_n 0, 1) := by decide +kernel
theorem dX12_makeInner_381 : decode cX12_makeInner 381 = .ok (.getfield 234, 3) := by decide +kernel
theorem dX12_makeInner_384 : decode cX12_makeInner 384 = .ok (.iload 5, 2) := by decide +kernel
theorem dX12_makeInner_386 : decode cX12_makeInner 386 = .ok (.iload_n 1, 1) := by decide +kernel
theorem dX12_makeInner_387 : decode cX12_makeInner 387 = .ok (.invokestatic 148, 3) := by decide +kernel
theorem dX12_makeInner_390 : decode cX12_makeInner 390 = .ok (.i2l, 1) := by decide +kernel
theorem dX12_makeInner_391 : decode cX12_makeInner 391 = .ok (.invokestatic 239, 3) := by decide +kernel
theorem dX12_makeInner_394 : decode cX12_makeInner 394 = .ok (.return_, 1) := by decide +kernel
theorem yv_X12_makeInner : YV RX12 yX12_makeInner cX12_makeInner 6 none 3 := ⟨kw5_120, kws_40, kw1_10, kw5_121, by decide +kernel⟩
set_option maxHeartbeats 4000000 in
set_option maxRecDepth 100000 in
theorem c_X12_makeInner {l : Launch} {D : va_G} {cy : Nat → ClassId} {o : Nat} {ad : Nat → Nat} {tl : va_W} {tp os sz bits F G u nb ns T M id : Nat} {ft fo fi : Nat → UInt8} {g : Nat → Int32} {pt ih il ip pn op so fa fp st en dr : Nat → Nat} {q b ta sa : Nat} (hq : q = 1 ∨ q = 6 ∨ q = 17) (hb9 : b < 64) (hpn9 : pn b < 4) (hpa : g (pn b) = nI sa) (hfa : sa < 2 ^ 32) (hta : ta < 2 ^ 32) (hop9 : op b < 2 ^ 31) (hsz0 : 48 ≤ sz) (hsz1 : sz ≤ 1600) (hsum : tg_sumAt q + 2 ≤ sz - 40) (hhop : 2 ≤ tg_rd fi sz 7) (hid : id < 65536) : WR (S := (Nat → UInt8)) l yX12_makeInner cX12_makeInner 6 none 4 0 0 96 [.ref o, .int (nI q), .int (nI b), .int (nI ta)] D cy (mW cy o ad tp os sz bits F G u nb ns T M id ft fo fi g pt ih il ip pn op so fa fp st en dr ++ tl) (fun _ => none) (fun z => z = mk_four fo fi sz q id sa ta (op b)) (fun z => mW cy o ad tp (sz - 20) sz bits F G u nb ns T M (tg_id sz id) ft z fi g pt ih il ip pn op so fa fp st en dr ++ tl) := by
  refine WRv (by decide) (lv0 := [(0, .ref o), (1, .int (nI q)), (2, .int (nI b)), (3, .int (nI ta))]) rfl (Nat.le_of_ble_eq_true rfl) ?_
  intro p e s m args below meth c ls A Q S hnm hP hK hD hS hA hend hl
  have hx := S.1
  have hb := S.2.1
  have hown : s.vm.findClass RX12 = some m.cls := S.2.2.2.1
  have ht : ∀ w ∈ lw_g, w.before args s = true := fun w h => S.2.2.2.2 w (List.mem_cons_of_mem _ h)
  have hP : va_P D vwCl (mW cy o ad tp os sz bits F G u nb ns T M id ft fo fi g pt ih il ip pn op so fa fp st en dr ++ tl) s.heap := hP
  refine lv_aload_n hx hb dX12_makeInner_0 rfl (lv_at hl 0 rfl) ?_
  refine lv_aload_n hx hb dX12_makeInner_1 rfl (lv_at hl 0 rfl) ?_
  refine va_get (ci := 9) (C := RX12) (T := TX12) (N := 28) hx hb ht iFX12 hown hK hP 0 rfl rfl 5 (by decide) (ht _ kw4_115) (fun _ h9 => h9) rfl dX12_makeInner_2 ?_
  refine nv_bipush (k := 20) hx hb dX12_makeInner_5 (by decide) ?_
  refine nv_isub hx hb (by omega) dX12_makeInner_7 ?_
  refine va_put (ci := 9) (C := RX12) (T := TX12) (N := 28) (ty := tyX12 3) hx hb ht iFX12 tyX12 tyX12_ok nmX12 hown hK hP hD hS 0 rfl rfl 3 (by decide) (ht _ kw4_113) (fun _ h9 => h9) rfl (by decide +kernel) (by first | rfl | decide) (by first | rfl | decide) (Nat.le_of_ble_eq_true rfl) dX12_makeInner_8 (fun H locs hP hD hS => ?_)
  have hP : va_P D vwCl (mW cy o ad tp (sz - 20) sz bits F G u nb ns T M id ft fo fi g pt ih il ip pn op so fa fp st en dr ++ tl) H := hP
  have hD : va_D A (mW cy o ad tp (sz - 20) sz bits F G u nb ns T M id ft fo fi g pt ih il ip pn op so fa fp st en dr ++ tl) := hD
  refine lv_aload_n hx hb dX12_makeInner_11 rfl (lv_at hl 0 rfl) ?_
  refine va_get (ci := 9) (C := RX12) (T := TX12) (N := 28) hx hb ht iFX12 hown hK hP 0 rfl rfl 2 (by decide) (ht _ kw4_112) (fun _ h9 => h9) rfl dX12_makeInner_12 ?_
  refine nv_iconst (k := 0) hx hb dX12_makeInner_15 rfl ?_
  refine nv_iconst (k := 1) hx hb dX12_makeInner_16 rfl ?_
  refine nv_ldc2 (k := 69) hx hb hown (ht _ kw5_122) (by decide) dX12_makeInner_17 ?_
  refine wr_S S (c_X12_put (ws := mW cy o ad tp (sz - 20) sz bits F G u nb ns T M id ft fo fi g pt ih il ip pn op so fa fp st en dr ++ tl) (kr := 2) (N := 1640) rfl (by omega) (a := 0) (many := 1) (x := 69) (v := lN (69)) (by omega) (by omega) (fun k hk => by rw [lN_toNat (by omega)])) kw5_123 yv_X12_put ⟨Nat.le_of_ble_eq_true rfl, Nat.le_of_ble_eq_true rfl⟩ hK hP hD hS hA rfl hl.1 rfl (Nat.le_of_ble_eq_true rfl) dX12_makeInner_20 ⟨Nat.zero_le _, Nat.zero_le _⟩ (fun g_1 H locs hg_1 hP hD hS => ?_)
  have hP : va_P D vwCl (mW cy o ad tp (sz - 20) sz bits F G u nb ns T M id ft g_1 fi g pt ih il ip pn op so fa fp st en dr ++ tl) H := hP
  have hD : va_D A (mW cy o ad tp (sz - 20) sz bits F G u nb ns T M id ft g_1 fi g pt ih il ip pn op so fa fp st en dr ++ tl) := hD
  refine W.eq (g2 := F0 m 23 ls []) rfl ?_
  refine lv_aload_n hx hb dX12_makeInner_23 rfl (lv_at hl 0 rfl) ?_
  refine va_get (ci := 9) (C := RX12) (T := TX12) (N := 28) hx hb ht iFX12 hown hK hP 0 rfl rfl 2 (by decide) (ht _ kw4_112) (fun _ h9 => h9) rfl dX12_makeInner_24 ?_
  refine nv_iconst (k := 1) hx hb dX12_makeInner_27 rfl ?_
  refine nv_iconst (k := 1) hx hb dX12_makeInner_28 rfl ?_
  refine lv_aload_n hx hb dX12_makeInner_29 rfl (lv_at hl 0 rfl) ?_
  refine va_get (ci := 9) (C := RX12) (T := TX12) (N := 28) hx hb ht iFX12 hown hK hP 0 rfl rfl 4 (by decide) (ht _ kw4_114) (fun _ h9 => h9) rfl dX12_makeInner_30 ?_
  refine nv_iconst (k := 0) hx hb dX12_makeInner_33 rfl ?_
  refine ro_S S (c_X12_two (AR_of (ws := mW cy o ad tp (sz - 20) sz bits F G u nb ns T M id ft g_1 fi g pt ih il ip pn op so fa fp st en dr ++ tl) (kr := 3) (N := 1600) (n := sz) rfl (by omega) (by omega)) (i := 0) (by omega)) kw5_44 yv_X12_two ⟨Nat.le_of_ble_eq_true rfl, Nat.le_of_ble_eq_true rfl⟩ hK hP rfl hl.1 rfl (Nat.le_of_ble_eq_true rfl) dX12_makeInner_34 ⟨Nat.zero_le _, Nat.zero_le _⟩ ?_
  have hq34 := tg_pr_lt fi sz 0
  refine nv_iconst (k := 4) hx hb dX12_makeInner_37 rfl ?_
  refine nv_ishr hx hb (by omega) (by omega) dX12_makeInner_38 ?_
  refine nv_sipush (k := 255) hx hb dX12_makeInner_39 (by decide) ?_
  refine nv_iand 8 hx hb (by omega) (by decide) dX12_makeInner_42 ?_
  refine nv_i2l hx hb (by omega) dX12_makeInner_43 ?_
  refine wr_S S (c_X12_put (ws := mW cy o ad tp (sz - 20) sz bits F G u nb ns T M id ft g_1 fi g pt ih il ip pn op so fa fp st en dr ++ tl) (kr := 2) (N := 1640) rfl (by omega) (a := 1) (many := 1) (x := ((tg_pr (tg_rd fi sz) 0) / 2 ^ 4) % 2 ^ 8) (v := lN (((tg_pr (tg_rd fi sz) 0) / 2 ^ 4) % 2 ^ 8)) (by omega) (by omega) (fun k hk => by rw [lN_toNat (by omega)])) kw5_123 yv_X12_put ⟨Nat.le_of_ble_eq_true rfl, Nat.le_of_ble_eq_true rfl⟩ hK hP hD hS hA rfl hl.1 rfl (Nat.le_of_ble_eq_true rfl) dX12_makeInner_44 ⟨Nat.zero_le _, Nat.zero_le _⟩ (fun g_2 H locs hg_2 hP hD hS => ?_)
  have hP : va_P D vwCl (mW cy o ad tp (sz - 20) sz bits F G u nb ns T M id ft g_2 fi g pt ih il ip pn op so fa fp st en dr ++ tl) H := hP
  have hD : va_D A (mW cy o ad tp (sz - 20) sz bits F G u nb ns T M id ft g_2 fi g pt ih il ip pn op so fa fp st en dr ++ tl) := hD
  refine W.eq (g2 := F0 m 47 ls []) rfl ?_
  refine lv_aload_n hx hb dX12_makeInner_47 rfl (lv_at hl 0 rfl) ?_
  refine va_get (ci := 9) (C := RX12) (T := TX12) (N := 28) hx hb ht iFX12 hown hK hP 0 rfl rfl 2 (by decide) (ht _ kw4_112) (fun _ h9 => h9) rfl dX12_makeInner_48 ?_
  refine nv_iconst (k := 2) hx hb dX12_makeInner_51 rfl ?_
  refine nv_iconst (k := 2) hx hb dX12_makeInner_52 rfl ?_
  refine lv_aload_n hx hb dX12_makeInner_53 rfl (lv_at hl 0 rfl) ?_
  refine va_get (ci := 9) (C := RX12) (T := TX12) (N := 28) hx hb ht iFX12 hown hK hP 0 rfl rfl 3 (by decide) (ht _ kw4_113) (fun _ h9 => h9) rfl dX12_makeInner_54 ?_
  refine nv_i2l hx hb (by omega) dX12_makeInner_57 ?_
  refine wr_S S (c_X12_put (ws := mW cy o ad tp (sz - 20) sz bits F G u nb ns T M id ft g_2 fi g pt ih il ip pn op so fa fp st en dr ++ tl) (kr := 2) (N := 1640) rfl (by omega) (a := 2) (many := 2) (x := sz - 20) (v := lN (sz - 20)) (by omega) (by omega) (fun k hk => by rw [lN_toNat (by omega)])) kw5_123 yv_X12_put ⟨Nat.le_of_ble_eq_true rfl, Nat.le_of_ble_eq_true rfl⟩ hK hP hD hS hA rfl hl.1 rfl (Nat.le_of_ble_eq_true rfl) dX12_makeInner_58 ⟨Nat.zero_le _, Nat.zero_le _⟩ (fun g_3 H locs hg_3 hP hD hS => ?_)
  have hP : va_P D vwCl (mW cy o ad tp (sz - 20) sz bits F G u nb ns T M id ft g_3 fi g pt ih il ip pn op so fa fp st en dr ++ tl) H := hP
  have hD : va_D A (mW cy o ad tp (sz - 20) sz bits F G u nb ns T M id ft g_3 fi g pt ih il ip pn op so fa fp st en dr ++ tl) := hD
  refine W.eq (g2 := F0 m 61 ls []) rfl ?_
  have J151 : ∀ (fo2 : Nat → UInt8) (id2 : Nat) (H : Heap) (locs : List Loc), fo2 = tg_put (tg_put g_3 4 2 (if sz - 20 ≤ 1260 then id else 0)) 6 2 (if sz - 20 ≤ 1260 then 0 else 16384) → id2 = tg_id sz id → va_P D vwCl (mW cy o ad tp (sz - 20) sz bits F G u nb ns T M id2 ft fo2 fi g pt ih il ip pn op so fa fp st en dr ++ tl) H → va_D A (mW cy o ad tp (sz - 20) sz bits F G u nb ns T M id2 ft fo2 fi g pt ih il ip pn op so fa fp st en dr ++ tl) → va_S A s.heap H locs → ∀ ls : Array Slot, lv_has ls 6 [(0, .ref o), (1, .int (nI q)), (2, .int (nI b)), (3, .int (nI ta))] → W p l e (rmw 4 0 0 96) s m args below meth c H locs 0 0 Q (F0 m 151 ls []) := by
    intro fo2 id2 H locs hfo2 hid2 hP hD hS ls hl
    refine lv_aload_n hx hb dX12_makeInner_151 rfl (lv_at hl 0 rfl) ?_
    refine va_get (ci := 9) (C := RX12) (T := TX12) (N := 28) hx hb ht iFX12 hown hK hP 0 rfl rfl 2 (by decide) (ht _ kw4_112) (fun _ h9 => h9) rfl dX12_makeInner_152 ?_
    refine nv_bipush (k := 8) hx hb dX12_makeInner_155 (by decide) ?_
    refine nv_iconst (k := 1) hx hb dX12_makeInner_157 rfl ?_
    refine lv_aload_n hx hb dX12_makeInner_158 rfl (lv_at hl 0 rfl) ?_
    refine va_get (ci := 9) (C := RX12) (T := TX12) (N := 28) hx hb ht iFX12 hown hK hP 0 rfl rfl 4 (by decide) (ht _ kw4_114) (fun _ h9 => h9) rfl dX12_makeInner_159 ?_
    refine nv_bipush (k := 7) hx hb dX12_makeInner_162 (by decide) ?_
    refine ro_S S (c_X12_at (AR_of (ws := mW cy o ad tp (sz - 20) sz bits F G u nb ns T M id2 ft fo2 fi g pt ih il ip pn op so fa fp st en dr ++ tl) (kr := 3) (N := 1600) (n := sz) rfl (by omega) (by omega)) (i := 7) (by omega)) kw5_41 yv_X12_at ⟨Nat.le_of_ble_eq_true rfl, Nat.le_of_ble_eq_true rfl⟩ hK hP rfl hl.1 rfl (Nat.le_of_ble_eq_true rfl) dX12_makeInner_164 ⟨Nat.zero_le _, Nat.zero_le _⟩ ?_
    have hq164 := tg_rd_lt fi sz 7
    refine nv_iconst (k := 1) hx hb dX12_makeInner_167 rfl ?_
    refine nv_isub hx hb (by omega) dX12_makeInner_168 ?_
    refine nv_i2l hx hb (by omega) dX12_makeInner_169 ?_
    refine wr_S S (c_X12_put (ws := mW cy o ad tp (sz - 20) sz bits F G u nb ns T M id2 ft fo2 fi g pt ih il ip pn op so fa fp st en dr ++ tl) (kr := 2) (N := 1640) rfl (by omega) (a := 8) (many := 1) (x := (tg_rd fi sz 7) - 1) (v := lN ((tg_rd fi sz 7) - 1)) (by omega) (by omega) (fun k hk => by rw [lN_toNat (by omega)])) kw5_123 yv_X12_put ⟨Nat.le_of_ble_eq_true rfl, Nat.le_of_ble_eq_true rfl⟩ hK hP hD hS hA rfl hl.1 rfl (Nat.le_of_ble_eq_true rfl) dX12_makeInner_170 ⟨Nat.zero_le _, Nat.zero_le _⟩ (fun g_4 H locs hg_4 hP hD hS => ?_)
    have hP : va_P D vwCl (mW cy o ad tp (sz - 20) sz bits F G u nb ns T M id2 ft g_4 fi g pt ih il ip pn op so fa fp st en dr ++ tl) H := hP
    have hD : va_D A (mW cy o ad tp (sz - 20) sz bits F G u nb ns T M id2 ft g_4 fi g pt ih il ip pn op so fa fp st en dr ++ tl) := hD
    refine W.eq (g2 := F0 m 173 ls []) rfl ?_
    refine lv_aload_n hx hb dX12_makeInner_173 rfl (lv_at hl 0 rfl) ?_
    refine va_get (ci := 9) (C := RX12) (T := TX12) (N := 28) hx hb ht iFX12 hown hK hP 0 rfl rfl 2 (by decide) (ht _ kw4_112) (fun _ h9 => h9) rfl dX12_makeInner_174 ?_
    refine nv_bipush (k := 9) hx hb dX12_makeInner_177 (by decide) ?_
    refine nv_iconst (k := 1) hx hb dX12_makeInner_179 rfl ?_
    refine lv_iload_n hx hb dX12_makeInner_180 rfl (lv_at hl 1 rfl) ?_
    refine nv_i2l hx hb (by omega) dX12_makeInner_181 ?_
    refine wr_S S (c_X12_put (ws := mW cy o ad tp (sz - 20) sz bits F G u nb ns T M id2 ft g_4 fi g pt ih il ip pn op so fa fp st en dr ++ tl) (kr := 2) (N := 1640) rfl (by omega) (a := 9) (many := 1) (x := q) (v := lN (q)) (by omega) (by omega) (fun k hk => by rw [lN_toNat (by omega)])) kw5_123 yv_X12_put ⟨Nat.le_of_ble_eq_true rfl, Nat.le_of_ble_eq_true rfl⟩ hK hP hD hS hA rfl hl.1 rfl (Nat.le_of_ble_eq_true rfl) dX12_makeInner_182 ⟨Nat.zero_le _, Nat.zero_le _⟩ (fun g_5 H locs hg_5 hP hD hS => ?_)
    have hP : va_P D vwCl (mW cy o ad tp (sz - 20) sz bits F G u nb ns T M id2 ft g_5 fi g pt ih il ip pn op so fa fp st en dr ++ tl) H := hP
    have hD : va_D A (mW cy o ad tp (sz - 20) sz bits F G u nb ns T M id2 ft g_5 fi g pt ih il ip pn op so fa fp st en dr ++ tl) := hD
    refine W.eq (g2 := F0 m 185 ls []) rfl ?_
    refine lv_aload_n hx hb dX12_makeInner_185 rfl (lv_at hl 0 rfl) ?_
    refine va_get (ci := 9) (C := RX12) (T := TX12) (N := 28) hx hb ht iFX12 hown hK hP 0 rfl rfl 2 (by decide) (ht _ kw4_112) (fun _ h9 => h9) rfl dX12_makeInner_186 ?_
    refine nv_bipush (k := 10) hx hb dX12_makeInner_189 (by decide) ?_
    refine nv_iconst (k := 2) hx hb dX12_makeInner_191 rfl ?_
    refine lv_lconst (v := lN 0) hx hb dX12_makeInner_192 (by decide) ?_
    refine wr_S S (c_X12_put (ws := mW cy o ad tp (sz - 20) sz bits F G u nb ns T M id2 ft g_5 fi g pt ih il ip pn op so fa fp st en dr ++ tl) (kr := 2) (N := 1640) rfl (by omega) (a := 10) (many := 2) (x := 0) (v := lN (0)) (by omega) (by omega) (fun k hk => by rw [lN_toNat (by omega)])) kw5_123 yv_X12_put ⟨Nat.le_of_ble_eq_true rfl, Nat.le_of_ble_eq_true rfl⟩ hK hP hD hS hA rfl hl.1 rfl (Nat.le_of_ble_eq_true rfl) dX12_makeInner_193 ⟨Nat.zero_le _, Nat.zero_le _⟩ (fun g_6 H locs hg_6 hP hD hS => ?_)
    have hP : va_P D vwCl (mW cy o ad tp (sz - 20) sz bits F G u nb ns T M id2 ft g_6 fi g pt ih il ip pn op so fa fp st en dr ++ tl) H := hP
    have hD : va_D A (mW cy o ad tp (sz - 20) sz bits F G u nb ns T M id2 ft g_6 fi g pt ih il ip pn op so fa fp st en dr ++ tl) := hD
    refine W.eq (g2 := F0 m 196 ls []) rfl ?_
    refine lv_aload_n hx hb dX12_makeInner_196 rfl (lv_at hl 0 rfl) ?_
    refine va_get (ci := 9) (C := RX12) (T := TX12) (N := 28) hx hb ht iFX12 hown hK hP 0 rfl rfl 2 (by decide) (ht _ kw4_112) (fun _ h9 => h9) rfl dX12_makeInner_197 ?_
    refine nv_bipush (k := 12) hx hb dX12_makeInner_200 (by decide) ?_
    refine nv_iconst (k := 4) hx hb dX12_makeInner_202 rfl ?_
    refine lv_aload_n hx hb dX12_makeInner_203 rfl (lv_at hl 0 rfl) ?_
    refine va_get (ci := 9) (C := RX12) (T := TX12) (N := 28) hx hb ht iFX12 hown hK hP 0 rfl rfl 10 (by decide) (ht _ kw4_120) (fun _ h9 => h9) rfl dX12_makeInner_204 ?_
    refine lv_aload_n hx hb dX12_makeInner_207 rfl (lv_at hl 0 rfl) ?_
    refine va_get (ci := 9) (C := RX12) (T := TX12) (N := 28) hx hb ht iFX12 hown hK hP 0 rfl rfl 16 (by decide) (ht _ kw4_126) (fun _ h9 => h9) rfl dX12_makeInner_208 ?_
    refine lv_iload_n hx hb dX12_makeInner_211 rfl (lv_at hl 2 rfl) ?_
    refine nv_iald hx hb hK hP 9 rfl (by omega) (by omega) dX12_makeInner_212 ?_
    refine nv_iald hx hb hK hP 4 rfl (by omega) (by omega) dX12_makeInner_213 ?_
    rw [hpa]
    refine lv_i2l hx hb dX12_makeInner_214 rfl ?_
    refine wr_S S (c_X12_put (ws := mW cy o ad tp (sz - 20) sz bits F G u nb ns T M id2 ft g_6 fi g pt ih il ip pn op so fa fp st en dr ++ tl) (kr := 2) (N := 1640) rfl (by omega) (a := 12) (many := 4) (x := sa) (v := (nI (sa)).toInt64) (by omega) (by omega) (fun k hk => w_byte (by omega) k (by omega))) kw5_123 yv_X12_put ⟨Nat.le_of_ble_eq_true rfl, Nat.le_of_ble_eq_true rfl⟩ hK hP hD hS hA rfl hl.1 rfl (Nat.le_of_ble_eq_true rfl) dX12_makeInner_215 ⟨Nat.zero_le _, Nat.zero_le _⟩ (fun g_7 H locs hg_7 hP hD hS => ?_)
    have hP : va_P D vwCl (mW cy o ad tp (sz - 20) sz bits F G u nb ns T M id2 ft g_7 fi g pt ih il ip pn op so fa fp st en dr ++ tl) H := hP
    have hD : va_D A (mW cy o ad tp (sz - 20) sz bits F G u nb ns T M id2 ft g_7 fi g pt ih il ip pn op so fa fp st en dr ++ tl) := hD
    refine W.eq (g2 := F0 m 218 ls []) rfl ?_
    refine lv_aload_n hx hb dX12_makeInner_218 rfl (lv_at hl 0 rfl) ?_
    refine va_get (ci := 9) (C := RX12) (T := TX12) (N := 28) hx hb ht iFX12 hown hK hP 0 rfl rfl 2 (by decide) (ht _ kw4_112) (fun _ h9 => h9) rfl dX12_makeInner_219 ?_
    refine nv_bipush (k := 16) hx hb dX12_makeInner_222 (by decide) ?_
    refine nv_iconst (k := 4) hx hb dX12_makeInner_224 rfl ?_
    refine lv_iload_n hx hb dX12_makeInner_225 rfl (lv_at hl 3 rfl) ?_
    refine lv_i2l hx hb dX12_makeInner_226 rfl ?_
    refine wr_S S (c_X12_put (ws := mW cy o ad tp (sz - 20) sz bits F G u nb ns T M id2 ft g_7 fi g pt ih il ip pn op so fa fp st en dr ++ tl) (kr := 2) (N := 1640) rfl (by omega) (a := 16) (many := 4) (x := ta) (v := (nI (ta)).toInt64) (by omega) (by omega) (fun k hk => w_byte (by omega) k (by omega))) kw5_123 yv_X12_put ⟨Nat.le_of_ble_eq_true rfl, Nat.le_of_ble_eq_true rfl⟩ hK hP hD hS hA rfl hl.1 rfl (Nat.le_of_ble_eq_true rfl) dX12_makeInner_227 ⟨Nat.zero_le _, Nat.zero_le _⟩ (fun g_8 H locs hg_8 hP hD hS => ?_)
    have hP : va_P D vwCl (mW cy o ad tp (sz - 20) sz bits F G u nb ns T M id2 ft g_8 fi g pt ih il ip pn op so fa fp st en dr ++ tl) H := hP
    have hD : va_D A (mW cy o ad tp (sz - 20) sz bits F G u nb ns T M id2 ft g_8 fi g pt ih il ip pn op so fa fp st en dr ++ tl) := hD
    refine W.eq (g2 := F0 m 230 ls []) rfl ?_
    refine lv_aload_n hx hb dX12_makeInner_230 rfl (lv_at hl 0 rfl) ?_
    refine va_get (ci := 9) (C := RX12) (T := TX12) (N := 28) hx hb ht iFX12 hown hK hP 0 rfl rfl 2 (by decide) (ht _ kw4_112) (fun _ h9 => h9) rfl dX12_makeInner_231 ?_
    refine nv_bipush (k := 10) hx hb dX12_makeInner_234 (by decide) ?_
    refine nv_iconst (k := 2) hx hb dX12_makeInner_236 rfl ?_
    refine lv_aload_n hx hb dX12_makeInner_237 rfl (lv_at hl 0 rfl) ?_
    refine va_get (ci := 9) (C := RX12) (T := TX12) (N := 28) hx hb ht iFX12 hown hK hP 0 rfl rfl 2 (by decide) (ht _ kw4_112) (fun _ h9 => h9) rfl dX12_makeInner_238 ?_
    refine ro_S S (c_X12_headSum (AR_of (ws := mW cy o ad tp (sz - 20) sz bits F G u nb ns T M id2 ft g_8 fi g pt ih il ip pn op so fa fp st en dr ++ tl) (kr := 2) (N := 1640) (n := (sz - 20)) rfl (by omega) (by omega)) (by omega)) kw5_127 yv_X12_headSum ⟨Nat.le_of_ble_eq_true rfl, Nat.le_of_ble_eq_true rfl⟩ hK hP rfl hl.1 rfl (Nat.le_of_ble_eq_true rfl) dX12_makeInner_241 ⟨Nat.zero_le _, Nat.zero_le _⟩ ?_
    have hq241 := tg_cl_le (tg_ws (tg_rd g_8 (sz - 20)) 0 10 20)
    refine nv_i2l hx hb (by omega) dX12_makeInner_244 ?_
    refine wr_S S (c_X12_put (ws := mW cy o ad tp (sz - 20) sz bits F G u nb ns T M id2 ft g_8 fi g pt ih il ip pn op so fa fp st en dr ++ tl) (kr := 2) (N := 1640) rfl (by omega) (a := 10) (many := 2) (x := tg_cl (tg_ws (tg_rd g_8 (sz - 20)) 0 10 20)) (v := lN (tg_cl (tg_ws (tg_rd g_8 (sz - 20)) 0 10 20))) (by omega) (by omega) (fun k hk => by rw [lN_toNat (by omega)])) kw5_123 yv_X12_put ⟨Nat.le_of_ble_eq_true rfl, Nat.le_of_ble_eq_true rfl⟩ hK hP hD hS hA rfl hl.1 rfl (Nat.le_of_ble_eq_true rfl) dX12_makeInner_245 ⟨Nat.zero_le _, Nat.zero_le _⟩ (fun g_9 H locs hg_9 hP hD hS => ?_)
    have hP : va_P D vwCl (mW cy o ad tp (sz - 20) sz bits F G u nb ns T M id2 ft g_9 fi g pt ih il ip pn op so fa fp st en dr ++ tl) H := hP
    have hD : va_D A (mW cy o ad tp (sz - 20) sz bits F G u nb ns T M id2 ft g_9 fi g pt ih il ip pn op so fa fp st en dr ++ tl) := hD
    refine W.eq (g2 := F0 m 248 ls []) rfl ?_
    refine nv_bipush (k := 40) hx hb dX12_makeInner_248 (by decide) ?_
    refine lv_istore (lv' := [(5, .int (nI 40)), (0, .ref o), (1, .int (nI q)), (2, .int (nI b)), (3, .int (nI ta))]) hx hb dX12_makeInner_250 hl (by decide) rfl (fun ls hl => ?_)
    have L252 : ∀ (fu kk : Nat) (H : Heap) (locs : List Loc), sz - kk < fu → 40 ≤ kk → kk ≤ sz → va_P D vwCl (mW cy o ad tp (sz - 20) sz bits F G u nb ns T M id2 ft ((fun i => if 20 ≤ i ∧ i < kk - 20 then fi (i + 20) else g_9 i)) fi g pt ih il ip pn op so fa fp st en dr ++ tl) H → va_D A (mW cy o ad tp (sz - 20) sz bits F G u nb ns T M id2 ft ((fun i => if 20 ≤ i ∧ i < kk - 20 then fi (i + 20) else g_9 i)) fi g pt ih il ip pn op so fa fp st en dr ++ tl) → va_S A s.heap H locs → ∀ ls : Array Slot, lv_has ls 6 [(0, .ref o), (1, .int (nI q)), (2, .int (nI b)), (3, .int (nI ta)), (5, .int (nI kk))] → W p l e (rmw 4 0 0 96) s m args below meth c H locs 0 0 Q (F0 m 252 ls []) := by
      intro fu
      induction fu with
      | zero => intro kk H locs h9; omega
      | succ fu ihh =>
        intro kk H locs hfu hk1 hk2 hP hD hS ls hl
        refine lv_iload hx hb dX12_makeInner_252 (lv_at hl 4 rfl) ?_
        refine lv_aload_n hx hb dX12_makeInner_254 rfl (lv_at hl 0 rfl) ?_
        refine va_get (ci := 9) (C := RX12) (T := TX12) (N := 28) hx hb ht iFX12 hown hK hP 0 rfl rfl 5 (by decide) (ht _ kw4_115) (fun _ h9 => h9) rfl dX12_makeInner_255 ?_
        refine nv_icmp_ge (tgt := 284) hx hb dX12_makeInner_258 (by decide) (by omega) (by omega) (fun h258 => ?_) (fun h258 => ?_)
        · skip
          have ec : (fun i => if 20 ≤ i ∧ i < kk - 20 then fi (i + 20) else g_9 i) = va_cpy fi g_9 40 20 (sz - 40) := by
            funext i
            unfold va_cpy
            by_cases h2 : 20 ≤ i ∧ i < kk - 20
            · rw [if_pos h2, if_pos (by omega), show i + 20 = 40 + (i - 20) by omega]
            · rw [if_neg h2, if_neg (by omega)]
          rw [ec] at hP hD
          obtain ⟨g12, hg12⟩ : ∃ z, z = va_cpy fi g_9 40 20 (sz - 40) := ⟨_, rfl⟩
          rw [← hg12] at hP hD
          have hP : va_P D vwCl (mW cy o ad tp (sz - 20) sz bits F G u nb ns T M id2 ft g12 fi g pt ih il ip pn op so fa fp st en dr ++ tl) H := hP
          have hD : va_D A (mW cy o ad tp (sz - 20) sz bits F G u nb ns T M id2 ft g12 fi g pt ih il ip pn op so fa fp st en dr ++ tl) := hD
          refine lv_iload_n hx hb dX12_makeInner_284 rfl (lv_at hl 1 rfl) ?_
          refine nv_iconst (k := 1) hx hb dX12_makeInner_285 rfl ?_
          refine nv_icmp_ne (tgt := 341) hx hb dX12_makeInner_286 (by decide) (by omega) (by omega) (fun h286 => ?_) (fun h286 => ?_)
          · skip
            refine lv_aload_n hx hb dX12_makeInner_341 rfl (lv_at hl 0 rfl) ?_
            refine va_get (ci := 9) (C := RX12) (T := TX12) (N := 28) hx hb ht iFX12 hown hK hP 0 rfl rfl 2 (by decide) (ht _ kw4_112) (fun _ h9 => h9) rfl dX12_makeInner_342 ?_
            refine nv_bipush (k := 20) hx hb dX12_makeInner_345 (by decide) ?_
            refine nv_iconst (k := 2) hx hb dX12_makeInner_347 rfl ?_
            refine lv_aload_n hx hb dX12_makeInner_348 rfl (lv_at hl 0 rfl) ?_
            refine va_get (ci := 9) (C := RX12) (T := TX12) (N := 28) hx hb ht iFX12 hown hK hP 0 rfl rfl 17 (by decide) (ht _ kw4_127) (fun _ h9 => h9) rfl dX12_makeInner_349 ?_
            refine lv_iload_n hx hb dX12_makeInner_352 rfl (lv_at hl 2 rfl) ?_
            refine nv_iald hx hb hK hP 10 rfl (by omega) (by omega) dX12_makeInner_353 ?_
            refine nv_i2l hx hb (by omega) dX12_makeInner_354 ?_
            refine wr_S S (c_X12_put (ws := mW cy o ad tp (sz - 20) sz bits F G u nb ns T M id2 ft g12 fi g pt ih il ip pn op so fa fp st en dr ++ tl) (kr := 2) (N := 1640) rfl (by omega) (a := 20) (many := 2) (x := op b) (v := lN (op b)) (by omega) (by omega) (fun k hk => by rw [lN_toNat (by omega)])) kw5_123 yv_X12_put ⟨Nat.le_of_ble_eq_true rfl, Nat.le_of_ble_eq_true rfl⟩ hK hP hD hS hA rfl hl.1 rfl (Nat.le_of_ble_eq_true rfl) dX12_makeInner_355 ⟨Nat.zero_le _, Nat.zero_le _⟩ (fun g_10 H locs hg_10 hP hD hS => ?_)
            have hP : va_P D vwCl (mW cy o ad tp (sz - 20) sz bits F G u nb ns T M id2 ft g_10 fi g pt ih il ip pn op so fa fp st en dr ++ tl) H := hP
            have hD : va_D A (mW cy o ad tp (sz - 20) sz bits F G u nb ns T M id2 ft g_10 fi g pt ih il ip pn op so fa fp st en dr ++ tl) := hD
            refine W.eq (g2 := F0 m 358 ls []) rfl ?_
            refine nv_bipush (k := 20) hx hb dX12_makeInner_358 (by decide) ?_
            refine lv_iload_n hx hb dX12_makeInner_360 rfl (lv_at hl 1 rfl) ?_
            refine ro_S S (c_X12_placeOfSum (q := q) (by omega)) kw5_55 yv_X12_placeOfSum ⟨Nat.le_of_ble_eq_true rfl, Nat.le_of_ble_eq_true rfl⟩ hK hP rfl hl.1 rfl (Nat.le_of_ble_eq_true rfl) dX12_makeInner_361 ⟨Nat.zero_le _, Nat.zero_le _⟩ ?_
            have hq361 := tg_sumAt_le q
            refine nv_iadd hx hb dX12_makeInner_364 ?_
            refine lv_istore (lv' := [(5, .int (nI (20 + (tg_sumAt q)))), (0, .ref o), (1, .int (nI q)), (2, .int (nI b)), (3, .int (nI ta))]) hx hb dX12_makeInner_365 hl (by decide) rfl (fun ls hl => ?_)
            refine lv_aload_n hx hb dX12_makeInner_367 rfl (lv_at hl 1 rfl) ?_
            refine va_get (ci := 9) (C := RX12) (T := TX12) (N := 28) hx hb ht iFX12 hown hK hP 0 rfl rfl 2 (by decide) (ht _ kw4_112) (fun _ h9 => h9) rfl dX12_makeInner_368 ?_
            refine lv_iload hx hb dX12_makeInner_371 (lv_at hl 0 rfl) ?_
            refine nv_iconst (k := 2) hx hb dX12_makeInner_373 rfl ?_
            refine lv_aload_n hx hb dX12_makeInner_374 rfl (lv_at hl 1 rfl) ?_
            refine va_get (ci := 9) (C := RX12) (T := TX12) (N := 28) hx hb ht iFX12 hown hK hP 0 rfl rfl 2 (by decide) (ht _ kw4_112) (fun _ h9 => h9) rfl dX12_makeInner_375 ?_
            refine nv_bipush (k := 20) hx hb dX12_makeInner_378 (by decide) ?_
            refine lv_aload_n hx hb dX12_makeInner_380 rfl (lv_at hl 1 rfl) ?_
            refine va_get (ci := 9) (C := RX12) (T := TX12) (N := 28) hx hb ht iFX12 hown hK hP 0 rfl rfl 3 (by decide) (ht _ kw4_113) (fun _ h9 => h9) rfl dX12_makeInner_381 ?_
            refine lv_iload hx hb dX12_makeInner_384 (lv_at hl 0 rfl) ?_
            refine lv_iload_n hx hb dX12_makeInner_386 rfl (lv_at hl 2 rfl) ?_
            refine ro_S S (c_X12_sumOf (AR_of (ws := mW cy o ad tp (sz - 20) sz bits F G u nb ns T M id2 ft g_10 fi g pt ih il ip pn op so fa fp st en dr ++ tl) (kr := 2) (N := 1640) (n := (sz - 20)) rfl (by omega) (by omega)) (hd := 20) (z := sz - 20) (w := 20 + (tg_sumAt q)) (q := q) (by omega) (by omega) (by omega) (by omega) (by omega)) kw5_58 yv_X12_sumOf ⟨Nat.le_of_ble_eq_true rfl, Nat.le_of_ble_eq_true rfl⟩ hK hP rfl hl.1 rfl (Nat.le_of_ble_eq_true rfl) dX12_makeInner_387 ⟨Nat.zero_le _, Nat.zero_le _⟩ ?_
            have hq387 := tg_sum_le (tg_rd g_10 (sz - 20)) 20 (sz - 20) (20 + (tg_sumAt q)) q
            refine nv_i2l hx hb (by omega) dX12_makeInner_390 ?_
            refine wr_S S (c_X12_put (ws := mW cy o ad tp (sz - 20) sz bits F G u nb ns T M id2 ft g_10 fi g pt ih il ip pn op so fa fp st en dr ++ tl) (kr := 2) (N := 1640) rfl (by omega) (a := 20 + (tg_sumAt q)) (many := 2) (x := tg_sum (tg_rd g_10 (sz - 20)) 20 (sz - 20) (20 + (tg_sumAt q)) q) (v := lN (tg_sum (tg_rd g_10 (sz - 20)) 20 (sz - 20) (20 + (tg_sumAt q)) q)) (by omega) (by omega) (fun k hk => by rw [lN_toNat (by omega)])) kw5_123 yv_X12_put ⟨Nat.le_of_ble_eq_true rfl, Nat.le_of_ble_eq_true rfl⟩ hK hP hD hS hA rfl hl.1 rfl (Nat.le_of_ble_eq_true rfl) dX12_makeInner_391 ⟨Nat.zero_le _, Nat.zero_le _⟩ (fun g_11 H locs hg_11 hP hD hS => ?_)
            have hP : va_P D vwCl (mW cy o ad tp (sz - 20) sz bits F G u nb ns T M id2 ft g_11 fi g pt ih il ip pn op so fa fp st en dr ++ tl) H := hP
            have hD : va_D A (mW cy o ad tp (sz - 20) sz bits F G u nb ns T M id2 ft g_11 fi g pt ih il ip pn op so fa fp st en dr ++ tl) := hD
            refine W.eq (g2 := F0 m 394 ls []) rfl ?_
            rw [hid2] at hP hD
            exact hend _ (by rw [hg_11, hg_10, hg12, hg_9, hg_8, hg_7, hg_6, hg_5, hg_4, hfo2, hg_3, hg_2, hg_1]; unfold mk_four mk_h6; (first | rw [if_pos h286, if_pos h308] | rw [if_pos h286, if_neg h308] | rw [if_neg h286]) <;> rfl) hP hD hS dX12_makeInner_394
          refine lv_aload_n hx hb dX12_makeInner_289 rfl (lv_at hl 0 rfl) ?_
          refine va_get (ci := 9) (C := RX12) (T := TX12) (N := 28) hx hb ht iFX12 hown hK hP 0 rfl rfl 2 (by decide) (ht _ kw4_112) (fun _ h9 => h9) rfl dX12_makeInner_290 ?_
          refine nv_bipush (k := 20) hx hb dX12_makeInner_293 (by decide) ?_
          refine nv_iconst (k := 1) hx hb dX12_makeInner_295 rfl ?_
          refine lv_aload_n hx hb dX12_makeInner_296 rfl (lv_at hl 0 rfl) ?_
          refine va_get (ci := 9) (C := RX12) (T := TX12) (N := 28) hx hb ht iFX12 hown hK hP 0 rfl rfl 4 (by decide) (ht _ kw4_114) (fun _ h9 => h9) rfl dX12_makeInner_297 ?_
          refine nv_bipush (k := 40) hx hb dX12_makeInner_300 (by decide) ?_
          refine ro_S S (c_X12_at (AR_of (ws := mW cy o ad tp (sz - 20) sz bits F G u nb ns T M id2 ft g12 fi g pt ih il ip pn op so fa fp st en dr ++ tl) (kr := 3) (N := 1600) (n := sz) rfl (by omega) (by omega)) (i := 40) (by omega)) kw5_41 yv_X12_at ⟨Nat.le_of_ble_eq_true rfl, Nat.le_of_ble_eq_true rfl⟩ hK hP rfl hl.1 rfl (Nat.le_of_ble_eq_true rfl) dX12_makeInner_302 ⟨Nat.zero_le _, Nat.zero_le _⟩ ?_
          have hq302 := tg_rd_lt fi sz 40
          refine nv_sipush (k := 128) hx hb dX12_makeInner_305 (by decide) ?_
          refine nv_icmp_ne (tgt := 317) hx hb dX12_makeInner_308 (by decide) (by omega) (by omega) (fun h308 => ?_) (fun h308 => ?_)
          · skip
            refine lv_lconst (v := lN 0) hx hb dX12_makeInner_317 (by decide) ?_
            refine wr_S S (c_X12_put (ws := mW cy o ad tp (sz - 20) sz bits F G u nb ns T M id2 ft g12 fi g pt ih il ip pn op so fa fp st en dr ++ tl) (kr := 2) (N := 1640) rfl (by omega) (a := 20) (many := 1) (x := 0) (v := lN (0)) (by omega) (by omega) (fun k hk => by rw [lN_toNat (by omega)])) kw5_123 yv_X12_put ⟨Nat.le_of_ble_eq_true rfl, Nat.le_of_ble_eq_true rfl⟩ hK hP hD hS hA rfl hl.1 rfl (Nat.le_of_ble_eq_true rfl) dX12_makeInner_318 ⟨Nat.zero_le _, Nat.zero_le _⟩ (fun g_12 H locs hg_12 hP hD hS => ?_)
            have hP : va_P D vwCl (mW cy o ad tp (sz - 20) sz bits F G u nb ns T M id2 ft g_12 fi g pt ih il ip pn op so fa fp st en dr ++ tl) H := hP
            have hD : va_D A (mW cy o ad tp (sz - 20) sz bits F G u nb ns T M id2 ft g_12 fi g pt ih il ip pn op so fa fp st en dr ++ tl) := hD
            refine W.eq (g2 := F0 m 321 ls []) rfl ?_
            refine lv_aload_n hx hb dX12_makeInner_321 rfl (lv_at hl 0 rfl) ?_
            refine va_get (ci := 9) (C := RX12) (T := TX12) (N := 28) hx hb ht iFX12 hown hK hP 0 rfl rfl 2 (by decide) (ht _ kw4_112) (fun _ h9 => h9) rfl dX12_makeInner_322 ?_
            refine nv_bipush (k := 24) hx hb dX12_makeInner_325 (by decide) ?_
            refine nv_iconst (k := 2) hx hb dX12_makeInner_327 rfl ?_
            refine lv_aload_n hx hb dX12_makeInner_328 rfl (lv_at hl 0 rfl) ?_
            refine va_get (ci := 9) (C := RX12) (T := TX12) (N := 28) hx hb ht iFX12 hown hK hP 0 rfl rfl 17 (by decide) (ht _ kw4_127) (fun _ h9 => h9) rfl dX12_makeInner_329 ?_
            refine lv_iload_n hx hb dX12_makeInner_332 rfl (lv_at hl 2 rfl) ?_
            refine nv_iald hx hb hK hP 10 rfl (by omega) (by omega) dX12_makeInner_333 ?_
            refine nv_i2l hx hb (by omega) dX12_makeInner_334 ?_
            refine wr_S S (c_X12_put (ws := mW cy o ad tp (sz - 20) sz bits F G u nb ns T M id2 ft g_12 fi g pt ih il ip pn op so fa fp st en dr ++ tl) (kr := 2) (N := 1640) rfl (by omega) (a := 24) (many := 2) (x := op b) (v := lN (op b)) (by omega) (by omega) (fun k hk => by rw [lN_toNat (by omega)])) kw5_123 yv_X12_put ⟨Nat.le_of_ble_eq_true rfl, Nat.le_of_ble_eq_true rfl⟩ hK hP hD hS hA rfl hl.1 rfl (Nat.le_of_ble_eq_true rfl) dX12_makeInner_335 ⟨Nat.zero_le _, Nat.zero_le _⟩ (fun g_13 H locs hg_13 hP hD hS => ?_)
            have hP : va_P D vwCl (mW cy o ad tp (sz - 20) sz bits F G u nb ns T M id2 ft g_13 fi g pt ih il ip pn op so fa fp st en dr ++ tl) H := hP
            have hD : va_D A (mW cy o ad tp (sz - 20) sz bits F G u nb ns T M id2 ft g_13 fi g pt ih il ip pn op so fa fp st en dr ++ tl) := hD
            refine W.eq (g2 := F0 m 338 ls []) rfl ?_
            refine lv_goto (tgt := 358) hx hb dX12_makeInner_338 (by decide) ?_
            refine nv_bipush (k := 20) hx hb dX12_makeInner_358 (by decide) ?_
            refine lv_iload_n hx hb dX12_makeInner_360 rfl (lv_at hl 1 rfl) ?_
            refine ro_S S (c_X12_placeOfSum (q := q) (by omega)) kw5_55 yv_X12_placeOfSum ⟨Nat.le_of_ble_eq_true rfl, Nat.le_of_ble_eq_true rfl⟩ hK hP rfl hl.1 rfl (Nat.le_of_ble_eq_true rfl) dX12_makeInner_361 ⟨Nat.zero_le _, Nat.zero_le _⟩ ?_
            have hq361 := tg_sumAt_le q
            refine nv_iadd hx hb dX12_makeInner_364 ?_
            refine lv_istore (lv' := [(5, .int (nI (20 + (tg_sumAt q)))), (0, .ref o), (1, .int (nI q)), (2, .int (nI b)), (3, .int (nI ta))]) hx hb dX12_makeInner_365 hl (by decide) rfl (fun ls hl => ?_)
            refine lv_aload_n hx hb dX12_makeInner_367 rfl (lv_at hl 1 rfl) ?_
            refine va_get (ci := 9) (C := RX12) (T := TX12) (N := 28) hx hb ht iFX12 hown hK hP 0 rfl rfl 2 (by decide) (ht _ kw4_112) (fun _ h9 => h9) rfl dX12_makeInner_368 ?_
            refine lv_iload hx hb dX12_makeInner_371 (lv_at hl 0 rfl) ?_
            refine nv_iconst (k := 2) hx hb dX12_makeInner_373 rfl ?_
            refine lv_aload_n hx hb dX12_makeInner_374 rfl (lv_at hl 1 rfl) ?_
            refine va_get (ci := 9) (C := RX12) (T := TX12) (N := 28) hx hb ht iFX12 hown hK hP 0 rfl rfl 2 (by decide) (ht _ kw4_112) (fun _ h9 => h9) rfl dX12_makeInner_375 ?_
            refine nv_bipush (k := 20) hx hb dX12_makeInner_378 (by decide) ?_
            refine lv_aload_n hx hb dX12_makeInner_380 rfl (lv_at hl 1 rfl) ?_
            refine va_get (ci := 9) (C := RX12) (T := TX12) (N := 28) hx hb ht iFX12 hown hK hP 0 rfl rfl 3 (by decide) (ht _ kw4_113) (fun _ h9 => h9) rfl dX12_makeInner_381 ?_
            refine lv_iload hx hb dX12_makeInner_384 (lv_at hl 0 rfl) ?_
            refine lv_iload_n hx hb dX12_makeInner_386 rfl (lv_at hl 2 rfl) ?_
            refine ro_S S (c_X12_sumOf (AR_of (ws := mW cy o ad tp (sz - 20) sz bits F G u nb ns T M id2 ft g_13 fi g pt ih il ip pn op so fa fp st en dr ++ tl) (kr := 2) (N := 1640) (n := (sz - 20)) rfl (by omega) (by omega)) (hd := 20) (z := sz - 20) (w := 20 + (tg_sumAt q)) (q := q) (by omega) (by omega) (by omega) (by omega) (by omega)) kw5_58 yv_X12_sumOf ⟨Nat.le_of_ble_eq_true rfl, Nat.le_of_ble_eq_true rfl⟩ hK hP rfl hl.1 rfl (Nat.le_of_ble_eq_true rfl) dX12_makeInner_387 ⟨Nat.zero_le _, Nat.zero_le _⟩ ?_
            have hq387 := tg_sum_le (tg_rd g_13 (sz - 20)) 20 (sz - 20) (20 + (tg_sumAt q)) q
            refine nv_i2l hx hb (by omega) dX12_makeInner_390 ?_
            refine wr_S S (c_X12_put (ws := mW cy o ad tp (sz - 20) sz bits F G u nb ns T M id2 ft g_13 fi g pt ih il ip pn op so fa fp st en dr ++ tl) (kr := 2) (N := 1640) rfl (by omega) (a := 20 + (tg_sumAt q)) (many := 2) (x := tg_sum (tg_rd g_13 (sz - 20)) 20 (sz - 20) (20 + (tg_sumAt q)) q) (v := lN (tg_sum (tg_rd g_13 (sz - 20)) 20 (sz - 20) (20 + (tg_sumAt q)) q)) (by omega) (by omega) (fun k hk => by rw [lN_toNat (by omega)])) kw5_123 yv_X12_put ⟨Nat.le_of_ble_eq_true rfl, Nat.le_of_ble_eq_true rfl⟩ hK hP hD hS hA rfl hl.1 rfl (Nat.le_of_ble_eq_true rfl) dX12_makeInner_391 ⟨Nat.zero_le _, Nat.zero_le _⟩ (fun g_14 H locs hg_14 hP hD hS => ?_)
            have hP : va_P D vwCl (mW cy o ad tp (sz - 20) sz bits F G u nb ns T M id2 ft g_14 fi g pt ih il ip pn op so fa fp st en dr ++ tl) H := hP
            have hD : va_D A (mW cy o ad tp (sz - 20) sz bits F G u nb ns T M id2 ft g_14 fi g pt ih il ip pn op so fa fp st en dr ++ tl) := hD
            refine W.eq (g2 := F0 m 394 ls []) rfl ?_
            rw [hid2] at hP hD
            exact hend _ (by rw [hg_14, hg_13, hg_12, hg12, hg_9, hg_8, hg_7, hg_6, hg_5, hg_4, hfo2, hg_3, hg_2, hg_1]; unfold mk_four mk_h6; (first | rw [if_pos h286, if_pos h308] | rw [if_pos h286, if_neg h308] | rw [if_neg h286]) <;> rfl) hP hD hS dX12_makeInner_394
          refine nv_ldc2 (k := 8) hx hb hown (ht _ kw5_130) (by decide) dX12_makeInner_311 ?_
          refine lv_goto (tgt := 318) hx hb dX12_makeInner_314 (by decide) ?_
          refine wr_S S (c_X12_put (ws := mW cy o ad tp (sz - 20) sz bits F G u nb ns T M id2 ft g12 fi g pt ih il ip pn op so fa fp st en dr ++ tl) (kr := 2) (N := 1640) rfl (by omega) (a := 20) (many := 1) (x := 8) (v := lN (8)) (by omega) (by omega) (fun k hk => by rw [lN_toNat (by omega)])) kw5_123 yv_X12_put ⟨Nat.le_of_ble_eq_true rfl, Nat.le_of_ble_eq_true rfl⟩ hK hP hD hS hA rfl hl.1 rfl (Nat.le_of_ble_eq_true rfl) dX12_makeInner_318 ⟨Nat.zero_le _, Nat.zero_le _⟩ (fun g_15 H locs hg_15 hP hD hS => ?_)
          have hP : va_P D vwCl (mW cy o ad tp (sz - 20) sz bits F G u nb ns T M id2 ft g_15 fi g pt ih il ip pn op so fa fp st en dr ++ tl) H := hP
          have hD : va_D A (mW cy o ad tp (sz - 20) sz bits F G u nb ns T M id2 ft g_15 fi g pt ih il ip pn op so fa fp st en dr ++ tl) := hD
          refine W.eq (g2 := F0 m 321 ls []) rfl ?_
          refine lv_aload_n hx hb dX12_makeInner_321 rfl (lv_at hl 0 rfl) ?_
          refine va_get (ci := 9) (C := RX12) (T := TX12) (N := 28) hx hb ht iFX12 hown hK hP 0 rfl rfl 2 (by decide) (ht _ kw4_112) (fun _ h9 => h9) rfl dX12_makeInner_322 ?_
          refine nv_bipush (k := 24) hx hb dX12_makeInner_325 (by decide) ?_
          refine nv_iconst (k := 2) hx hb dX12_makeInner_327 rfl ?_
          refine lv_aload_n hx hb dX12_makeInner_328 rfl (lv_at hl 0 rfl) ?_
          refine va_get (ci := 9) (C := RX12) (T := TX12) (N := 28) hx hb ht iFX12 hown hK hP 0 rfl rfl 17 (by decide) (ht _ kw4_127) (fun _ h9 => h9) rfl dX12_makeInner_329 ?_
          refine lv_iload_n hx hb dX12_makeInner_332 rfl (lv_at hl 2 rfl) ?_
          refine nv_iald hx hb hK hP 10 rfl (by omega) (by omega) dX12_makeInner_333 ?_
          refine nv_i2l hx hb (by omega) dX12_makeInner_334 ?_
          refine wr_S S (c_X12_put (ws := mW cy o ad tp (sz - 20) sz bits F G u nb ns T M id2 ft g_15 fi g pt ih il ip pn op so fa fp st en dr ++ tl) (kr := 2) (N := 1640) rfl (by omega) (a := 24) (many := 2) (x := op b) (v := lN (op b)) (by omega) (by omega) (fun k hk => by rw [lN_toNat (by omega)])) kw5_123 yv_X12_put ⟨Nat.le_of_ble_eq_true rfl, Nat.le_of_ble_eq_true rfl⟩ hK hP hD hS hA rfl hl.1 rfl (Nat.le_of_ble_eq_true rfl) dX12_makeInner_335 ⟨Nat.zero_le _, Nat.zero_le _⟩ (fun g_16 H locs hg_16 hP hD hS => ?_)
          have hP : va_P D vwCl (mW cy o ad tp (sz - 20) sz bits F G u nb ns T M id2 ft g_16 fi g pt ih il ip pn op so fa fp st en dr ++ tl) H := hP
          have hD : va_D A (mW cy o ad tp (sz - 20) sz bits F G u nb ns T M id2 ft g_16 fi g pt ih il ip pn op so fa fp st en dr ++ tl) := hD
          refine W.eq (g2 := F0 m 338 ls []) rfl ?_
          refine lv_goto (tgt := 358) hx hb dX12_makeInner_338 (by decide) ?_
          refine nv_bipush (k := 20) hx hb dX12_makeInner_358 (by decide) ?_
          refine lv_iload_n hx hb dX12_makeInner_360 rfl (lv_at hl 1 rfl) ?_
          refine ro_S S (c_X12_placeOfSum (q := q) (by omega)) kw5_55 yv_X12_placeOfSum ⟨Nat.le_of_ble_eq_true rfl, Nat.le_of_ble_eq_true rfl⟩ hK hP rfl hl.1 rfl (Nat.le_of_ble_eq_true rfl) dX12_makeInner_361 ⟨Nat.zero_le _, Nat.zero_le _⟩ ?_
          have hq361 := tg_sumAt_le q
          refine nv_iadd hx hb dX12_makeInner_364 ?_
          refine lv_istore (lv' := [(5, .int (nI (20 + (tg_sumAt q)))), (0, .ref o), (1, .int (nI q)), (2, .int (nI b)), (3, .int (nI ta))]) hx hb dX12_makeInner_365 hl (by decide) rfl (fun ls hl => ?_)
          refine lv_aload_n hx hb dX12_makeInner_367 rfl (lv_at hl 1 rfl) ?_
          refine va_get (ci := 9) (C := RX12) (T := TX12) (N := 28) hx hb ht iFX12 hown hK hP 0 rfl rfl 2 (by decide) (ht _ kw4_112) (fun _ h9 => h9) rfl dX12_makeInner_368 ?_
          refine lv_iload hx hb dX12_makeInner_371 (lv_at hl 0 rfl) ?_
          refine nv_iconst (k := 2) hx hb dX12_makeInner_373 rfl ?_
          refine lv_aload_n hx hb dX12_makeInner_374 rfl (lv_at hl 1 rfl) ?_
          refine va_get (ci := 9) (C := RX12) (T := TX12) (N := 28) hx hb ht iFX12 hown hK hP 0 rfl rfl 2 (by decide) (ht _ kw4_112) (fun _ h9 => h9) rfl dX12_makeInner_375 ?_
          refine nv_bipush (k := 20) hx hb dX12_makeInner_378 (by decide) ?_
          refine lv_aload_n hx hb dX12_makeInner_380 rfl (lv_at hl 1 rfl) ?_
          refine va_get (ci := 9) (C := RX12) (T := TX12) (N := 28) hx hb ht iFX12 hown hK hP 0 rfl rfl 3 (by decide) (ht _ kw4_113) (fun _ h9 => h9) rfl dX12_makeInner_381 ?_
          refine lv_iload hx hb dX12_makeInner_384 (lv_at hl 0 rfl) ?_
          refine lv_iload_n hx hb dX12_makeInner_386 rfl (lv_at hl 2 rfl) ?_
          refine ro_S S (c_X12_sumOf (AR_of (ws := mW cy o ad tp (sz - 20) sz bits F G u nb ns T M id2 ft g_16 fi g pt ih il ip pn op so fa fp st en dr ++ tl) (kr := 2) (N := 1640) (n := (sz - 20)) rfl (by omega) (by omega)) (hd := 20) (z := sz - 20) (w := 20 + (tg_sumAt q)) (q := q) (by omega) (by omega) (by omega) (by omega) (by omega)) kw5_58 yv_X12_sumOf ⟨Nat.le_of_ble_eq_true rfl, Nat.le_of_ble_eq_true rfl⟩ hK hP rfl hl.1 rfl (Nat.le_of_ble_eq_true rfl) dX12_makeInner_387 ⟨Nat.zero_le _, Nat.zero_le _⟩ ?_
          have hq387 := tg_sum_le (tg_rd g_16 (sz - 20)) 20 (sz - 20) (20 + (tg_sumAt q)) q
          refine nv_i2l hx hb (by omega) dX12_makeInner_390 ?_
          refine wr_S S (c_X12_put (ws := mW cy o ad tp (sz - 20) sz bits F G u nb ns T M id2 ft g_16 fi g pt ih il ip pn op so fa fp st en dr ++ tl) (kr := 2) (N := 1640) rfl (by omega) (a := 20 + (tg_sumAt q)) (many := 2) (x := tg_sum (tg_rd g_16 (sz - 20)) 20 (sz - 20) (20 + (tg_sumAt q)) q) (v := lN (tg_sum (tg_rd g_16 (sz - 20)) 20 (sz - 20) (20 + (tg_sumAt q)) q)) (by omega) (by omega) (fun k hk => by rw [lN_toNat (by omega)])) kw5_123 yv_X12_put ⟨Nat.le_of_ble_eq_true rfl, Nat.le_of_ble_eq_true rfl⟩ hK hP hD hS hA rfl hl.1 rfl (Nat.le_of_ble_eq_true rfl) dX12_makeInner_391 ⟨Nat.zero_le _, Nat.zero_le _⟩ (fun g_17 H locs hg_17 hP hD hS => ?_)
          have hP : va_P D vwCl (mW cy o ad tp (sz - 20) sz bits F G u nb ns T M id2 ft g_17 fi g pt ih il ip pn op so fa fp st en dr ++ tl) H := hP
          have hD : va_D A (mW cy o ad tp (sz - 20) sz bits F G u nb ns T M id2 ft g_17 fi g pt ih il ip pn op so fa fp st en dr ++ tl) := hD
          refine W.eq (g2 := F0 m 394 ls []) rfl ?_
          rw [hid2] at hP hD
          exact hend _ (by rw [hg_17, hg_16, hg_15, hg12, hg_9, hg_8, hg_7, hg_6, hg_5, hg_4, hfo2, hg_3, hg_2, hg_1]; unfold mk_four mk_h6; (first | rw [if_pos h286, if_pos h308] | rw [if_pos h286, if_neg h308] | rw [if_neg h286]) <;> rfl) hP hD hS dX12_makeInner_394
        refine lv_aload_n hx hb dX12_makeInner_261 rfl (lv_at hl 0 rfl) ?_
        refine va_get (ci := 9) (C := RX12) (T := TX12) (N := 28) hx hb ht iFX12 hown hK hP 0 rfl rfl 2 (by decide) (ht _ kw4_112) (fun _ h9 => h9) rfl dX12_makeInner_262 ?_
        refine lv_iload hx hb dX12_makeInner_265 (lv_at hl 4 rfl) ?_
        refine nv_bipush (k := 20) hx hb dX12_makeInner_267 (by decide) ?_
        refine nv_isub hx hb (by omega) dX12_makeInner_269 ?_
        refine lv_aload_n hx hb dX12_makeInner_270 rfl (lv_at hl 0 rfl) ?_
        refine va_get (ci := 9) (C := RX12) (T := TX12) (N := 28) hx hb ht iFX12 hown hK hP 0 rfl rfl 4 (by decide) (ht _ kw4_114) (fun _ h9 => h9) rfl dX12_makeInner_271 ?_
        refine lv_iload hx hb dX12_makeInner_274 (lv_at hl 4 rfl) ?_
        refine nv_bald hx hb hK hP 3 rfl (by omega) (by omega) dX12_makeInner_276 ?_
        refine nv_bast hx hb hK hP hD hS 2 rfl (by omega) (by omega) dX12_makeInner_277 (fun H locs hP hD hS => ?_)
        have hP : va_P D vwCl (mW cy o ad tp (sz - 20) sz bits F G u nb ns T M id2 ft (va_up ((fun i => if 20 ≤ i ∧ i < kk - 20 then fi (i + 20) else g_9 i)) (kk - 20) (by8 ((bt fi kk)))) fi g pt ih il ip pn op so fa fp st en dr ++ tl) H := hP
        have hD : va_D A (mW cy o ad tp (sz - 20) sz bits F G u nb ns T M id2 ft (va_up ((fun i => if 20 ≤ i ∧ i < kk - 20 then fi (i + 20) else g_9 i)) (kk - 20) (by8 ((bt fi kk)))) fi g pt ih il ip pn op so fa fp st en dr ++ tl) := hD
        refine lv_iinc (v := (nI (kk + 1))) (lv' := [(5, .int (nI (kk + 1))), (0, .ref o), (1, .int (nI q)), (2, .int (nI b)), (3, .int (nI ta))]) hx hb dX12_makeInner_278 hl (k := 4) rfl (nI_inc _ _) (by decide) rfl (fun ls hl => ?_)
        refine lv_goto (tgt := 252) hx hb dX12_makeInner_281 (by decide) ?_
        have e1 : va_up (fun i => if 20 ≤ i ∧ i < kk - 20 then fi (i + 20) else g_9 i) (kk - 20) (by8 (bt fi kk)) = (fun i => if 20 ≤ i ∧ i < (kk + 1) - 20 then fi (i + 20) else g_9 i) := by
          funext i
          rw [show by8 (bt fi kk) = fi kk from u8_rt (fi kk)]
          unfold va_up
          by_cases h : i = kk - 20
          · rw [if_pos h, if_pos (by omega), show i + 20 = kk by omega]
          · rw [if_neg h]
            dsimp only
            by_cases h2 : 20 ≤ i ∧ i < kk - 20
            · rw [if_pos h2, if_pos (by omega)]
            · rw [if_neg h2, if_neg (by omega)]
        rw [e1] at hP hD
        exact ihh (kk + 1) H locs (by omega) (by omega) (by omega) hP hD hS ls (lv_sub hl [1, 2, 3, 4, 0] rfl)
    have e0 : g_9 = (fun i => if 20 ≤ i ∧ i < 40 - 20 then fi (i + 20) else g_9 i) := by funext i; rw [if_neg (by omega)]
    exact L252 (sz + 1) 40 H locs (by omega) (by omega) (by omega) (by rw [← e0]; exact hP) (by rw [← e0]; exact hD) hS ls (lv_sub hl [1, 2, 3, 4, 0] rfl)
  refine lv_aload_n hx hb dX12_makeInner_61 rfl (lv_at hl 0 rfl) ?_
  refine va_get (ci := 9) (C := RX12) (T := TX12) (N := 28) hx hb ht iFX12 hown hK hP 0 rfl rfl 3 (by decide) (ht _ kw4_113) (fun _ h9 => h9) rfl dX12_makeInner_62 ?_
  refine nv_sipush (k := 1260) hx hb dX12_makeInner_65 (by decide) ?_
  refine nv_icmp_gt (tgt := 75) hx hb dX12_makeInner_68 (by decide) (by omega) (by omega) (fun h68 => ?_) (fun h68 => ?_)
  · skip
    refine nv_iconst (k := 0) hx hb dX12_makeInner_75 rfl ?_
    refine lv_istore (lv' := [(4, .int (nI 0)), (0, .ref o), (1, .int (nI q)), (2, .int (nI b)), (3, .int (nI ta))]) hx hb dX12_makeInner_76 hl (by decide) rfl (fun ls hl => ?_)
    refine lv_aload_n hx hb dX12_makeInner_78 rfl (lv_at hl 1 rfl) ?_
    refine va_get (ci := 9) (C := RX12) (T := TX12) (N := 28) hx hb ht iFX12 hown hK hP 0 rfl rfl 2 (by decide) (ht _ kw4_112) (fun _ h9 => h9) rfl dX12_makeInner_79 ?_
    refine nv_iconst (k := 4) hx hb dX12_makeInner_82 rfl ?_
    refine nv_iconst (k := 2) hx hb dX12_makeInner_83 rfl ?_
    refine lv_iload hx hb dX12_makeInner_84 (lv_at hl 0 rfl) ?_
    refine nv_if_eq (tgt := 97) hx hb dX12_makeInner_86 (by decide) (by omega) (fun _ => ?_) (fun h => absurd h (by decide))
    refine lv_lconst (v := lN 0) hx hb dX12_makeInner_97 (by decide) ?_
    refine wr_S S (c_X12_put (ws := mW cy o ad tp (sz - 20) sz bits F G u nb ns T M id ft g_3 fi g pt ih il ip pn op so fa fp st en dr ++ tl) (kr := 2) (N := 1640) rfl (by omega) (a := 4) (many := 2) (x := 0) (v := lN (0)) (by omega) (by omega) (fun k hk => by rw [lN_toNat (by omega)])) kw5_123 yv_X12_put ⟨Nat.le_of_ble_eq_true rfl, Nat.le_of_ble_eq_true rfl⟩ hK hP hD hS hA rfl hl.1 rfl (Nat.le_of_ble_eq_true rfl) dX12_makeInner_98 ⟨Nat.zero_le _, Nat.zero_le _⟩ (fun g_18 H locs hg_18 hP hD hS => ?_)
    have hP : va_P D vwCl (mW cy o ad tp (sz - 20) sz bits F G u nb ns T M id ft g_18 fi g pt ih il ip pn op so fa fp st en dr ++ tl) H := hP
    have hD : va_D A (mW cy o ad tp (sz - 20) sz bits F G u nb ns T M id ft g_18 fi g pt ih il ip pn op so fa fp st en dr ++ tl) := hD
    refine W.eq (g2 := F0 m 101 ls []) rfl ?_
    refine lv_aload_n hx hb dX12_makeInner_101 rfl (lv_at hl 1 rfl) ?_
    refine va_get (ci := 9) (C := RX12) (T := TX12) (N := 28) hx hb ht iFX12 hown hK hP 0 rfl rfl 2 (by decide) (ht _ kw4_112) (fun _ h9 => h9) rfl dX12_makeInner_102 ?_
    refine nv_bipush (k := 6) hx hb dX12_makeInner_105 (by decide) ?_
    refine nv_iconst (k := 2) hx hb dX12_makeInner_107 rfl ?_
    refine lv_iload hx hb dX12_makeInner_108 (lv_at hl 0 rfl) ?_
    refine nv_if_eq (tgt := 117) hx hb dX12_makeInner_110 (by decide) (by omega) (fun _ => ?_) (fun h => absurd h (by decide))
    refine nv_ldc2 (k := 16384) hx hb hown (ht _ kw5_126) (by decide) dX12_makeInner_117 ?_
    refine wr_S S (c_X12_put (ws := mW cy o ad tp (sz - 20) sz bits F G u nb ns T M id ft g_18 fi g pt ih il ip pn op so fa fp st en dr ++ tl) (kr := 2) (N := 1640) rfl (by omega) (a := 6) (many := 2) (x := 16384) (v := lN (16384)) (by omega) (by omega) (fun k hk => by rw [lN_toNat (by omega)])) kw5_123 yv_X12_put ⟨Nat.le_of_ble_eq_true rfl, Nat.le_of_ble_eq_true rfl⟩ hK hP hD hS hA rfl hl.1 rfl (Nat.le_of_ble_eq_true rfl) dX12_makeInner_120 ⟨Nat.zero_le _, Nat.zero_le _⟩ (fun g_19 H locs hg_19 hP hD hS => ?_)
    have hP : va_P D vwCl (mW cy o ad tp (sz - 20) sz bits F G u nb ns T M id ft g_19 fi g pt ih il ip pn op so fa fp st en dr ++ tl) H := hP
    have hD : va_D A (mW cy o ad tp (sz - 20) sz bits F G u nb ns T M id ft g_19 fi g pt ih il ip pn op so fa fp st en dr ++ tl) := hD
    refine W.eq (g2 := F0 m 123 ls []) rfl ?_
    refine lv_iload hx hb dX12_makeInner_123 (lv_at hl 0 rfl) ?_
    refine nv_if_eq (tgt := 151) hx hb dX12_makeInner_125 (by decide) (by omega) (fun _ => ?_) (fun h => absurd h (by decide))
    exact J151 _ _ H locs (by rw [hg_19, hg_18]; first | rw [if_pos h68, if_pos h68] | rw [if_neg (Nat.not_le.mpr h68), if_neg (Nat.not_le.mpr h68)]) (by unfold tg_id; first | rw [if_pos h68, if_pos h135] | rw [if_pos h68, if_neg h135] | rw [if_neg (Nat.not_le.mpr h68)]) hP hD hS ls (lv_sub hl [1, 2, 3, 4] rfl)
  refine nv_iconst (k := 1) hx hb dX12_makeInner_71 rfl ?_
  refine lv_goto (tgt := 76) hx hb dX12_makeInner_72 (by decide) ?_
  refine lv_istore (lv' := [(4, .int (nI 1)), (0, .ref o), (1, .int (nI q)), (2, .int (nI b)), (3, .int (nI ta))]) hx hb dX12_makeInner_76 hl (by decide) rfl (fun ls hl => ?_)
  refine lv_aload_n hx hb dX12_makeInner_78 rfl (lv_at hl 1 rfl) ?_
  refine va_get (ci := 9) (C := RX12) (T := TX12) (N := 28) hx hb ht iFX12 hown hK hP 0 rfl rfl 2 (by decide) (ht _ kw4_112) (fun _ h9 => h9) rfl dX12_makeInner_79 ?_
  refine nv_iconst (k := 4) hx hb dX12_makeInner_82 rfl ?_
  refine nv_iconst (k := 2) hx hb dX12_makeInner_83 rfl ?_
  refine lv_iload hx hb dX12_makeInner_84 (lv_at hl 0 rfl) ?_
  refine nv_if_eq (tgt := 97) hx hb dX12_makeInner_86 (by decide) (by omega) (fun h => absurd h (by decide)) (fun _ => ?_)
  refine lv_aload_n hx hb dX12_makeInner_89 rfl (lv_at hl 1 rfl) ?_
  refine va_get (ci := 9) (C := RX12) (T := TX12) (N := 28) hx hb ht iFX12 hown hK hP 0 rfl rfl 27 (by decide) (ht _ kw4_137) (fun _ h9 => h9) rfl dX12_makeInner_90 ?_
  refine nv_i2l hx hb (by omega) dX12_makeInner_93 ?_
  refine lv_goto (tgt := 98) hx hb dX12_makeInner_94 (by decide) ?_
  refine wr_S S (c_X12_put (ws := mW cy o ad tp (sz - 20) sz bits F G u nb ns T M id ft g_3 fi g pt ih il ip pn op so fa fp st en dr ++ tl) (kr := 2) (N := 1640) rfl (by omega) (a := 4) (many := 2) (x := id) (v := lN (id)) (by omega) (by omega) (fun k hk => by rw [lN_toNat (by omega)])) kw5_123 yv_X12_put ⟨Nat.le_of_ble_eq_true rfl, Nat.le_of_ble_eq_true rfl⟩ hK hP hD hS hA rfl hl.1 rfl (Nat.le_of_ble_eq_true rfl) dX12_makeInner_98 ⟨Nat.zero_le _, Nat.zero_le _⟩ (fun g_20 H locs hg_20 hP hD hS => ?_)
  have hP : va_P D vwCl (mW cy o ad tp (sz - 20) sz bits F G u nb ns T M id ft g_20 fi g pt ih il ip pn op so fa fp st en dr ++ tl) H := hP
  have hD : va_D A (mW cy o ad tp (sz - 20) sz bits F G u nb ns T M id ft g_20 fi g pt ih il ip pn op so fa fp st en dr ++ tl) := hD
  refine W.eq (g2 := F0 m 101 ls []) rfl ?_
  refine lv_aload_n hx hb dX12_makeInner_101 rfl (lv_at hl 1 rfl) ?_
  refine va_get (ci := 9) (C := RX12) (T := TX12) (N := 28) hx hb ht iFX12 hown hK hP 0 rfl rfl 2 (by decide) (ht _ kw4_112) (fun _ h9 => h9) rfl dX12_makeInner_102 ?_
  refine nv_bipush (k := 6) hx hb dX12_makeInner_105 (by decide) ?_
  refine nv_iconst (k := 2) hx hb dX12_makeInner_107 rfl ?_
  refine lv_iload hx hb dX12_makeInner_108 (lv_at hl 0 rfl) ?_
  refine nv_if_eq (tgt := 117) hx hb dX12_makeInner_110 (by decide) (by omega) (fun h => absurd h (by decide)) (fun _ => ?_)
  refine lv_lconst (v := lN 0) hx hb dX12_makeInner_113 (by decide) ?_
  refine lv_goto (tgt := 120) hx hb dX12_makeInner_114 (by decide) ?_
  refine wr_S S (c_X12_put (ws := mW cy o ad tp (sz - 20) sz bits F G u nb ns T M id ft g_20 fi g pt ih il ip pn op so fa fp st en dr ++ tl) (kr := 2) (N := 1640) rfl (by omega) (a := 6) (many := 2) (x := 0) (v := lN (0)) (by omega) (by omega) (fun k hk => by rw [lN_toNat (by omega)])) kw5_123 yv_X12_put ⟨Nat.le_of_ble_eq_true rfl, Nat.le_of_ble_eq_true rfl⟩ hK hP hD hS hA rfl hl.1 rfl (Nat.le_of_ble_eq_true rfl) dX12_makeInner_120 ⟨Nat.zero_le _, Nat.zero_le _⟩ (fun g_21 H locs hg_21 hP hD hS => ?_)
  have hP : va_P D vwCl (mW cy o ad tp (sz - 20) sz bits F G u nb ns T M id ft g_21 fi g pt ih il ip pn op so fa fp st en dr ++ tl) H := hP
  have hD : va_D A (mW cy o ad tp (sz - 20) sz bits F G u nb ns T M id ft g_21 fi g pt ih il ip pn op so fa fp st en dr ++ tl) := hD
  refine W.eq (g2 := F0 m 123 ls []) rfl ?_
  refine lv_iload hx hb dX12_makeInner_123 (lv_at hl 0 rfl) ?_
  refine nv_if_eq (tgt := 151) hx hb dX12_makeInner_125 (by decide) (by omega) (fun h => absurd h (by decide)) (fun _ => ?_)
  refine lv_aload_n hx hb dX12_makeInner_128 rfl (lv_at hl 1 rfl) ?_
  refine lv_aload_n hx hb dX12_makeInner_129 rfl (lv_at hl 1 rfl) ?_
  refine va_get (ci := 9) (C := RX12) (T := TX12) (N := 28) hx hb ht iFX12 hown hK hP 0 rfl rfl 27 (by decide) (ht _ kw4_137) (fun _ h9 => h9) rfl dX12_makeInner_130 ?_
  refine nv_ldc (k := 65535) hx hb hown (ht _ kw5_68) (by decide) dX12_makeInner_133 ?_
  refine nv_icmp_ne (tgt := 142) hx hb dX12_makeInner_135 (by decide) (by omega) (by omega) (fun h135 => ?_) (fun h135 => ?_)
  · skip
    refine lv_aload_n hx hb dX12_makeInner_142 rfl (lv_at hl 1 rfl) ?_
    refine va_get (ci := 9) (C := RX12) (T := TX12) (N := 28) hx hb ht iFX12 hown hK hP 0 rfl rfl 27 (by decide) (ht _ kw4_137) (fun _ h9 => h9) rfl dX12_makeInner_143 ?_
    refine nv_iconst (k := 1) hx hb dX12_makeInner_146 rfl ?_
    refine nv_iadd hx hb dX12_makeInner_147 ?_
    refine va_put (ci := 9) (C := RX12) (T := TX12) (N := 28) (ty := tyX12 27) hx hb ht iFX12 tyX12 tyX12_ok nmX12 hown hK hP hD hS 0 rfl rfl 27 (by decide) (ht _ kw4_137) (fun _ h9 => h9) rfl (by decide +kernel) (by first | rfl | decide) (by first | rfl | decide) (Nat.le_of_ble_eq_true rfl) dX12_makeInner_148 (fun H locs hP hD hS => ?_)
    have hP : va_P D vwCl (mW cy o ad tp (sz - 20) sz bits F G u nb ns T M (id + 1) ft g_21 fi g pt ih il ip pn op so fa fp st en dr ++ tl) H := hP
    have hD : va_D A (mW cy o ad tp (sz - 20) sz bits F G u nb ns T M (id + 1) ft g_21 fi g pt ih il ip pn op so fa fp st en dr ++ tl) := hD
    exact J151 _ _ H locs (by rw [hg_21, hg_20]; first | rw [if_pos h68, if_pos h68] | rw [if_neg (Nat.not_le.mpr h68), if_neg (Nat.not_le.mpr h68)]) (by unfold tg_id; first | rw [if_pos h68, if_pos h135] | rw [if_pos h68, if_neg h135] | rw [if_neg (Nat.not_le.mpr h68)]) hP hD hS ls (lv_sub hl [1, 2, 3, 4] rfl)
  refine nv_iconst (k := 1) hx hb dX12_makeInner_138 rfl ?_
  refine lv_goto (tgt := 148) hx hb dX12_makeInner_139 (by decide) ?_
  refine va_put (ci := 9) (C := RX12) (T := TX12) (N := 28) (ty := tyX12 27) hx hb ht iFX12 tyX12 tyX12_ok nmX12 hown hK hP hD hS 0 rfl rfl 27 (by decide) (ht _ kw4_137) (fun _ h9 => h9) rfl (by decide +kernel) (by first | rfl | decide) (by first | rfl | decide) (Nat.le_of_ble_eq_true rfl) dX12_makeInner_148 (fun H locs hP hD hS => ?_)
  have hP : va_P D vwCl (mW cy o ad tp (sz - 20) sz bits F G u nb ns T M 1 ft g_21 fi g pt ih il ip pn op so fa fp st en dr ++ tl) H := hP
  have hD : va_D A (mW cy o ad tp (sz - 20) sz bits F G u nb ns T M 1 ft g_21 fi g pt ih il ip pn op so fa fp st en dr ++ tl) := hD
  exact J151 _ _ H locs (by rw [hg_21, hg_20]; first | rw [if_pos h68, if_pos h68] | rw [if_neg (Nat.not_le.mpr h68), if_neg (Nat.not_le.mpr h68)]) (by unfold tg_id; first | rw [if_pos h68, if_pos h135] | rw [if_pos h68, if_neg h135] | rw [if_neg (Nat.not_le.mpr h68)]) hP hD hS ls (lv_sub hl [1, 2, 3, 4] rfl)
