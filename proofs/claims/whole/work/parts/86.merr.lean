/-- the model's packet of IPv6 -/
def mk_six1 (fo fi : Nat → UInt8) (n q bits F G ih il : Nat) : Nat → UInt8 := va_cpy fi (mk_head fo fi n (n - 20) (tg_nx q) bits F G ih il) 20 40 (n - 20)
def mk_six (fo fi : Nat → UInt8) (n q ip ih il bits F G : Nat) : Nat → UInt8 := tg_fin (if q = 1 then tg_put (tg_put (mk_six1 fo fi n q bits F G ih il) 40 1 (if tg_rd fi n 20 = 8 then 128 else 129)) 44 2 ip else tg_put (mk_six1 fo fi n q bits F G ih il) 42 2 ip) (40 + (n - 20)) 40 (tg_nx q)
/-- the model's error -/
def mk_mu (h : Nat → Nat) : Nat := if h 20 = 11 then 3 else if h 21 = 4 then 2 else 1
def mk_nu (h : Nat → Nat) : Nat := if h 20 = 11 then h 21 else if h 21 = 3 then 4 else if h 21 = 4 then 0 else if h 21 = 9 ∨ h 21 = 10 ∨ h 21 = 13 ∨ h 21 = 15 then 1 else 0
def mk_rm (h : Nat → Nat) : Nat := if mk_mu h = 2 then max 1280 (tg_pr h 26 + 20) else 0
def mk_e1 (f : Nat → UInt8) (h : Nat → Nat) : Nat → UInt8 := tg_put (tg_put (tg_put f 40 1 (mk_mu h)) 41 1 (mk_nu h)) 44 4 (mk_rm h)
def mk_e2 (f : Nat → UInt8) (h : Nat → Nat) (q bits F G ih il : Nat) : Nat → UInt8 := tg_put (tg_put (tg_put (tg_put (tg_put (tg_put (tg_put (tg_put f 48 4 (1610612736 + h 29 * 2 ^ 20)) 52 2 ((tg_pr h 30 + 4294967296 - 20) % 4294967296)) 54 1 (tg_nx q)) 55 1 (h 36)) 56 8 ih) 64 8 il) 72 8 (tg_eh bits F (tg_qd h 44))) 80 8 (tg_el bits G (tg_qd h 44))
def mk_e3 (fo fi : Nat → UInt8) (n q bits F G ih il : Nat) : Nat → UInt8 := va_cpy fi (mk_e2 (mk_e1 (mk_head fo fi n (min (n + 40) 1280 - 40) 58 bits F G ih il) (tg_rd fi n)) (tg_rd fi n) q bits F G ih il) 48 88 (min (n + 40) 1280 - 88)
def mk_err (fo fi : Nat → UInt8) (n q ip ih il bits F G : Nat) : Nat → UInt8 := tg_fin (if q = 1 then tg_put (tg_put (mk_e3 fo fi n q bits F G ih il) 88 1 128) 92 2 ip else tg_put (mk_e3 fo fi n q bits F G ih il) 88 2 ip) (min (n + 40) 1280) 40 58
theorem dX12_errorCame_0 : decode cX12_errorCame 0 = .ok (.aload_n 0, 1) := by decide +kernel
theorem dX12_errorCame_1 : decode cX12_errorCame 1 = .ok (.getfield 16, 3) := by decide +kernel
theorem dX12_errorCame_4 : decode cX12_errorCame 4 = .ok (.bipush 37, 2) := by decide +kernel
theorem dX12_errorCame_6 : decode cX12_errorCame 6 = .ok (.invokestatic 124, 3) := by decide +kernel
theorem dX12_errorCame_9 : decode cX12_errorCame 9 = .ok (.istore_n 1, 1) := by decide +kernel
theorem dX12_errorCame_10 : decode cX12_errorCame 10 = .ok (.iload_n 1, 1) := by decide +kernel
theorem dX12_errorCame_11 : decode cX12_errorCame 11 = .ok (.iconst 1, 1) := by decide +kernel
theorem dX12_errorCame_12 : decode cX12_errorCame 12 = .ok (.if_icmp .ne 15, 3) := by decide +kernel
theorem dX12_errorCame_15 : decode cX12_errorCame 15 = .ok (.aload_n 0, 1) := by decide +kernel
theorem dX12_errorCame_16 : decode cX12_errorCame 16 = .ok (.getfield 16, 3) := by decide +kernel
theorem dX12_errorCame_19 : decode cX12_errorCame 19 = .ok (.bipush 52, 2) := by decide +kernel
theorem dX12_errorCame_21 : decode cX12_errorCame 21 = .ok (.invokestatic 128, 3) := by decide +kernel
theorem dX12_errorCame_24 : decode cX12_errorCame 24 = .ok (.goto 12, 3) := by decide +kernel
theorem dX12_errorCame_27 : decode cX12_errorCame 27 = .ok (.aload_n 0, 1) := by decide +kernel
theorem dX12_errorCame_28 : decode cX12_errorCame 28 = .ok (.getfield 16, 3) := by decide +kernel
theorem dX12_errorCame_31 : decode cX12_errorCame 31 = .ok (.bipush 48, 2) := by decide +kernel
theorem dX12_errorCame_33 : decode cX12_errorCame 33 = .ok (.invokestatic 128, 3) := by decide +kernel
theorem dX12_errorCame_36 : decode cX12_errorCame 36 = .ok (.istore_n 2, 1) := by decide +kernel
theorem dX12_errorCame_37 : decode cX12_errorCame 37 = .ok (.aload_n 0, 1) := by decide +kernel
theorem dX12_errorCame_38 : decode cX12_errorCame 38 = .ok (.iload_n 1, 1) := by decide +kernel
theorem dX12_errorCame_39 : decode cX12_errorCame 39 = .ok (.aload_n 0, 1) := by decide +kernel
theorem dX12_errorCame_40 : decode cX12_errorCame 40 = .ok (.aload_n 0, 1) := by decide +kernel
theorem dX12_errorCame_41 : decode cX12_errorCame 41 = .ok (.getfield 16, 3) := by decide +kernel
theorem dX12_errorCame_44 : decode cX12_errorCame 44 = .ok (.bipush 40, 2) := by decide +kernel
theorem dX12_errorCame_46 : decode cX12_errorCame 46 = .ok (.invokestatic 131, 3) := by decide +kernel
theorem dX12_errorCame_49 : decode cX12_errorCame 49 = .ok (.invokevirtual 93, 3) := by decide +kernel
theorem dX12_errorCame_52 : decode cX12_errorCame 52 = .ok (.iload_n 2, 1) := by decide +kernel
theorem dX12_errorCame_53 : decode cX12_errorCame 53 = .ok (.invokevirtual 155, 3) := by decide +kernel
theorem dX12_errorCame_56 : decode cX12_errorCame 56 = .ok (.istore_n 3, 1) := by decide +kernel
theorem dX12_errorCame_57 : decode cX12_errorCame 57 = .ok (.iload_n 3, 1) := by decide +kernel
theorem dX12_errorCame_58 : decode cX12_errorCame 58 = .ok (.ifCond .ge 10, 3) := by decide +kernel
theorem dX12_errorCame_61 : decode cX12_errorCame 61 = .ok (.aload_n 0, 1) := by decide +kernel
theorem dX12_errorCame_62 : decode cX12_errorCame 62 = .ok (.bipush 15, 2) := by decide +kernel
theorem dX12_errorCame_64 : decode cX12_errorCame 64 = .ok (.invokevirtual 203, 3) := by decide +kernel
theorem dX12_errorCame_67 : decode cX12_errorCame 67 = .ok (.ireturn, 1) := by decide +kernel
theorem dX12_errorCame_68 : decode cX12_errorCame 68 = .ok (.aload_n 0, 1) := by decide +kernel
theorem dX12_errorCame_69 : decode cX12_errorCame 69 = .ok (.getfield 121, 3) := by decide +kernel
theorem dX12_errorCame_72 : decode cX12_errorCame 72 = .ok (.bipush 48, 2) := by decide +kernel
theorem dX12_errorCame_74 : decode cX12_errorCame 74 = .ok (.isub, 1) := by decide +kernel
theorem dX12_errorCame_75 : decode cX12_errorCame 75 = .ok (.istore 4, 2) := by decide +kernel
theorem dX12_errorCame_77 : decode cX12_errorCame 77 = .ok (.bipush 48, 2) := by decide +kernel
theorem dX12_errorCame_79 : decode cX12_errorCame 79 = .ok (.iload 4, 2) := by decide +kernel
theorem dX12_errorCame_81 : decode cX12_errorCame 81 = .ok (.iadd, 1) := by decide +kernel
theorem dX12_errorCame_82 : decode cX12_errorCame 82 = .ok (.sipush 1240, 3) := by decide +kernel
theorem dX12_errorCame_85 : decode cX12_errorCame 85 = .ok (.if_icmp .le 9, 3) := by decide +kernel
theorem dX12_errorCame_88 : decode cX12_errorCame 88 = .ok (.sipush 1240, 3) := by decide +kernel
theorem dX12_errorCame_91 : decode cX12_errorCame 91 = .ok (.goto 8, 3) := by decide +kernel
theorem dX12_errorCame_94 : decode cX12_errorCame 94 = .ok (.bipush 48, 2) := by decide +kernel
theorem dX12_errorCame_96 : decode cX12_errorCame 96 = .ok (.iload 4, 2) := by decide +kernel
theorem dX12_errorCame_98 : decode cX12_errorCame 98 = .ok (.iadd, 1) := by decide +kernel
theorem dX12_errorCame_99 : decode cX12_errorCame 99 = .ok (.istore 5, 2) := by decide +kernel
theorem dX12_errorCame_101 : decode cX12_errorCame 101 = .ok (.aload_n 0, 1) := by decide +kernel
theorem dX12_errorCame_102 : decode cX12_errorCame 102 = .ok (.iload_n 3, 1) := by decide +kernel
theorem dX12_errorCame_103 : decode cX12_errorCame 103 = .ok (.iload 5, 2) := by decide +kernel
theorem dX12_errorCame_105 : decode cX12_errorCame 105 = .ok (.bipush 58, 2) := by decide +kernel
theorem dX12_errorCame_107 : decode cX12_errorCame 107 = .ok (.invokevirtual 264, 3) := by decide +kernel
theorem dX12_errorCame_110 : decode cX12_errorCame 110 = .ok (.aload_n 0, 1) := by decide +kernel
theorem dX12_errorCame_111 : decode cX12_errorCame 111 = .ok (.getfield 16, 3) := by decide +kernel
theorem dX12_errorCame_114 : decode cX12_errorCame 114 = .ok (.bipush 20, 2) := by decide +kernel
theorem dX12_errorCame_116 : decode cX12_errorCame 116 = .ok (.invokestatic 124, 3) := by decide +kernel
theorem dX12_errorCame_119 : decode cX12_errorCame 119 = .ok (.istore 6, 2) := by decide +kernel
theorem dX12_errorCame_121 : decode cX12_errorCame 121 = .ok (.aload_n 0, 1) := by decide +kernel
theorem dX12_errorCame_122 : decode cX12_errorCame 122 = .ok (.getfield 16, 3) := by decide +kernel
theorem dX12_errorCame_125 : decode cX12_errorCame 125 = .ok (.bipush 21, 2) := by decide +kernel
theorem dX12_errorCame_127 : decode cX12_errorCame 127 = .ok (.invokestatic 124, 3) := by decide +kernel
theorem dX12_errorCame_130 : decode cX12_errorCame 130 = .ok (.istore 7, 2) := by decide +kernel
theorem dX12_errorCame_132 : decode cX12_errorCame 132 = .ok (.iload 6, 2) := by decide +kernel
theorem dX12_errorCame_134 : decode cX12_errorCame 134 = .ok (.bipush 11, 2) := by decide +kernel
theorem dX12_errorCame_136 : decode cX12_errorCame 136 = .ok (.if_icmp .ne 7, 3) := by decide +kernel
theorem dX12_errorCame_139 : decode cX12_errorCame 139 = .ok (.iconst 3, 1) := by decide +kernel
theorem dX12_errorCame_140 : decode cX12_errorCame 140 = .ok (.goto 24, 3) := by decide +kernel
theorem dX12_errorCame_143 : decode cX12_errorCame 143 = .ok (.iload 7, 2) := by decide +kernel
theorem dX12_errorCame_145 : decode cX12_errorCame 145 = .ok (.iconst 4, 1) := by decide +kernel
theorem dX12_errorCame_146 : decode cX12_errorCame 146 = .ok (.if_icmp .ne 7, 3) := by decide +kernel
theorem dX12_errorCame_149 : decode cX12_errorCame 149 = .ok (.iconst 2, 1) := by decide +kernel
theorem dX12_errorCame_150 : decode cX12_errorCame 150 = .ok (.goto 14, 3) := by decide +kernel
theorem dX12_errorCame_153 : decode cX12_errorCame 153 = .ok (.iload 7, 2) := by decide +kernel
theorem dX12_errorCame_155 : decode cX12_errorCame 155 = .ok (.iconst 3, 1) := by decide +kernel
theorem dX12_errorCame_156 : decode cX12_errorCame 156 = .ok (.if_icmp .ne 7, 3) := by decide +kernel
theorem dX12_errorCame_159 : decode cX12_errorCame 159 = .ok (.iconst 1, 1) := by decide +kernel
theorem dX12_errorCame_160 : decode cX12_errorCame 160 = .ok (.goto 4, 3) := by decide +kernel
theorem dX12_errorCame_163 : decode cX12_errorCame 163 = .ok (.iconst 1, 1) := by decide +kernel
theorem dX12_errorCame_164 : decode cX12_errorCame 164 = .ok (.istore 8, 2) := by decide +kernel
theorem dX12_errorCame_166 : decode cX12_errorCame 166 = .ok (.iload 6, 2) := by decide +kernel
theorem dX12_errorCame_168 : decode cX12_errorCame 168 = .ok (.bipush 11, 2) := by decide +kernel
theorem dX12_errorCame_170 : decode cX12_errorCame 170 = .ok (.if_icmp .ne 8, 3) := by decide +kernel
theorem dX12_errorCame_173 : decode cX12_errorCame 173 = .ok (.iload 7, 2) := by decide +kernel
theorem dX12_errorCame_175 : decode cX12_errorCame 175 = .ok (.goto 56, 3) := by decide +kernel
theorem dX12_errorCame_178 : decode cX12_errorCame 178 = .ok (.iload 7, 2) := by decide +kernel
theorem dX12_errorCame_180 : decode cX12_errorCame 180 = .ok (.iconst 3, 1) := by decide +kernel
theorem dX12_errorCame_181 : decode cX12_errorCame 181 = .ok (.if_icmp .ne 7, 3) := by decide +kernel
theorem dX12_errorCame_184 : decode cX12_errorCame 184 = .ok (.iconst 4, 1) := by decide +kernel
theorem dX12_errorCame_185 : decode cX12_errorCame 185 = .ok (.goto 46, 3) := by decide +kernel
theorem dX12_errorCame_188 : decode cX12_errorCame 188 = .ok (.iload 7, 2) := by decide +kernel
theorem dX12_errorCame_190 : decode cX12_errorCame 190 = .ok (.iconst 4, 1) := by decide +kernel
theorem dX12_errorCame_191 : decode cX12_errorCame 191 = .ok (.if_icmp .ne 7, 3) := by decide +kernel
theorem dX12_errorCame_194 : decode cX12_errorCame 194 = .ok (.iconst 0, 1) := by decide +kernel
theorem dX12_errorCame_195 : decode cX12_errorCame 195 = .ok (.goto 36, 3) := by decide +kernel
theorem dX12_errorCame_198 : decode cX12_errorCame 198 = .ok (.iload 7, 2) := by decide +kernel
theorem dX12_errorCame_200 : decode cX12_errorCame 200 = .ok (.bipush 9, 2) := by decide +kernel
theorem dX12_errorCame_202 : decode cX12_errorCame 202 = .ok (.if_icmp .eq 24, 3) := by decide +kernel
theorem dX12_errorCame_205 : decode cX12_errorCame 205 = .ok (.iload 7, 2) := by decide +kernel
theorem dX12_errorCame_207 : decode cX12_errorCame 207 = .ok (.bipush 10, 2) := by decide +kernel
theorem dX12_errorCame_209 : decode cX12_errorCame 209 = .ok (.if_icmp .eq 17, 3) := by decide +kernel
theorem dX12_errorCame_212 : decode cX12_errorCame 212 = .ok (.iload 7, 2) := by decide +kernel
theorem dX12_errorCame_214 : decode cX12_errorCame 214 = .ok (.bipush 13, 2) := by decide +kernel
theorem dX12_errorCame_216 : decode cX12_errorCame 216 = .ok (.if_icmp .eq 10, 3) := by decide +kernel
theorem dX12_errorCame_219 : decode cX12_errorCame 219 = .ok (.iload 7, 2) := by decide +kernel
theorem dX12_errorCame_221 : decode cX12_errorCame 221 = .ok (.bipush 15, 2) := by decide +kernel
theorem dX12_errorCame_223 : decode cX12_errorCame 223 = .ok (.if_icmp .ne 7, 3) := by decide +kernel
theorem dX12_errorCame_226 : decode cX12_errorCame 226 = .ok (.iconst 1, 1) := by decide +kernel
theorem dX12_errorCame_227 : decode cX12_errorCame 227 = .ok (.goto 4, 3) := by decide +kernel
theorem dX12_errorCame_230 : decode cX12_errorCame 230 = .ok (.iconst 0, 1) := by decide +kernel
theorem dX12_errorCame_231 : decode cX12_errorCame 231 = .ok (.istore 9, 2) := by decide +kernel
theorem dX12_errorCame_233 : decode cX12_errorCame 233 = .ok (.aload_n 0, 1) := by decide +kernel
theorem dX12_errorCame_234 : decode cX12_errorCame 234 = .ok (.getfield 13, 3) := by decide +kernel
theorem dX12_errorCame_237 : decode cX12_errorCame 237 = .ok (.bipush 40, 2) := by decide +kernel
theorem dX12_errorCame_239 : decode cX12_errorCame 239 = .ok (.iconst 1, 1) := by decide +kernel
theorem dX12_errorCame_240 : decode cX12_errorCame 240 = .ok (.iload 8, 2) := by decide +kernel
theorem dX12_errorCame_242 : decode cX12_errorCame 242 = .ok (.i2l, 1) := by decide +kernel
theorem dX12_errorCame_243 : decode cX12_errorCame 243 = .ok (.invokestatic 239, 3) := by decide +kernel
theorem dX12_errorCame_246 : decode cX12_errorCame 246 = .ok (.aload_n 0, 1) := by decide +kernel
theorem dX12_errorCame_247 : decode cX12_errorCame 247 = .ok (.getfield 13, 3) := by decide +kernel
theorem dX12_errorCame_250 : decode cX12_errorCame 250 = .ok (.bipush 41, 2) := by decide +kernel
theorem dX12_errorCame_252 : decode cX12_errorCame 252 = .ok (.iconst 1, 1) := by decide +kernel
theorem dX12_errorCame_253 : decode cX12_errorCame 253 = .ok (.iload 9, 2) := by decide +kernel
theorem dX12_errorCame_255 : decode cX12_errorCame 255 = .ok (.i2l, 1) := by decide +kernel
theorem dX12_errorCame_256 : decode cX12_errorCame 256 = .ok (.invokestatic 239, 3) := by decide +kernel
theorem dX12_errorCame_259 : decode cX12_errorCame 259 = .ok (.aload_n 0, 1) := by decide +kernel
theorem dX12_errorCame_260 : decode cX12_errorCame 260 = .ok (.getfield 16, 3) := by decide +kernel
theorem dX12_errorCame_263 : decode cX12_errorCame 263 = .ok (.bipush 26, 2) := by decide +kernel
theorem dX12_errorCame_265 : decode cX12_errorCame 265 = .ok (.invokestatic 128, 3) := by decide +kernel
theorem dX12_errorCame_268 : decode cX12_errorCame 268 = .ok (.bipush 20, 2) := by decide +kernel
theorem dX12_errorCame_270 : decode cX12_errorCame 270 = .ok (.iadd, 1) := by decide +kernel
theorem dX12_errorCame_271 : decode cX12_errorCame 271 = .ok (.istore 10, 2) := by decide +kernel
theorem dX12_errorCame_273 : decode cX12_errorCame 273 = .ok (.aload_n 0, 1) := by decide +kernel
theorem dX12_errorCame_274 : decode cX12_errorCame 274 = .ok (.getfield 13, 3) := by decide +kernel
theorem dX12_errorCame_277 : decode cX12_errorCame 277 = .ok (.bipush 44, 2) := by decide +kernel
theorem dX12_errorCame_279 : decode cX12_errorCame 279 = .ok (.iconst 4, 1) := by decide +kernel
theorem dX12_errorCame_280 : decode cX12_errorCame 280 = .ok (.iload 8, 2) := by decide +kernel
theorem dX12_errorCame_282 : decode cX12_errorCame 282 = .ok (.iconst 2, 1) := by decide +kernel
theorem dX12_errorCame_283 : decode cX12_errorCame 283 = .ok (.if_icmp .ne 23, 3) := by decide +kernel
theorem dX12_errorCame_286 : decode cX12_errorCame 286 = .ok (.iload 10, 2) := by decide +kernel
theorem dX12_errorCame_288 : decode cX12_errorCame 288 = .ok (.sipush 1280, 3) := by decide +kernel
theorem dX12_errorCame_291 : decode cX12_errorCame 291 = .ok (.if_icmp .le 9, 3) := by decide +kernel
theorem dX12_errorCame_294 : decode cX12_errorCame 294 = .ok (.iload 10, 2) := by decide +kernel
theorem dX12_errorCame_296 : decode cX12_errorCame 296 = .ok (.i2l, 1) := by decide +kernel
theorem dX12_errorCame_297 : decode cX12_errorCame 297 = .ok (.goto 10, 3) := by decide +kernel
theorem dX12_errorCame_300 : decode cX12_errorCame 300 = .ok (.ldc2_w 283, 3) := by decide +kernel
theorem dX12_errorCame_303 : decode cX12_errorCame 303 = .ok (.goto 4, 3) := by decide +kernel
theorem dX12_errorCame_306 : decode cX12_errorCame 306 = .ok (.lconst 0, 1) := by decide +kernel
theorem dX12_errorCame_307 : decode cX12_errorCame 307 = .ok (.invokestatic 239, 3) := by decide +kernel
theorem dX12_errorCame_310 : decode cX12_errorCame 310 = .ok (.aload_n 0, 1) := by decide +kernel
theorem dX12_errorCame_311 : decode cX12_errorCame 311 = .ok (.getfield 13, 3) := by decide +kernel
theorem dX12_errorCame_314 : decode cX12_errorCame 314 = .ok (.bipush 48, 2) := by decide +kernel
theorem dX12_errorCame_316 : decode cX12_errorCame 316 = .ok (.iconst 4, 1) := by decide +kernel
theorem dX12_errorCame_317 : decode cX12_errorCame 317 = .ok (.ldc2_w 274, 3) := by decide +kernel
theorem dX12_errorCame_320 : decode cX12_errorCame 320 = .ok (.aload_n 0, 1) := by decide +kernel
theorem dX12_errorCame_321 : decode cX12_errorCame 321 = .ok (.getfield 16, 3) := by decide +kernel
theorem dX12_errorCame_324 : decode cX12_errorCame 324 = .ok (.bipush 29, 2) := by decide +kernel
theorem dX12_errorCame_326 : decode cX12_errorCame 326 = .ok (.invokestatic 124, 3) := by decide +kernel
theorem dX12_errorCame_329 : decode cX12_errorCame 329 = .ok (.i2l, 1) := by decide +kernel
theorem dX12_errorCame_330 : decode cX12_errorCame 330 = .ok (.bipush 20, 2) := by decide +kernel
theorem dX12_errorCame_332 : decode cX12_errorCame 332 = .ok (.lshl, 1) := by decide +kernel
theorem dX12_errorCame_333 : decode cX12_errorCame 333 = .ok (.lor, 1) := by decide +kernel
theorem dX12_errorCame_334 : decode cX12_errorCame 334 = .ok (.invokestatic 239, 3) := by decide +kernel
theorem dX12_errorCame_337 : decode cX12_errorCame 337 = .ok (.aload_n 0, 1) := by decide +kernel
theorem dX12_errorCame_338 : decode cX12_errorCame 338 = .ok (.getfield 13, 3) := by decide +kernel
theorem dX12_errorCame_341 : decode cX12_errorCame 341 = .ok (.bipush 52, 2) := by decide +kernel
theorem dX12_errorCame_343 : decode cX12_errorCame 343 = .ok (.iconst 2, 1) := by decide +kernel
theorem dX12_errorCame_344 : decode cX12_errorCame 344 = .ok (.aload_n 0, 1) := by decide +kernel
theorem dX12_errorCame_345 : decode cX12_errorCame 345 = .ok (.getfield 16, 3) := by decide +kernel
theorem dX12_errorCame_348 : decode cX12_errorCame 348 = .ok (.bipush 30, 2) := by decide +kernel
theorem dX12_errorCame_350 : decode cX12_errorCame 350 = .ok (.invokestatic 128, 3) := by decide +kernel
theorem dX12_errorCame_353 : decode cX12_errorCame 353 = .ok (.bipush 20, 2) := by decide +kernel
theorem dX12_errorCame_355 : decode cX12_errorCame 355 = .ok (.isub, 1) := by decide +kernel
theorem dX12_errorCame_356 : decode cX12_errorCame 356 = .ok (.i2l, 1) := by decide +kernel
theorem dX12_errorCame_357 : decode cX12_errorCame 357 = .ok (.invokestatic 239, 3) := by decide +kernel
theorem dX12_errorCame_360 : decode cX12_errorCame 360 = .ok (.aload_n 0, 1) := by decide +kernel
theorem dX12_errorCame_361 : decode cX12_errorCame 361 = .ok (.getfield 13, 3) := by decide +kernel
theorem dX12_errorCame_364 : decode cX12_errorCame 364 = .ok (.bipush 54, 2) := by decide +kernel
theorem dX12_errorCame_366 : decode cX12_errorCame 366 = .ok (.iconst 1, 1) := by decide +kernel
theorem dX12_errorCame_367 : decode cX12_errorCame 367 = .ok (.iload_n 1, 1) := by decide +kernel
theorem dX12_errorCame_368 : decode cX12_errorCame 368 = .ok (.iconst 1, 1) := by decide +kernel
theorem dX12_errorCame_369 : decode cX12_errorCame 369 = .ok (.if_icmp .ne 9, 3) := by decide +kernel
theorem dX12_errorCame_372 : decode cX12_errorCame 372 = .ok (.ldc2_w 285, 3) := by decide +kernel
theorem dX12_errorCame_375 : decode cX12_errorCame 375 = .ok (.goto 5, 3) := by decide +kernel
theorem dX12_errorCame_378 : decode cX12_errorCame 378 = .ok (.iload_n 1, 1) := by decide +kernel
theorem dX12_errorCame_379 : decode cX12_errorCame 379 = .ok (.i2l, 1) := by decide +kernel
theorem dX12_errorCame_380 : decode cX12_errorCame 380 = .ok (.invokestatic 239, 3) := by decide +kernel
theorem dX12_errorCame_383 : decode cX12_errorCame 383 = .ok (.aload_n 0, 1) := by decide +kernel
theorem dX12_errorCame_384 : decode cX12_errorCame 384 = .ok (.getfield 13, 3) := by decide +kernel
theorem dX12_errorCame_387 : decode cX12_errorCame 387 = .ok (.bipush 55, 2) := by decide +kernel
theorem dX12_errorCame_389 : decode cX12_errorCame 389 = .ok (.iconst 1, 1) := by decide +kernel
theorem dX12_errorCame_390 : decode cX12_errorCame 390 = .ok (.aload_n 0, 1) := by decide +kernel
theorem dX12_errorCame_391 : decode cX12_errorCame 391 = .ok (.getfield 16, 3) := by decide +kernel
theorem dX12_errorCame_394 : decode cX12_errorCame 394 = .ok (.bipush 36, 2) := by decide +kernel
theorem dX12_errorCame_396 : decode cX12_errorCame 396 = .ok (.invokestatic 124, 3) := by decide +kernel
theorem dX12_errorCame_399 : decode cX12_errorCame 399 = .ok (.i2l, 1) := by decide +kernel
theorem dX12_errorCame_400 : decode cX12_errorCame 400 = .ok (.invokestatic 239, 3) := by decide +kernel
theorem dX12_errorCame_403 : decode cX12_errorCame 403 = .ok (.aload_n 0, 1) := by decide +kernel
theorem dX12_errorCame_404 : decode cX12_errorCame 404 = .ok (.getfield 13, 3) := by decide +kernel
theorem dX12_errorCame_407 : decode cX12_errorCame 407 = .ok (.bipush 56, 2) := by decide +kernel
theorem dX12_errorCame_409 : decode cX12_errorCame 409 = .ok (.bipush 8, 2) := by decide +kernel
theorem dX12_errorCame_411 : decode cX12_errorCame 411 = .ok (.aload_n 0, 1) := by decide +kernel
theorem dX12_errorCame_412 : decode cX12_errorCame 412 = .ok (.getfield 26, 3) := by decide +kernel
theorem dX12_errorCame_415 : decode cX12_errorCame 415 = .ok (.iload_n 3, 1) := by decide +kernel
theorem dX12_errorCame_416 : decode cX12_errorCame 416 = .ok (.laload, 1) := by decide +kernel
theorem dX12_errorCame_417 : decode cX12_errorCame 417 = .ok (.invokestatic 239, 3) := by decide +kernel
theorem dX12_errorCame_420 : decode cX12_errorCame 420 = .ok (.aload_n 0, 1) := by decide +kernel
theorem dX12_errorCame_421 : decode cX12_errorCame 421 = .ok (.getfield 13, 3) := by decide +kernel
theorem dX12_errorCame_424 : decode cX12_errorCame 424 = .ok (.bipush 64, 2) := by decide +kernel
theorem dX12_errorCame_426 : decode cX12_errorCame 426 = .ok (.bipush 8, 2) := by decide +kernel
theorem dX12_errorCame_428 : decode cX12_errorCame 428 = .ok (.aload_n 0, 1) := by decide +kernel
theorem dX12_errorCame_429 : decode cX12_errorCame 429 = .ok (.getfield 30, 3) := by decide +kernel
theorem dX12_errorCame_432 : decode cX12_errorCame 432 = .ok (.iload_n 3, 1) := by decide +kernel
theorem dX12_errorCame_433 : decode cX12_errorCame 433 = .ok (.laload, 1) := by decide +kernel
theorem dX12_errorCame_434 : decode cX12_errorCame 434 = .ok (.invokestatic 239, 3) := by decide +kernel
theorem dX12_errorCame_437 : decode cX12_errorCame 437 = .ok (.aload_n 0, 1) := by decide +kernel
theorem dX12_errorCame_438 : decode cX12_errorCame 438 = .ok (.getfield 13, 3) := by decide +kernel
theorem dX12_errorCame_441 : decode cX12_errorCame 441 = .ok (.bipush 72, 2) := by decide +kernel
theorem dX12_errorCame_443 : decode cX12_errorCame 443 = .ok (.bipush 8, 2) := by decide +kernel
theorem dX12_errorCame_445 : decode cX12_errorCame 445 = .ok (.aload_n 0, 1) := by decide +kernel
theorem dX12_errorCame_446 : decode cX12_errorCame 446 = .ok (.aload_n 0, 1) := by decide +kernel
theorem dX12_errorCame_447 : decode cX12_errorCame 447 = .ok (.getfield 16, 3) := by decide +kernel
theorem dX12_errorCame_450 : decode cX12_errorCame 450 = .ok (.bipush 44, 2) := by decide +kernel
theorem dX12_errorCame_452 : decode cX12_errorCame 452 = .ok (.invokestatic 131, 3) := by decide +kernel
theorem dX12_errorCame_455 : decode cX12_errorCame 455 = .ok (.invokevirtual 276, 3) := by decide +kernel
theorem dX12_errorCame_458 : decode cX12_errorCame 458 = .ok (.invokestatic 239, 3) := by decide +kernel
theorem dX12_errorCame_461 : decode cX12_errorCame 461 = .ok (.aload_n 0, 1) := by decide +kernel
theorem dX12_errorCame_462 : decode cX12_errorCame 462 = .ok (.getfield 13, 3) := by decide +kernel
theorem dX12_errorCame_465 : decode cX12_errorCame 465 = .ok (.bipush 80, 2) := by decide +kernel
theorem dX12_errorCame_467 : decode cX12_errorCame 467 = .ok (.bipush 8, 2) := by decide +kernel
theorem dX12_errorCame_469 : decode cX12_errorCame 469 = .ok (.aload_n 0, 1) := by decide +kernel
theorem dX12_errorCame_470 : decode cX12_errorCame 470 = .ok (.aload_n 0, 1) := by decide +kernel
theorem dX12_errorCame_471 : decode cX12_errorCame 471 = .ok (.getfield 16, 3) := by decide +kernel
theorem dX12_errorCame_474 : decode cX12_errorCame 474 = .ok (.bipush 44, 2) := by decide +kernel
theorem dX12_errorCame_476 : decode cX12_errorCame 476 = .ok (.invokestatic 131, 3) := by decide +kernel
theorem dX12_errorCame_479 : decode cX12_errorCame 479 = .ok (.invokevirtual 280, 3) := by decide +kernel
theorem dX12_errorCame_482 : decode cX12_errorCame 482 = .ok (.invokestatic 239, 3) := by decide +kernel
theorem dX12_errorCame_485 : decode cX12_errorCame 485 = .ok (.iconst 0, 1) := by decide +kernel
theorem dX12_errorCame_486 : decode cX12_errorCame 486 = .ok (.istore 11, 2) := by decide +kernel
theorem dX12_errorCame_488 : decode cX12_errorCame 488 = .ok (.iload 11, 2) := by decide +kernel
theorem dX12_errorCame_490 : decode cX12_errorCame 490 = .ok (.iload 4, 2) := by decide +kernel
theorem dX12_errorCame_492 : decode cX12_errorCame 492 = .ok (.if_icmp .ge 41, 3) := by decide +kernel
theorem dX12_errorCame_495 : decode cX12_errorCame 495 = .ok (.bipush 88, 2) := by decide +kernel
theorem dX12_errorCame_497 : decode cX12_errorCame 497 = .ok (.iload 11, 2) := by decide +kernel
theorem dX12_errorCame_499 : decode cX12_errorCame 499 = .ok (.iadd, 1) := by decide +kernel
theorem dX12_errorCame_500 : decode cX12_errorCame 500 = .ok (.aload_n 0, 1) := by decide +kernel
theorem dX12_errorCame_501 : decode cX12_errorCame 501 = .ok (.getfield 234, 3) := by decide +kernel
theorem dX12_errorCame_504 : decode cX12_errorCame 504 = .ok (.if_icmp .ge 29, 3) := by decide +kernel
theorem dX12_errorCame_507 : decode cX12_errorCame 507 = .ok (.aload_n 0, 1) := by decide +kernel
theorem dX12_errorCame_508 : decode cX12_errorCame 508 = .ok (.getfield 13, 3) := by decide +kernel
theorem dX12_errorCame_511 : decode cX12_errorCame 511 = .ok (.bipush 88, 2) := by decide +kernel
theorem dX12_errorCame_513 : decode cX12_errorCame 513 = .ok (.iload 11, 2) := by decide +kernel
theorem dX12_errorCame_515 : decode cX12_errorCame 515 = .ok (.iadd, 1) := by decide +kernel
theorem dX12_errorCame_516 : decode cX12_errorCame 516 = .ok (.aload_n 0, 1) := by decide +kernel
theorem dX12_errorCame_517 : decode cX12_errorCame 517 = .ok (.getfield 16, 3) := by decide +kernel
theorem dX12_errorCame_520 : decode cX12_errorCame 520 = .ok (.bipush 48, 2) := by decide +kernel
theorem dX12_errorCame_522 : decode cX12_errorCame 522 = .ok (.iload 11, 2) := by decide +kernel
theorem dX12_errorCame_524 : decode cX12_errorCame 524 = .ok (.iadd, 1) := by decide +kernel
theorem dX12_errorCame_525 : decode cX12_errorCame 525 = .ok (.baload, 1) := by decide +kernel
theorem dX12_errorCame_526 : decode cX12_errorCame 526 = .ok (.bastore, 1) := by decide +kernel
theorem dX12_errorCame_527 : decode cX12_errorCame 527 = .ok (.iinc 11 1, 3) := by decide +kernel
theorem dX12_errorCame_530 : decode cX12_errorCame 530 = .ok (.goto (-42), 3) := by decide +kernel
theorem dX12_errorCame_533 : decode cX12_errorCame 533 = .ok (.iload_n 1, 1) := by decide +kernel
theorem dX12_errorCame_534 : decode cX12_errorCame 534 = .ok (.iconst 1, 1) := by decide +kernel
theorem dX12_errorCame_535 : decode cX12_errorCame 535 = .ok (.if_icmp .ne 36, 3) := by decide +kernel
theorem dX12_errorCame_538 : decode cX12_errorCame 538 = .ok (.aload_n 0, 1) := by decide +kernel
theorem dX12_errorCame_539 : decode cX12_errorCame 539 = .ok (.getfield 13, 3) := by decide +kernel
theorem dX12_errorCame_542 : decode cX12_errorCame 542 = .ok (.bipush 88, 2) := by decide +kernel
theorem dX12_errorCame_544 : decode cX12_errorCame 544 = .ok (.iconst 1, 1) := by decide +kernel
theorem dX12_errorCame_545 : decode cX12_errorCame 545 = .ok (.ldc2_w 267, 3) := by decide +kernel
theorem dX12_errorCame_548 : decode cX12_errorCame 548 = .ok (.invokestatic 239, 3) := by decide +kernel
theorem dX12_errorCame_551 : decode cX12_errorCame 551 = .ok (.aload_n 0, 1) := by decide +kernel
theorem dX12_errorCame_552 : decode cX12_errorCame 552 = .ok (.getfield 13, 3) := by decide +kernel
theorem dX12_errorCame_555 : decode cX12_errorCame 555 = .ok (.bipush 92, 2) := by decide +kernel
theorem dX12_errorCame_557 : decode cX12_errorCame 557 = .ok (.iconst 2, 1) := by decide +kernel
theorem dX12_errorCame_558 : decode cX12_errorCame 558 = .ok (.aload_n 0, 1) := by decide +kernel
theorem dX12_errorCame_559 : decode cX12_errorCame 559 = .ok (.getfield 33, 3) := by decide +kernel
theorem dX12_errorCame_562 : decode cX12_errorCame 562 = .ok (.iload_n 3, 1) := by decide +kernel
theorem dX12_errorCame_563 : decode cX12_errorCame 563 = .ok (.iaload, 1) := by decide +kernel
theorem dX12_errorCame_564 : decode cX12_errorCame 564 = .ok (.i2l, 1) := by decide +kernel
theorem dX12_errorCame_565 : decode cX12_errorCame 565 = .ok (.invokestatic 239, 3) := by decide +kernel
theorem dX12_errorCame_568 : decode cX12_errorCame 568 = .ok (.goto 20, 3) := by decide +kernel
theorem dX12_errorCame_571 : decode cX12_errorCame 571 = .ok (.aload_n 0, 1) := by decide +kernel
theorem dX12_errorCame_572 : decode cX12_errorCame 572 = .ok (.getfield 13, 3) := by decide +kernel
theorem dX12_errorCame_575 : decode cX12_errorCame 575 = .ok (.bipush 88, 2) := by decide +kernel
theorem dX12_errorCame_577 : decode cX12_errorCame 577 = .ok (.iconst 2, 1) := by decide +kernel
theorem dX12_errorCame_578 : decode cX12_errorCame 578 = .ok (.aload_n 0, 1) := by decide +kernel
theorem dX12_errorCame_579 : decode cX12_errorCame 579 = .ok (.getfield 33, 3) := by decide +kernel
theorem dX12_errorCame_582 : decode cX12_errorCame 582 = .ok (.iload_n 3, 1) := by decide +kernel
theorem dX12_errorCame_583 : decode cX12_errorCame 583 = .ok (.iaload, 1) := by decide +kernel
theorem dX12_errorCame_584 : decode cX12_errorCame 584 = .ok (.i2l, 1) := by decide +kernel
theorem dX12_errorCame_585 : decode cX12_errorCame 585 = .ok (.invokestatic 239, 3) := by decide +kernel
theorem dX12_errorCame_588 : decode cX12_errorCame 588 = .ok (.aload_n 0, 1) := by decide +kernel
theorem dX12_errorCame_589 : decode cX12_errorCame 589 = .ok (.bipush 58, 2) := by decide +kernel
theorem dX12_errorCame_591 : decode cX12_errorCame 591 = .ok (.invokevirtual 271, 3) := by decide +kernel
theorem dX12_errorCame_594 : decode cX12_errorCame 594 = .ok (.aload_n 0, 1) := by decide +kernel
theorem dX12_errorCame_595 : decode cX12_errorCame 595 = .ok (.getfield 234, 3) := by decide +kernel
theorem dX12_errorCame_598 : decode cX12_errorCame 598 = .ok (.ireturn, 1) := by decide +kernel
theorem yv_X12_errorCame : YV RX12 yX12_errorCame cX12_errorCame 12 (some .int) 0 := ⟨kw5_149, kws_44, kw1_10, kw5_150, by decide +kernel⟩
set_option maxHeartbeats 4000000 in
set_option maxRecDepth 100000 in
theorem c_X12_errorCame0 {l : Launch} {D : va_G} {cy : Nat → ClassId} {o : Nat} {ad : Nat → Nat} {tl : va_W} {tp os sz bits F G u nb ns T M id : Nat} {ft fo fi : Nat → UInt8} {g : Nat → Int32} {pt ih il ip pn op so fa fp st en dr : Nat → Nat} (hb_pt : ∀ i, pt i < 2 ^ 31) (hb_ih : ∀ i, ih i < 2 ^ 64) (hb_il : ∀ i, il i < 2 ^ 64) (hb_ip : ∀ i, ip i < 2 ^ 31) (hb_pn : ∀ i, pn i < 2 ^ 31) (hb_op : ∀ i, op i < 2 ^ 31) (hb_pn4 : ∀ i, pn i < 4) (hb_so : ∀ i, so i < 2 ^ 31) (hb_fa : ∀ i, fa i < 2 ^ 32) (hb_fp : ∀ i, fp i < 2 ^ 31) (hb_st : ∀ i, st i ≤ 7) (hsz1 : sz ≤ 1600) (hos : os ≤ 1640) (hsi : SI bits F G) (hu : u ≤ 4) (hnb : nb ≤ 64) {q port num : Nat} (eq0 : q = tg_rd fi sz 37) (eport : port = tg_pr (tg_rd fi sz) (48 + tg_spa q)) (enum : num = tg_first (fun k => decide (g k = nI (tg_qd (tg_rd fi sz) 40))) u) (hz0 : tg_out (tg_rd fi sz) sz bits g u = 0) (herr : tg_isErr (tg_rd fi sz) = true) (hfb : ¬ tg_first (fun k => decide (pt k = q ∧ pn k = num ∧ op k = port)) nb < nb) : WR (S := Unit) l yX12_errorCame cX12_errorCame 12 (some .int) 3 0 0 63 [.ref o] D cy (mW cy o ad tp os sz bits F G u nb ns T M id ft fo fi g pt ih il ip pn op so fa fp st en dr ++ tl) (fun u_ => some (.int (- nI 15))) (fun _ => True) (fun _ => mW cy o ad tp os sz bits F G u nb ns T M id ft fo fi g pt ih il ip pn op so fa fp st en (va_up dr 15 (dr 15 + 1)) ++ tl) := by
  refine WRi (by decide) (lv0 := [(0, .ref o)]) rfl (Nat.le_of_ble_eq_true rfl) ?_
  intro p e s m args below meth c ls A Q S hnm hP hK hD hS hA hend hl
  have hx := S.1
  have hb := S.2.1
  have hown : s.vm.findClass RX12 = some m.cls := S.2.2.2.1
  have ht : ∀ w ∈ lw_g, w.before args s = true := fun w h => S.2.2.2.2 w (List.mem_cons_of_mem _ h)
  have hP : va_P D vwCl (mW cy o ad tp os sz bits F G u nb ns T M id ft fo fi g pt ih il ip pn op so fa fp st en dr ++ tl) s.heap := hP
  have hou := out0 hz0
  have her := hou.2.2.2 herr
  have hnu : num < u := by rw [enum]; exact (num_is her.2.2).2
  have hq3 : q = 1 ∨ q = 6 ∨ q = 17 := by rw [eq0]; exact her.2.1
  have hport : port < 65536 := by rw [eport]; exact tg_pr_lt _ _ _
  refine lv_aload_n hx hb dX12_errorCame_0 rfl (lv_at hl 0 rfl) ?_
  refine va_get (ci := 9) (C := RX12) (T := TX12) (N := 28) hx hb ht iFX12 hown hK hP 0 rfl rfl 4 (by decide) (ht _ kw4_114) (fun _ h9 => h9) rfl dX12_errorCame_1 ?_
  refine nv_bipush (k := 37) hx hb dX12_errorCame_4 (by decide) ?_
  refine ro_S S (c_X12_at (AR_of (ws := mW cy o ad tp os sz bits F G u nb ns T M id ft fo fi g pt ih il ip pn op so fa fp st en dr ++ tl) (kr := 3) (N := 1600) (n := sz) rfl (by omega) (by omega)) (i := 37) (by omega)) kw5_41 yv_X12_at ⟨Nat.le_of_ble_eq_true rfl, Nat.le_of_ble_eq_true rfl⟩ hK hP rfl hl.1 rfl (Nat.le_of_ble_eq_true rfl) dX12_errorCame_6 ⟨(Nat.zero_le _), (Nat.zero_le _)⟩ ?_
  have hq6 := tg_rd_lt fi sz 37
  rw [← eq0]
  refine lv_istore_n (lv' := [(1, .int (nI q)), (0, .ref o)]) hx hb dX12_errorCame_9 rfl hl (by decide) rfl (fun ls hl => ?_)
  refine lv_iload_n hx hb dX12_errorCame_10 rfl (lv_at hl 0 rfl) ?_
  refine nv_iconst (k := 1) hx hb dX12_errorCame_11 rfl ?_
  have J36 : ∀ ls : Array Slot, lv_has ls 12 [(1, .int (nI q)), (0, .ref o)] → W p l e (rmw 3 0 0 63) s m args below meth c s.heap [] 0 0 Q (F0 m 36 ls [.int (nI port)]) := by
    intro ls hl
    refine lv_istore_n (lv' := [(2, .int (nI port)), (1, .int (nI q)), (0, .ref o)]) hx hb dX12_errorCame_36 rfl hl (by decide) rfl (fun ls hl => ?_)
    refine lv_aload_n hx hb dX12_errorCame_37 rfl (lv_at hl 2 rfl) ?_
    refine lv_iload_n hx hb dX12_errorCame_38 rfl (lv_at hl 1 rfl) ?_
    refine lv_aload_n hx hb dX12_errorCame_39 rfl (lv_at hl 2 rfl) ?_
    refine lv_aload_n hx hb dX12_errorCame_40 rfl (lv_at hl 2 rfl) ?_
    refine va_get (ci := 9) (C := RX12) (T := TX12) (N := 28) hx hb ht iFX12 hown hK hP 0 rfl rfl 4 (by decide) (ht _ kw4_114) (fun _ h9 => h9) rfl dX12_errorCame_41 ?_
    refine nv_bipush (k := 40) hx hb dX12_errorCame_44 (by decide) ?_
    refine ro_S S (c_X12_four (AR_of (ws := mW cy o ad tp os sz bits F G u nb ns T M id ft fo fi g pt ih il ip pn op so fa fp st en dr ++ tl) (kr := 3) (N := 1600) (n := sz) rfl (by omega) (by omega)) (i := 40) (by omega)) kw5_72 yv_X12_four ⟨Nat.le_of_ble_eq_true rfl, Nat.le_of_ble_eq_true rfl⟩ hK hP rfl hl.1 rfl (Nat.le_of_ble_eq_true rfl) dX12_errorCame_46 ⟨(Nat.zero_le _), (Nat.zero_le _)⟩ ?_
    have hq46 := tg_qd_lt fi sz 40
    refine ro_V S (c_X12_poolOf (ws := mW cy o ad tp os sz bits F G u nb ns T M id ft fo fi g pt ih il ip pn op so fa fp st en dr ++ tl) (km := 0) rfl rfl rfl (kq := 4) rfl hu (x := tg_qd (tg_rd fi sz) 40) (by omega)) kw4_209 yv_X12_poolOf ⟨Nat.le_of_ble_eq_true rfl, Nat.le_of_ble_eq_true rfl⟩ hK hP (va_recv hK hP (ci := 9) (q0 := 0) rfl rfl) rfl hl.1 rfl (Nat.le_of_ble_eq_true rfl) dX12_errorCame_49 ⟨(Nat.zero_le _), (Nat.zero_le _)⟩ ?_
    rw [(num_is her.2.2).1, ← enum]
    refine lv_iload_n hx hb dX12_errorCame_52 rfl (lv_at hl 0 rfl) ?_
    refine ro_V S (c_X12_findOuter (ws := mW cy o ad tp os sz bits F G u nb ns T M id ft fo fi g pt ih il ip pn op so fa fp st en dr ++ tl) (km := 0) rfl rfl rfl rfl rfl (k_pt := 5) rfl hb_pt (k_pn := 9) rfl hb_pn (k_op := 10) rfl hb_op hnb (q := q) (num := num) (port := port) (by omega) (by omega) (by omega)) kw5_98 yv_X12_findOuter ⟨Nat.le_of_ble_eq_true rfl, Nat.le_of_ble_eq_true rfl⟩ hK hP (va_recv hK hP (ci := 9) (q0 := 0) rfl rfl) rfl hl.1 rfl (Nat.le_of_ble_eq_true rfl) dX12_errorCame_53 ⟨(Nat.zero_le _), (Nat.zero_le _)⟩ ?_
    rw [fb_no hfb]
    refine lv_istore_n (lv' := [(3, .int (-1)), (2, .int (nI port)), (1, .int (nI q)), (0, .ref o)]) hx hb dX12_errorCame_56 rfl hl (by decide) rfl (fun ls hl => ?_)
    refine lv_iload_n hx hb dX12_errorCame_57 rfl (lv_at hl 0 rfl) ?_
    refine lv_if_ge (tgt := 68) hx hb dX12_errorCame_58 (by decide) (fun h9 => absurd h9 (by decide)) (fun _ => ?_)
    refine lv_aload_n hx hb dX12_errorCame_61 rfl (lv_at hl 3 rfl) ?_
    refine nv_bipush (k := 15) hx hb dX12_errorCame_62 (by decide) ?_
    refine wr_V S (c_X12_drops (x := 15) (by omega)) kw5_75 yv_X12_drops ⟨Nat.le_of_ble_eq_true rfl, Nat.le_of_ble_eq_true rfl⟩ hK hP hD hS hA (va_recv hK hP (ci := 9) (q0 := 0) rfl rfl) rfl hl.1 rfl (Nat.le_of_ble_eq_true rfl) dX12_errorCame_64 ⟨Nat.zero_le _, Nat.zero_le _⟩ (fun u2 H locs hu2 hP hD hS => ?_)
    have hP : va_P D vwCl (mW cy o ad tp os sz bits F G u nb ns T M id ft fo fi g pt ih il ip pn op so fa fp st en (va_up dr 15 (dr 15 + 1)) ++ tl) H := hP
    have hD : va_D A (mW cy o ad tp os sz bits F G u nb ns T M id ft fo fi g pt ih il ip pn op so fa fp st en (va_up dr 15 (dr 15 + 1)) ++ tl) := hD
    refine W.eq (g2 := F0 m 67 ls [.int (- nI 15)]) rfl ?_
    exact hend () rfl trivial hP hD hS dX12_errorCame_67
  refine nv_icmp_ne (tgt := 27) hx hb dX12_errorCame_12 (by decide) (by omega) (by omega) (fun h12 => ?_) (fun h12 => ?_)
  · skip
    refine lv_aload_n hx hb dX12_errorCame_27 rfl (lv_at hl 1 rfl) ?_
    refine va_get (ci := 9) (C := RX12) (T := TX12) (N := 28) hx hb ht iFX12 hown hK hP 0 rfl rfl 4 (by decide) (ht _ kw4_114) (fun _ h9 => h9) rfl dX12_errorCame_28 ?_
    refine nv_bipush (k := 48) hx hb dX12_errorCame_31 (by decide) ?_
    refine ro_S S (c_X12_two (AR_of (ws := mW cy o ad tp os sz bits F G u nb ns T M id ft fo fi g pt ih il ip pn op so fa fp st en dr ++ tl) (kr := 3) (N := 1600) (n := sz) rfl (by omega) (by omega)) (i := 48) (by omega)) kw5_44 yv_X12_two ⟨Nat.le_of_ble_eq_true rfl, Nat.le_of_ble_eq_true rfl⟩ hK hP rfl hl.1 rfl (Nat.le_of_ble_eq_true rfl) dX12_errorCame_33 ⟨(Nat.zero_le _), (Nat.zero_le _)⟩ ?_
    have hq33 := tg_pr_lt fi sz 48
    refine W.eq (g2 := F0 m 36 ls [.int (nI port)]) (congrArg (fun z9 => F0 m 36 ls [.int (nI z9)]) (show tg_pr (tg_rd fi sz) 48 = port from (by rw [eport]; unfold tg_spa; split <;> first | rfl | (exfalso; omega)))) ?_
    exact J36 ls (lv_sub hl [0, 1] rfl)
  refine lv_aload_n hx hb dX12_errorCame_15 rfl (lv_at hl 1 rfl) ?_
  refine va_get (ci := 9) (C := RX12) (T := TX12) (N := 28) hx hb ht iFX12 hown hK hP 0 rfl rfl 4 (by decide) (ht _ kw4_114) (fun _ h9 => h9) rfl dX12_errorCame_16 ?_
  refine nv_bipush (k := 52) hx hb dX12_errorCame_19 (by decide) ?_
  refine ro_S S (c_X12_two (AR_of (ws := mW cy o ad tp os sz bits F G u nb ns T M id ft fo fi g pt ih il ip pn op so fa fp st en dr ++ tl) (kr := 3) (N := 1600) (n := sz) rfl (by omega) (by omega)) (i := 52) (by omega)) kw5_44 yv_X12_two ⟨Nat.le_of_ble_eq_true rfl, Nat.le_of_ble_eq_true rfl⟩ hK hP rfl hl.1 rfl (Nat.le_of_ble_eq_true rfl) dX12_errorCame_21 ⟨(Nat.zero_le _), (Nat.zero_le _)⟩ ?_
  have hq21 := tg_pr_lt fi sz 52
  refine lv_goto (tgt := 36) hx hb dX12_errorCame_24 (by decide) ?_
  refine W.eq (g2 := F0 m 36 ls [.int (nI port)]) (congrArg (fun z9 => F0 m 36 ls [.int (nI z9)]) (show tg_pr (tg_rd fi sz) 52 = port from (by rw [eport]; unfold tg_spa; split <;> first | rfl | (exfalso; omega)))) ?_
  exact J36 ls (lv_sub hl [0, 1] rfl)
set_option maxHeartbeats 4000000 in
set_option maxRecDepth 100000 in
theorem c_X12_errorCame1 {l : Launch} {D : va_G} {cy : Nat → ClassId} {o : Nat} {ad : Nat → Nat} {tl : va_W} {tp os sz bits F G u nb ns T M id : Nat} {ft fo fi : Nat → UInt8} {g : Nat → Int32} {pt ih il ip pn op so fa fp st en dr : Nat → Nat} (hb_pt : ∀ i, pt i < 2 ^ 31) (hb_ih : ∀ i, ih i < 2 ^ 64) (hb_il : ∀ i, il i < 2 ^ 64) (hb_ip : ∀ i, ip i < 2 ^ 31) (hb_pn : ∀ i, pn i < 2 ^ 31) (hb_op : ∀ i, op i < 2 ^ 31) (hb_pn4 : ∀ i, pn i < 4) (hb_so : ∀ i, so i < 2 ^ 31) (hb_fa : ∀ i, fa i < 2 ^ 32) (hb_fp : ∀ i, fp i < 2 ^ 31) (hb_st : ∀ i, st i ≤ 7) (hsz1 : sz ≤ 1600) (hos : os ≤ 1640) (hsi : SI bits F G) (hu : u ≤ 4) (hnb : nb ≤ 64) {q port num : Nat} (eq0 : q = tg_rd fi sz 37) (eport : port = tg_pr (tg_rd fi sz) (48 + tg_spa q)) (enum : num = tg_first (fun k => decide (g k = nI (tg_qd (tg_rd fi sz) 40))) u) (hz0 : tg_out (tg_rd fi sz) sz bits g u = 0) (herr : tg_isErr (tg_rd fi sz) = true) {b : Nat} (hb9 : b < nb) (hfb : tg_first (fun k => decide (pt k = q ∧ pn k = num ∧ op k = port)) nb = b) (hip9 : ip b < 65536) : WR (S := (Nat → UInt8)) l yX12_errorCame cX12_errorCame 12 (some .int) 5 0 0 118 [.ref o] D cy (mW cy o ad tp os sz bits F G u nb ns T M id ft fo fi g pt ih il ip pn op so fa fp st en dr ++ tl) (fun u_ => some (.int (nI (min (sz + 40) 1280)))) (fun z9 => z9 = mk_err fo fi sz q (ip b) (ih b) (il b) bits F G) (fun z9 => mW cy o ad tp (min (sz + 40) 1280) sz bits F G u nb ns T (M + 1) id ft z9 fi g pt ih il ip pn op so fa fp st en dr ++ tl) := by
  refine WRi (by decide) (lv0 := [(0, .ref o)]) rfl (Nat.le_of_ble_eq_true rfl) ?_
  intro p e s m args below meth c ls A Q S hnm hP hK hD hS hA hend hl
  have hx := S.1
  have hb := S.2.1
  have hown : s.vm.findClass RX12 = some m.cls := S.2.2.2.1
  have ht : ∀ w ∈ lw_g, w.before args s = true := fun w h => S.2.2.2.2 w (List.mem_cons_of_mem _ h)
  have hP : va_P D vwCl (mW cy o ad tp os sz bits F G u nb ns T M id ft fo fi g pt ih il ip pn op so fa fp st en dr ++ tl) s.heap := hP
  have hou := out0 hz0
  have her := hou.2.2.2 herr
  have hnu : num < u := by rw [enum]; exact (num_is her.2.2).2
  have hq3 : q = 1 ∨ q = 6 ∨ q = 17 := by rw [eq0]; exact her.2.1
  have hport : port < 65536 := by rw [eport]; exact tg_pr_lt _ _ _
  have hihb := hb_ih b
  have hilb := hb_il b
  have hszn : 56 ≤ sz := her.1
  obtain ⟨len9, elen⟩ : ∃ z, z = min (sz + 40) 1280 - 40 := ⟨_, rfl⟩
  obtain ⟨mu, emu⟩ : ∃ z, z = mk_mu (tg_rd fi sz) := ⟨_, rfl⟩
  obtain ⟨nu, enu⟩ : ∃ z, z = mk_nu (tg_rd fi sz) := ⟨_, rfl⟩
  obtain ⟨rm, erm⟩ : ∃ z, z = mk_rm (tg_rd fi sz) := ⟨_, rfl⟩
  obtain ⟨nx, enx⟩ : ∃ z, z = tg_nx q := ⟨_, rfl⟩
  have hmu : mu ≤ 3 := by rw [emu]; unfold mk_mu; (repeat' split) <;> omega
  have hnu9 : nu < 256 := by rw [enu]; unfold mk_nu; have := tg_rd_lt fi sz 21; (repeat' split) <;> omega
  have hrm : rm < 2 ^ 31 := by rw [erm]; unfold mk_rm; have := tg_pr_lt fi sz 26; split <;> omega
  have hnxl : nx < 256 := by rw [enx]; exact tg_nx_lt hq3
  refine lv_aload_n hx hb dX12_errorCame_0 rfl (lv_at hl 0 rfl) ?_
  refine va_get (ci := 9) (C := RX12) (T := TX12) (N := 28) hx hb ht iFX12 hown hK hP 0 rfl rfl 4 (by decide) (ht _ kw4_114) (fun _ h9 => h9) rfl dX12_errorCame_1 ?_
  refine nv_bipush (k := 37) hx hb dX12_errorCame_4 (by decide) ?_
  refine ro_S S (c_X12_at (AR_of (ws := mW cy o ad tp os sz bits F G u nb ns T M id ft fo fi g pt ih il ip pn op so fa fp st en dr ++ tl) (kr := 3) (N := 1600) (n := sz) rfl (by omega) (by omega)) (i := 37) (by omega)) kw5_41 yv_X12_at ⟨Nat.le_of_ble_eq_true rfl, Nat.le_of_ble_eq_true rfl⟩ hK hP rfl hl.1 rfl (Nat.le_of_ble_eq_true rfl) dX12_errorCame_6 ⟨(Nat.zero_le _), (Nat.zero_le _)⟩ ?_
  have hq6 := tg_rd_lt fi sz 37
  rw [← eq0]
  refine lv_istore_n (lv' := [(1, .int (nI q)), (0, .ref o)]) hx hb dX12_errorCame_9 rfl hl (by decide) rfl (fun ls hl => ?_)
  refine lv_iload_n hx hb dX12_errorCame_10 rfl (lv_at hl 0 rfl) ?_
  refine nv_iconst (k := 1) hx hb dX12_errorCame_11 rfl ?_
  have J36 : ∀ ls : Array Slot, lv_has ls 12 [(1, .int (nI q)), (0, .ref o)] → W p l e (rmw 5 0 0 118) s m args below meth c s.heap [] 0 0 Q (F0 m 36 ls [.int (nI port)]) := by
    intro ls hl
    refine lv_istore_n (lv' := [(2, .int (nI port)), (1, .int (nI q)), (0, .ref o)]) hx hb dX12_errorCame_36 rfl hl (by decide) rfl (fun ls hl => ?_)
    refine lv_aload_n hx hb dX12_errorCame_37 rfl (lv_at hl 2 rfl) ?_
    refine lv_iload_n hx hb dX12_errorCame_38 rfl (lv_at hl 1 rfl) ?_
    refine lv_aload_n hx hb dX12_errorCame_39 rfl (lv_at hl 2 rfl) ?_
    refine lv_aload_n hx hb dX12_errorCame_40 rfl (lv_at hl 2 rfl) ?_
    refine va_get (ci := 9) (C := RX12) (T := TX12) (N := 28) hx hb ht iFX12 hown hK hP 0 rfl rfl 4 (by decide) (ht _ kw4_114) (fun _ h9 => h9) rfl dX12_errorCame_41 ?_
    refine nv_bipush (k := 40) hx hb dX12_errorCame_44 (by decide) ?_
    refine ro_S S (c_X12_four (AR_of (ws := mW cy o ad tp os sz bits F G u nb ns T M id ft fo fi g pt ih il ip pn op so fa fp st en dr ++ tl) (kr := 3) (N := 1600) (n := sz) rfl (by omega) (by omega)) (i := 40) (by omega)) kw5_72 yv_X12_four ⟨Nat.le_of_ble_eq_true rfl, Nat.le_of_ble_eq_true rfl⟩ hK hP rfl hl.1 rfl (Nat.le_of_ble_eq_true rfl) dX12_errorCame_46 ⟨(Nat.zero_le _), (Nat.zero_le _)⟩ ?_
    have hq46 := tg_qd_lt fi sz 40
    refine ro_V S (c_X12_poolOf (ws := mW cy o ad tp os sz bits F G u nb ns T M id ft fo fi g pt ih il ip pn op so fa fp st en dr ++ tl) (km := 0) rfl rfl rfl (kq := 4) rfl hu (x := tg_qd (tg_rd fi sz) 40) (by omega)) kw4_209 yv_X12_poolOf ⟨Nat.le_of_ble_eq_true rfl, Nat.le_of_ble_eq_true rfl⟩ hK hP (va_recv hK hP (ci := 9) (q0 := 0) rfl rfl) rfl hl.1 rfl (Nat.le_of_ble_eq_true rfl) dX12_errorCame_49 ⟨(Nat.zero_le _), (Nat.zero_le _)⟩ ?_
    rw [(num_is her.2.2).1, ← enum]
    refine lv_iload_n hx hb dX12_errorCame_52 rfl (lv_at hl 0 rfl) ?_
    refine ro_V S (c_X12_findOuter (ws := mW cy o ad tp os sz bits F G u nb ns T M id ft fo fi g pt ih il ip pn op so fa fp st en dr ++ tl) (km := 0) rfl rfl rfl rfl rfl (k_pt := 5) rfl hb_pt (k_pn := 9) rfl hb_pn (k_op := 10) rfl hb_op hnb (q := q) (num := num) (port := port) (by omega) (by omega) (by omega)) kw5_98 yv_X12_findOuter ⟨Nat.le_of_ble_eq_true rfl, Nat.le_of_ble_eq_true rfl⟩ hK hP (va_recv hK hP (ci := 9) (q0 := 0) rfl rfl) rfl hl.1 rfl (Nat.le_of_ble_eq_true rfl) dX12_errorCame_53 ⟨(Nat.zero_le _), (Nat.zero_le _)⟩ ?_
    rw [fb_at (ws := 0) hfb hb9]
    refine lv_istore_n (lv' := [(3, .int (nI b)), (2, .int (nI port)), (1, .int (nI q)), (0, .ref o)]) hx hb dX12_errorCame_56 rfl hl (by decide) rfl (fun ls hl => ?_)
    refine lv_iload_n hx hb dX12_errorCame_57 rfl (lv_at hl 0 rfl) ?_
    refine nv_if_ge (tgt := 68) hx hb dX12_errorCame_58 (by decide) (by omega) ?_
    refine lv_aload_n hx hb dX12_errorCame_68 rfl (lv_at hl 3 rfl) ?_
    refine va_get (ci := 9) (C := RX12) (T := TX12) (N := 28) hx hb ht iFX12 hown hK hP 0 rfl rfl 5 (by decide) (ht _ kw4_115) (fun _ h9 => h9) rfl dX12_errorCame_69 ?_
    refine nv_bipush (k := 48) hx hb dX12_errorCame_72 (by decide) ?_
    refine nv_isub hx hb (by omega) dX12_errorCame_74 ?_
    refine lv_istore (lv' := [(4, .int (nI (sz - 48))), (3, .int (nI b)), (2, .int (nI port)), (1, .int (nI q)), (0, .ref o)]) hx hb dX12_errorCame_75 hl (by decide) rfl (fun ls hl => ?_)
    refine nv_bipush (k := 48) hx hb dX12_errorCame_77 (by decide) ?_
    refine lv_iload hx hb dX12_errorCame_79 (lv_at hl 0 rfl) ?_
    refine nv_iadd hx hb dX12_errorCame_81 ?_
    refine nv_sipush (k := 1240) hx hb dX12_errorCame_82 (by decide) ?_
    have J99 : ∀ ls : Array Slot, lv_has ls 12 [(4, .int (nI (sz - 48))), (3, .int (nI b)), (2, .int (nI port)), (1, .int (nI q)), (0, .ref o)] → W p l e (rmw 5 0 0 118) s m args below meth c s.heap [] 0 0 Q (F0 m 99 ls [.int (nI len9)]) := by
      intro ls hl
      refine lv_istore (lv' := [(5, .int (nI len9)), (4, .int (nI (sz - 48))), (3, .int (nI b)), (2, .int (nI port)), (1, .int (nI q)), (0, .ref o)]) hx hb dX12_errorCame_99 hl (by decide) rfl (fun ls hl => ?_)
      refine lv_aload_n hx hb dX12_errorCame_101 rfl (lv_at hl 5 rfl) ?_
      refine lv_iload_n hx hb dX12_errorCame_102 rfl (lv_at hl 2 rfl) ?_
      refine lv_iload hx hb dX12_errorCame_103 (lv_at hl 0 rfl) ?_
      refine nv_bipush (k := 58) hx hb dX12_errorCame_105 (by decide) ?_
      refine wr_V S (c_X12_head (b := b) (len := len9) (nx := 58) (by omega) hsi hb_ih hb_il (by omega) (by omega) (by omega) (by omega) hou.1.2.2.2) kw5_151 yv_X12_head ⟨Nat.le_of_ble_eq_true rfl, Nat.le_of_ble_eq_true rfl⟩ hK hP hD hS hA (va_recv hK hP (ci := 9) (q0 := 0) rfl rfl) rfl hl.1 rfl (Nat.le_of_ble_eq_true rfl) dX12_errorCame_107 ⟨Nat.zero_le _, Nat.zero_le _⟩ (fun u7 H locs hu7 hP hD hS => ?_)
      obtain ⟨g0, hg0⟩ : ∃ z, z = mk_head fo fi sz len9 58 bits F G (ih b) (il b) := ⟨_, rfl⟩
      rw [← hg0] at hP hD
      have hP : va_P D vwCl (mW cy o ad tp (40 + len9) sz bits F G u nb ns T M id ft g0 fi g pt ih il ip pn op so fa fp st en dr ++ tl) H := hP
      have hD : va_D A (mW cy o ad tp (40 + len9) sz bits F G u nb ns T M id ft g0 fi g pt ih il ip pn op so fa fp st en dr ++ tl) := hD
      refine W.eq (g2 := F0 m 110 ls []) rfl ?_
      refine lv_aload_n hx hb dX12_errorCame_110 rfl (lv_at hl 5 rfl) ?_
      refine va_get (ci := 9) (C := RX12) (T := TX12) (N := 28) hx hb ht iFX12 hown hK hP 0 rfl rfl 4 (by decide) (ht _ kw4_114) (fun _ h9 => h9) rfl dX12_errorCame_111 ?_
      refine nv_bipush (k := 20) hx hb dX12_errorCame_114 (by decide) ?_
      refine ro_S S (c_X12_at (AR_of (ws := mW cy o ad tp (40 + len9) sz bits F G u nb ns T M id ft g0 fi g pt ih il ip pn op so fa fp st en dr ++ tl) (kr := 3) (N := 1600) (n := sz) rfl (by omega) (by omega)) (i := 20) (by omega)) kw5_41 yv_X12_at ⟨Nat.le_of_ble_eq_true rfl, Nat.le_of_ble_eq_true rfl⟩ hK hP rfl hl.1 rfl (Nat.le_of_ble_eq_true rfl) dX12_errorCame_116 ⟨(Nat.zero_le _), (Nat.zero_le _)⟩ ?_
      have hq116 := tg_rd_lt fi sz 20
      refine lv_istore (lv' := [(6, .int (nI (tg_rd fi sz 20))), (5, .int (nI len9)), (4, .int (nI (sz - 48))), (3, .int (nI b)), (2, .int (nI port)), (1, .int (nI q)), (0, .ref o)]) hx hb dX12_errorCame_119 hl (by decide) rfl (fun ls hl => ?_)
      refine lv_aload_n hx hb dX12_errorCame_121 rfl (lv_at hl 6 rfl) ?_
      refine va_get (ci := 9) (C := RX12) (T := TX12) (N := 28) hx hb ht iFX12 hown hK hP 0 rfl rfl 4 (by decide) (ht _ kw4_114) (fun _ h9 => h9) rfl dX12_errorCame_122 ?_
      refine nv_bipush (k := 21) hx hb dX12_errorCame_125 (by decide) ?_
      refine ro_S S (c_X12_at (AR_of (ws := mW cy o ad tp (40 + len9) sz bits F G u nb ns T M id ft g0 fi g pt ih il ip pn op so fa fp st en dr ++ tl) (kr := 3) (N := 1600) (n := sz) rfl (by omega) (by omega)) (i := 21) (by omega)) kw5_41 yv_X12_at ⟨Nat.le_of_ble_eq_true rfl, Nat.le_of_ble_eq_true rfl⟩ hK hP rfl hl.1 rfl (Nat.le_of_ble_eq_true rfl) dX12_errorCame_127 ⟨(Nat.zero_le _), (Nat.zero_le _)⟩ ?_
      have hq127 := tg_rd_lt fi sz 21
      refine lv_istore (lv' := [(7, .int (nI (tg_rd fi sz 21))), (6, .int (nI (tg_rd fi sz 20))), (5, .int (nI len9)), (4, .int (nI (sz - 48))), (3, .int (nI b)), (2, .int (nI port)), (1, .int (nI q)), (0, .ref o)]) hx hb dX12_errorCame_130 hl (by decide) rfl (fun ls hl => ?_)
      refine lv_iload hx hb dX12_errorCame_132 (lv_at hl 1 rfl) ?_
      refine nv_bipush (k := 11) hx hb dX12_errorCame_134 (by decide) ?_
      have J164 : ∀ ls : Array Slot, lv_has ls 12 [(7, .int (nI (tg_rd fi sz 21))), (6, .int (nI (tg_rd fi sz 20))), (5, .int (nI len9)), (4, .int (nI (sz - 48))), (3, .int (nI b)), (2, .int (nI port)), (1, .int (nI q)), (0, .ref o)] → W p l e (rmw 5 0 0 118) s m args below meth c H locs 0 0 Q (F0 m 164 ls [.int (nI mu)]) := by
        intro ls hl
        refine lv_istore (lv' := [(8, .int (nI mu)), (7, .int (nI (tg_rd fi sz 21))), (6, .int (nI (tg_rd fi sz 20))), (5, .int (nI len9)), (4, .int (nI (sz - 48))), (3, .int (nI b)), (2, .int (nI port)), (1, .int (nI q)), (0, .ref o)]) hx hb dX12_errorCame_164 hl (by decide) rfl (fun ls hl => ?_)
        refine lv_iload hx hb dX12_errorCame_166 (lv_at hl 2 rfl) ?_
        refine nv_bipush (k := 11) hx hb dX12_errorCame_168 (by decide) ?_
        have J231 : ∀ ls : Array Slot, lv_has ls 12 [(8, .int (nI mu)), (7, .int (nI (tg_rd fi sz 21))), (6, .int (nI (tg_rd fi sz 20))), (5, .int (nI len9)), (4, .int (nI (sz - 48))), (3, .int (nI b)), (2, .int (nI port)), (1, .int (nI q)), (0, .ref o)] → W p l e (rmw 5 0 0 118) s m args below meth c H locs 0 0 Q (F0 m 231 ls [.int (nI nu)]) := by
          intro ls hl
          refine lv_istore (lv' := [(9, .int (nI nu)), (8, .int (nI mu)), (7, .int (nI (tg_rd fi sz 21))), (6, .int (nI (tg_rd fi sz 20))), (5, .int (nI len9)), (4, .int (nI (sz - 48))), (3, .int (nI b)), (2, .int (nI port)), (1, .int (nI q)), (0, .ref o)]) hx hb dX12_errorCame_231 hl (by decide) rfl (fun ls hl => ?_)
          refine lv_aload_n hx hb dX12_errorCame_233 rfl (lv_at hl 9 rfl) ?_
          refine va_get (ci := 9) (C := RX12) (T := TX12) (N := 28) hx hb ht iFX12 hown hK hP 0 rfl rfl 2 (by decide) (ht _ kw4_112) (fun _ h9 => h9) rfl dX12_errorCame_234 ?_
          refine nv_bipush (k := 40) hx hb dX12_errorCame_237 (by decide) ?_
          refine nv_iconst (k := 1) hx hb dX12_errorCame_239 rfl ?_
          refine lv_iload hx hb dX12_errorCame_240 (lv_at hl 1 rfl) ?_
          refine nv_i2l hx hb (by omega) dX12_errorCame_242 ?_
          refine wr_S S (c_X12_put (ws := mW cy o ad tp (40 + len9) sz bits F G u nb ns T M id ft g0 fi g pt ih il ip pn op so fa fp st en dr ++ tl) (kr := 2) (N := 1640) rfl (by omega) (a := 40) (many := 1) (x := mu) (v := lN (mu)) (by omega) (by omega) (fun k hk => by rw [lN_toNat (by omega)])) kw5_123 yv_X12_put ⟨Nat.le_of_ble_eq_true rfl, Nat.le_of_ble_eq_true rfl⟩ hK hP hD hS hA rfl hl.1 rfl (Nat.le_of_ble_eq_true rfl) dX12_errorCame_243 ⟨Nat.zero_le _, Nat.zero_le _⟩ (fun g_1 H locs hg_1 hP hD hS => ?_)
          have hP : va_P D vwCl (mW cy o ad tp (40 + len9) sz bits F G u nb ns T M id ft g_1 fi g pt ih il ip pn op so fa fp st en dr ++ tl) H := hP
          have hD : va_D A (mW cy o ad tp (40 + len9) sz bits F G u nb ns T M id ft g_1 fi g pt ih il ip pn op so fa fp st en dr ++ tl) := hD
          refine W.eq (g2 := F0 m 246 ls []) rfl ?_
          refine lv_aload_n hx hb dX12_errorCame_246 rfl (lv_at hl 9 rfl) ?_
          refine va_get (ci := 9) (C := RX12) (T := TX12) (N := 28) hx hb ht iFX12 hown hK hP 0 rfl rfl 2 (by decide) (ht _ kw4_112) (fun _ h9 => h9) rfl dX12_errorCame_247 ?_
          refine nv_bipush (k := 41) hx hb dX12_errorCame_250 (by decide) ?_
          refine nv_iconst (k := 1) hx hb dX12_errorCame_252 rfl ?_
          refine lv_iload hx hb dX12_errorCame_253 (lv_at hl 0 rfl) ?_
          refine nv_i2l hx hb (by omega) dX12_errorCame_255 ?_
          refine wr_S S (c_X12_put (ws := mW cy o ad tp (40 + len9) sz bits F G u nb ns T M id ft g_1 fi g pt ih il ip pn op so fa fp st en dr ++ tl) (kr := 2) (N := 1640) rfl (by omega) (a := 41) (many := 1) (x := nu) (v := lN (nu)) (by omega) (by omega) (fun k hk => by rw [lN_toNat (by omega)])) kw5_123 yv_X12_put ⟨Nat.le_of_ble_eq_true rfl, Nat.le_of_ble_eq_true rfl⟩ hK hP hD hS hA rfl hl.1 rfl (Nat.le_of_ble_eq_true rfl) dX12_errorCame_256 ⟨Nat.zero_le _, Nat.zero_le _⟩ (fun g_2 H locs hg_2 hP hD hS => ?_)
          have hP : va_P D vwCl (mW cy o ad tp (40 + len9) sz bits F G u nb ns T M id ft g_2 fi g pt ih il ip pn op so fa fp st en dr ++ tl) H := hP
          have hD : va_D A (mW cy o ad tp (40 + len9) sz bits F G u nb ns T M id ft g_2 fi g pt ih il ip pn op so fa fp st en dr ++ tl) := hD
          refine W.eq (g2 := F0 m 259 ls []) rfl ?_
          refine lv_aload_n hx hb dX12_errorCame_259 rfl (lv_at hl 9 rfl) ?_
          refine va_get (ci := 9) (C := RX12) (T := TX12) (N := 28) hx hb ht iFX12 hown hK hP 0 rfl rfl 4 (by decide) (ht _ kw4_114) (fun _ h9 => h9) rfl dX12_errorCame_260 ?_
          refine nv_bipush (k := 26) hx hb dX12_errorCame_263 (by decide) ?_
          refine ro_S S (c_X12_two (AR_of (ws := mW cy o ad tp (40 + len9) sz bits F G u nb ns T M id ft g_2 fi g pt ih il ip pn op so fa fp st en dr ++ tl) (kr := 3) (N := 1600) (n := sz) rfl (by omega) (by omega)) (i := 26) (by omega)) kw5_44 yv_X12_two ⟨Nat.le_of_ble_eq_true rfl, Nat.le_of_ble_eq_true rfl⟩ hK hP rfl hl.1 rfl (Nat.le_of_ble_eq_true rfl) dX12_errorCame_265 ⟨(Nat.zero_le _), (Nat.zero_le _)⟩ ?_
          have hq265 := tg_pr_lt fi sz 26
          refine nv_bipush (k := 20) hx hb dX12_errorCame_268 (by decide) ?_
          refine nv_iadd hx hb dX12_errorCame_270 ?_
          refine lv_istore (lv' := [(10, .int (nI ((tg_pr (tg_rd fi sz) 26) + 20))), (9, .int (nI nu)), (8, .int (nI mu)), (7, .int (nI (tg_rd fi sz 21))), (6, .int (nI (tg_rd fi sz 20))), (5, .int (nI len9)), (4, .int (nI (sz - 48))), (3, .int (nI b)), (2, .int (nI port)), (1, .int (nI q)), (0, .ref o)]) hx hb dX12_errorCame_271 hl (by decide) rfl (fun ls hl => ?_)
          refine lv_aload_n hx hb dX12_errorCame_273 rfl (lv_at hl 10 rfl) ?_
          refine va_get (ci := 9) (C := RX12) (T := TX12) (N := 28) hx hb ht iFX12 hown hK hP 0 rfl rfl 2 (by decide) (ht _ kw4_112) (fun _ h9 => h9) rfl dX12_errorCame_274 ?_
          refine nv_bipush (k := 44) hx hb dX12_errorCame_277 (by decide) ?_
          refine nv_iconst (k := 4) hx hb dX12_errorCame_279 rfl ?_
          refine lv_iload hx hb dX12_errorCame_280 (lv_at hl 2 rfl) ?_
          refine nv_iconst (k := 2) hx hb dX12_errorCame_282 rfl ?_
          have J307 : ∀ ls : Array Slot, lv_has ls 12 [(10, .int (nI ((tg_pr (tg_rd fi sz) 26) + 20))), (9, .int (nI nu)), (8, .int (nI mu)), (7, .int (nI (tg_rd fi sz 21))), (6, .int (nI (tg_rd fi sz 20))), (5, .int (nI len9)), (4, .int (nI (sz - 48))), (3, .int (nI b)), (2, .int (nI port)), (1, .int (nI q)), (0, .ref o)] → W p l e (rmw 5 0 0 118) s m args below meth c H locs 0 0 Q (F0 m 307 ls [.long (lN (rm)), .int (nI 4), .int (nI 44), .ref (ad 1)]) := by
            intro ls hl
            refine wr_S S (c_X12_put (ws := mW cy o ad tp (40 + len9) sz bits F G u nb ns T M id ft g_2 fi g pt ih il ip pn op so fa fp st en dr ++ tl) (kr := 2) (N := 1640) rfl (by omega) (a := 44) (many := 4) (x := rm) (v := lN (rm)) (by omega) (by omega) (fun k hk => by rw [lN_toNat (by omega)])) kw5_123 yv_X12_put ⟨Nat.le_of_ble_eq_true rfl, Nat.le_of_ble_eq_true rfl⟩ hK hP hD hS hA rfl hl.1 rfl (Nat.le_of_ble_eq_true rfl) dX12_errorCame_307 ⟨Nat.zero_le _, Nat.zero_le _⟩ (fun g_3 H locs hg_3 hP hD hS => ?_)
            have hP : va_P D vwCl (mW cy o ad tp (40 + len9) sz bits F G u nb ns T M id ft g_3 fi g pt ih il ip pn op so fa fp st en dr ++ tl) H := hP
            have hD : va_D A (mW cy o ad tp (40 + len9) sz bits F G u nb ns T M id ft g_3 fi g pt ih il ip pn op so fa fp st en dr ++ tl) := hD
            refine W.eq (g2 := F0 m 310 ls []) rfl ?_
            refine lv_aload_n hx hb dX12_errorCame_310 rfl (lv_at hl 10 rfl) ?_
            refine va_get (ci := 9) (C := RX12) (T := TX12) (N := 28) hx hb ht iFX12 hown hK hP 0 rfl rfl 2 (by decide) (ht _ kw4_112) (fun _ h9 => h9) rfl dX12_errorCame_311 ?_
            refine nv_bipush (k := 48) hx hb dX12_errorCame_314 (by decide) ?_
            refine nv_iconst (k := 4) hx hb dX12_errorCame_316 rfl ?_
            refine nv_ldc2 (k := 1610612736) hx hb hown (ht _ kw5_155) (by decide) dX12_errorCame_317 ?_
            refine lv_aload_n hx hb dX12_errorCame_320 rfl (lv_at hl 10 rfl) ?_
            refine va_get (ci := 9) (C := RX12) (T := TX12) (N := 28) hx hb ht iFX12 hown hK hP 0 rfl rfl 4 (by decide) (ht _ kw4_114) (fun _ h9 => h9) rfl dX12_errorCame_321 ?_
            refine nv_bipush (k := 29) hx hb dX12_errorCame_324 (by decide) ?_
            refine ro_S S (c_X12_at (AR_of (ws := mW cy o ad tp (40 + len9) sz bits F G u nb ns T M id ft g_3 fi g pt ih il ip pn op so fa fp st en dr ++ tl) (kr := 3) (N := 1600) (n := sz) rfl (by omega) (by omega)) (i := 29) (by omega)) kw5_41 yv_X12_at ⟨Nat.le_of_ble_eq_true rfl, Nat.le_of_ble_eq_true rfl⟩ hK hP rfl hl.1 rfl (Nat.le_of_ble_eq_true rfl) dX12_errorCame_326 ⟨(Nat.zero_le _), (Nat.zero_le _)⟩ ?_
            have hq326 := tg_rd_lt fi sz 29
            refine nv_i2l hx hb (by omega) dX12_errorCame_329 ?_
            refine nv_bipush (k := 20) hx hb dX12_errorCame_330 (by decide) ?_
            refine nv_lshl hx hb (by omega) dX12_errorCame_332 ?_
            refine nv_lorc (k := 29) (q := 3) hx hb (by decide) (by omega) dX12_errorCame_333 ?_
            refine wr_S S (c_X12_put (ws := mW cy o ad tp (40 + len9) sz bits F G u nb ns T M id ft g_3 fi g pt ih il ip pn op so fa fp st en dr ++ tl) (kr := 2) (N := 1640) rfl (by omega) (a := 48) (many := 4) (x := 1610612736 + (tg_rd fi sz 29) * 2 ^ 20) (v := lN (1610612736 + (tg_rd fi sz 29) * 2 ^ 20)) (by omega) (by omega) (fun k hk => by rw [lN_toNat (by omega)])) kw5_123 yv_X12_put ⟨Nat.le_of_ble_eq_true rfl, Nat.le_of_ble_eq_true rfl⟩ hK hP hD hS hA rfl hl.1 rfl (Nat.le_of_ble_eq_true rfl) dX12_errorCame_334 ⟨Nat.zero_le _, Nat.zero_le _⟩ (fun g_4 H locs hg_4 hP hD hS => ?_)
            have hP : va_P D vwCl (mW cy o ad tp (40 + len9) sz bits F G u nb ns T M id ft g_4 fi g pt ih il ip pn op so fa fp st en dr ++ tl) H := hP
            have hD : va_D A (mW cy o ad tp (40 + len9) sz bits F G u nb ns T M id ft g_4 fi g pt ih il ip pn op so fa fp st en dr ++ tl) := hD
            refine W.eq (g2 := F0 m 337 ls []) rfl ?_
            refine lv_aload_n hx hb dX12_errorCame_337 rfl (lv_at hl 10 rfl) ?_
            refine va_get (ci := 9) (C := RX12) (T := TX12) (N := 28) hx hb ht iFX12 hown hK hP 0 rfl rfl 2 (by decide) (ht _ kw4_112) (fun _ h9 => h9) rfl dX12_errorCame_338 ?_
            refine nv_bipush (k := 52) hx hb dX12_errorCame_341 (by decide) ?_
            refine nv_iconst (k := 2) hx hb dX12_errorCame_343 rfl ?_
            refine lv_aload_n hx hb dX12_errorCame_344 rfl (lv_at hl 10 rfl) ?_
            refine va_get (ci := 9) (C := RX12) (T := TX12) (N := 28) hx hb ht iFX12 hown hK hP 0 rfl rfl 4 (by decide) (ht _ kw4_114) (fun _ h9 => h9) rfl dX12_errorCame_345 ?_
            refine nv_bipush (k := 30) hx hb dX12_errorCame_348 (by decide) ?_
            refine ro_S S (c_X12_two (AR_of (ws := mW cy o ad tp (40 + len9) sz bits F G u nb ns T M id ft g_4 fi g pt ih il ip pn op so fa fp st en dr ++ tl) (kr := 3) (N := 1600) (n := sz) rfl (by omega) (by omega)) (i := 30) (by omega)) kw5_44 yv_X12_two ⟨Nat.le_of_ble_eq_true rfl, Nat.le_of_ble_eq_true rfl⟩ hK hP rfl hl.1 rfl (Nat.le_of_ble_eq_true rfl) dX12_errorCame_350 ⟨(Nat.zero_le _), (Nat.zero_le _)⟩ ?_
            have hq350 := tg_pr_lt fi sz 30
            refine nv_bipush (k := 20) hx hb dX12_errorCame_353 (by decide) ?_
            refine nv_isubw hx hb (by omega) dX12_errorCame_355 ?_
            refine lv_i2l hx hb dX12_errorCame_356 rfl ?_
            refine wr_S S (c_X12_put (ws := mW cy o ad tp (40 + len9) sz bits F G u nb ns T M id ft g_4 fi g pt ih il ip pn op so fa fp st en dr ++ tl) (kr := 2) (N := 1640) rfl (by omega) (a := 52) (many := 2) (x := (tg_pr (tg_rd fi sz) 30 + 4294967296 - 20) % 4294967296) (v := (nI ((tg_pr (tg_rd fi sz) 30 + 4294967296 - 20) % 4294967296)).toInt64) (by omega) (by omega) (fun k hk => w_byte (by omega) k (by omega))) kw5_123 yv_X12_put ⟨Nat.le_of_ble_eq_true rfl, Nat.le_of_ble_eq_true rfl⟩ hK hP hD hS hA rfl hl.1 rfl (Nat.le_of_ble_eq_true rfl) dX12_errorCame_357 ⟨Nat.zero_le _, Nat.zero_le _⟩ (fun g_5 H locs hg_5 hP hD hS => ?_)
            have hP : va_P D vwCl (mW cy o ad tp (40 + len9) sz bits F G u nb ns T M id ft g_5 fi g pt ih il ip pn op so fa fp st en dr ++ tl) H := hP
            have hD : va_D A (mW cy o ad tp (40 + len9) sz bits F G u nb ns T M id ft g_5 fi g pt ih il ip pn op so fa fp st en dr ++ tl) := hD
            refine W.eq (g2 := F0 m 360 ls []) rfl ?_
            refine lv_aload_n hx hb dX12_errorCame_360 rfl (lv_at hl 10 rfl) ?_
            refine va_get (ci := 9) (C := RX12) (T := TX12) (N := 28) hx hb ht iFX12 hown hK hP 0 rfl rfl 2 (by decide) (ht _ kw4_112) (fun _ h9 => h9) rfl dX12_errorCame_361 ?_
            refine nv_bipush (k := 54) hx hb dX12_errorCame_364 (by decide) ?_
            refine nv_iconst (k := 1) hx hb dX12_errorCame_366 rfl ?_
            refine lv_iload_n hx hb dX12_errorCame_367 rfl (lv_at hl 9 rfl) ?_
            refine nv_iconst (k := 1) hx hb dX12_errorCame_368 rfl ?_
            have J380 : ∀ ls : Array Slot, lv_has ls 12 [(10, .int (nI ((tg_pr (tg_rd fi sz) 26) + 20))), (9, .int (nI nu)), (8, .int (nI mu)), (7, .int (nI (tg_rd fi sz 21))), (6, .int (nI (tg_rd fi sz 20))), (5, .int (nI len9)), (4, .int (nI (sz - 48))), (3, .int (nI b)), (2, .int (nI port)), (1, .int (nI q)), (0, .ref o)] → W p l e (rmw 5 0 0 118) s m args below meth c H locs 0 0 Q (F0 m 380 ls [.long (lN (nx)), .int (nI 1), .int (nI 54), .ref (ad 1)]) := by
              intro ls hl
              refine wr_S S (c_X12_put (ws := mW cy o ad tp (40 + len9) sz bits F G u nb ns T M id ft g_5 fi g pt ih il ip pn op so fa fp st en dr ++ tl) (kr := 2) (N := 1640) rfl (by omega) (a := 54) (many := 1) (x := nx) (v := lN (nx)) (by omega) (by omega) (fun k hk => by rw [lN_toNat (by omega)])) kw5_123 yv_X12_put ⟨Nat.le_of_ble_eq_true rfl, Nat.le_of_ble_eq_true rfl⟩ hK hP hD hS hA rfl hl.1 rfl (Nat.le_of_ble_eq_true rfl) dX12_errorCame_380 ⟨Nat.zero_le _, Nat.zero_le _⟩ (fun g_6 H locs hg_6 hP hD hS => ?_)
              have hP : va_P D vwCl (mW cy o ad tp (40 + len9) sz bits F G u nb ns T M id ft g_6 fi g pt ih il ip pn op so fa fp st en dr ++ tl) H := hP
              have hD : va_D A (mW cy o ad tp (40 + len9) sz bits F G u nb ns T M id ft g_6 fi g pt ih il ip pn op so fa fp st en dr ++ tl) := hD
              refine W.eq (g2 := F0 m 383 ls []) rfl ?_
              refine lv_aload_n hx hb dX12_errorCame_383 rfl (lv_at hl 10 rfl) ?_
              refine va_get (ci := 9) (C := RX12) (T := TX12) (N := 28) hx hb ht iFX12 hown hK hP 0 rfl rfl 2 (by decide) (ht _ kw4_112) (fun _ h9 => h9) rfl dX12_errorCame_384 ?_
              refine nv_bipush (k := 55) hx hb dX12_errorCame_387 (by decide) ?_
              refine nv_iconst (k := 1) hx hb dX12_errorCame_389 rfl ?_
              refine lv_aload_n hx hb dX12_errorCame_390 rfl (lv_at hl 10 rfl) ?_
              refine va_get (ci := 9) (C := RX12) (T := TX12) (N := 28) hx hb ht iFX12 hown hK hP 0 rfl rfl 4 (by decide) (ht _ kw4_114) (fun _ h9 => h9) rfl dX12_errorCame_391 ?_
              refine nv_bipush (k := 36) hx hb dX12_errorCame_394 (by decide) ?_
              refine ro_S S (c_X12_at (AR_of (ws := mW cy o ad tp (40 + len9) sz bits F G u nb ns T M id ft g_6 fi g pt ih il ip pn op so fa fp st en dr ++ tl) (kr := 3) (N := 1600) (n := sz) rfl (by omega) (by omega)) (i := 36) (by omega)) kw5_41 yv_X12_at ⟨Nat.le_of_ble_eq_true rfl, Nat.le_of_ble_eq_true rfl⟩ hK hP rfl hl.1 rfl (Nat.le_of_ble_eq_true rfl) dX12_errorCame_396 ⟨(Nat.zero_le _), (Nat.zero_le _)⟩ ?_
              have hq396 := tg_rd_lt fi sz 36
              refine nv_i2l hx hb (by omega) dX12_errorCame_399 ?_
              refine wr_S S (c_X12_put (ws := mW cy o ad tp (40 + len9) sz bits F G u nb ns T M id ft g_6 fi g pt ih il ip pn op so fa fp st en dr ++ tl) (kr := 2) (N := 1640) rfl (by omega) (a := 55) (many := 1) (x := tg_rd fi sz 36) (v := lN (tg_rd fi sz 36)) (by omega) (by omega) (fun k hk => by rw [lN_toNat (by omega)])) kw5_123 yv_X12_put ⟨Nat.le_of_ble_eq_true rfl, Nat.le_of_ble_eq_true rfl⟩ hK hP hD hS hA rfl hl.1 rfl (Nat.le_of_ble_eq_true rfl) dX12_errorCame_400 ⟨Nat.zero_le _, Nat.zero_le _⟩ (fun g_7 H locs hg_7 hP hD hS => ?_)
              have hP : va_P D vwCl (mW cy o ad tp (40 + len9) sz bits F G u nb ns T M id ft g_7 fi g pt ih il ip pn op so fa fp st en dr ++ tl) H := hP
              have hD : va_D A (mW cy o ad tp (40 + len9) sz bits F G u nb ns T M id ft g_7 fi g pt ih il ip pn op so fa fp st en dr ++ tl) := hD
              refine W.eq (g2 := F0 m 403 ls []) rfl ?_
              refine lv_aload_n hx hb dX12_errorCame_403 rfl (lv_at hl 10 rfl) ?_
              refine va_get (ci := 9) (C := RX12) (T := TX12) (N := 28) hx hb ht iFX12 hown hK hP 0 rfl rfl 2 (by decide) (ht _ kw4_112) (fun _ h9 => h9) rfl dX12_errorCame_404 ?_
              refine nv_bipush (k := 56) hx hb dX12_errorCame_407 (by decide) ?_
              refine nv_bipush (k := 8) hx hb dX12_errorCame_409 (by decide) ?_
              refine lv_aload_n hx hb dX12_errorCame_411 rfl (lv_at hl 10 rfl) ?_
              refine va_get (ci := 9) (C := RX12) (T := TX12) (N := 28) hx hb ht iFX12 hown hK hP 0 rfl rfl 13 (by decide) (ht _ kw4_123) (fun _ h9 => h9) rfl dX12_errorCame_412 ?_
              refine lv_iload_n hx hb dX12_errorCame_415 rfl (lv_at hl 7 rfl) ?_
              refine nv_lald hx hb hK hP 6 rfl (by omega) (by omega) dX12_errorCame_416 ?_
              refine wr_S S (c_X12_put (ws := mW cy o ad tp (40 + len9) sz bits F G u nb ns T M id ft g_7 fi g pt ih il ip pn op so fa fp st en dr ++ tl) (kr := 2) (N := 1640) rfl (by omega) (a := 56) (many := 8) (x := ih b) (v := lN (ih b)) (by omega) (by omega) (fun k hk => by rw [lN_toNat (by omega)])) kw5_123 yv_X12_put ⟨Nat.le_of_ble_eq_true rfl, Nat.le_of_ble_eq_true rfl⟩ hK hP hD hS hA rfl hl.1 rfl (Nat.le_of_ble_eq_true rfl) dX12_errorCame_417 ⟨Nat.zero_le _, Nat.zero_le _⟩ (fun g_8 H locs hg_8 hP hD hS => ?_)
              have hP : va_P D vwCl (mW cy o ad tp (40 + len9) sz bits F G u nb ns T M id ft g_8 fi g pt ih il ip pn op so fa fp st en dr ++ tl) H := hP
              have hD : va_D A (mW cy o ad tp (40 + len9) sz bits F G u nb ns T M id ft g_8 fi g pt ih il ip pn op so fa fp st en dr ++ tl) := hD
              refine W.eq (g2 := F0 m 420 ls []) rfl ?_
              refine lv_aload_n hx hb dX12_errorCame_420 rfl (lv_at hl 10 rfl) ?_
              refine va_get (ci := 9) (C := RX12) (T := TX12) (N := 28) hx hb ht iFX12 hown hK hP 0 rfl rfl 2 (by decide) (ht _ kw4_112) (fun _ h9 => h9) rfl dX12_errorCame_421 ?_
              refine nv_bipush (k := 64) hx hb dX12_errorCame_424 (by decide) ?_
              refine nv_bipush (k := 8) hx hb dX12_errorCame_426 (by decide) ?_
              refine lv_aload_n hx hb dX12_errorCame_428 rfl (lv_at hl 10 rfl) ?_
              refine va_get (ci := 9) (C := RX12) (T := TX12) (N := 28) hx hb ht iFX12 hown hK hP 0 rfl rfl 14 (by decide) (ht _ kw4_124) (fun _ h9 => h9) rfl dX12_errorCame_429 ?_
              refine lv_iload_n hx hb dX12_errorCame_432 rfl (lv_at hl 7 rfl) ?_
              refine nv_lald hx hb hK hP 7 rfl (by omega) (by omega) dX12_errorCame_433 ?_
              refine wr_S S (c_X12_put (ws := mW cy o ad tp (40 + len9) sz bits F G u nb ns T M id ft g_8 fi g pt ih il ip pn op so fa fp st en dr ++ tl) (kr := 2) (N := 1640) rfl (by omega) (a := 64) (many := 8) (x := il b) (v := lN (il b)) (by omega) (by omega) (fun k hk => by rw [lN_toNat (by omega)])) kw5_123 yv_X12_put ⟨Nat.le_of_ble_eq_true rfl, Nat.le_of_ble_eq_true rfl⟩ hK hP hD hS hA rfl hl.1 rfl (Nat.le_of_ble_eq_true rfl) dX12_errorCame_434 ⟨Nat.zero_le _, Nat.zero_le _⟩ (fun g_9 H locs hg_9 hP hD hS => ?_)
              have hP : va_P D vwCl (mW cy o ad tp (40 + len9) sz bits F G u nb ns T M id ft g_9 fi g pt ih il ip pn op so fa fp st en dr ++ tl) H := hP
              have hD : va_D A (mW cy o ad tp (40 + len9) sz bits F G u nb ns T M id ft g_9 fi g pt ih il ip pn op so fa fp st en dr ++ tl) := hD
              refine W.eq (g2 := F0 m 437 ls []) rfl ?_
              refine lv_aload_n hx hb dX12_errorCame_437 rfl (lv_at hl 10 rfl) ?_
              refine va_get (ci := 9) (C := RX12) (T := TX12) (N := 28) hx hb ht iFX12 hown hK hP 0 rfl rfl 2 (by decide) (ht _ kw4_112) (fun _ h9 => h9) rfl dX12_errorCame_438 ?_
              refine nv_bipush (k := 72) hx hb dX12_errorCame_441 (by decide) ?_
              refine nv_bipush (k := 8) hx hb dX12_errorCame_443 (by decide) ?_
              refine lv_aload_n hx hb dX12_errorCame_445 rfl (lv_at hl 10 rfl) ?_
              refine lv_aload_n hx hb dX12_errorCame_446 rfl (lv_at hl 10 rfl) ?_
              refine va_get (ci := 9) (C := RX12) (T := TX12) (N := 28) hx hb ht iFX12 hown hK hP 0 rfl rfl 4 (by decide) (ht _ kw4_114) (fun _ h9 => h9) rfl dX12_errorCame_447 ?_
              refine nv_bipush (k := 44) hx hb dX12_errorCame_450 (by decide) ?_
              refine ro_S S (c_X12_four (AR_of (ws := mW cy o ad tp (40 + len9) sz bits F G u nb ns T M id ft g_9 fi g pt ih il ip pn op so fa fp st en dr ++ tl) (kr := 3) (N := 1600) (n := sz) rfl (by omega) (by omega)) (i := 44) (by omega)) kw5_72 yv_X12_four ⟨Nat.le_of_ble_eq_true rfl, Nat.le_of_ble_eq_true rfl⟩ hK hP rfl hl.1 rfl (Nat.le_of_ble_eq_true rfl) dX12_errorCame_452 ⟨(Nat.zero_le _), (Nat.zero_le _)⟩ ?_
              have hq452 := tg_qd_lt fi sz 44
              refine ro_V S (c_X12_high (ws := mW cy o ad tp (40 + len9) sz bits F G u nb ns T M id ft g_9 fi g pt ih il ip pn op so fa fp st en dr ++ tl) (km := 0) rfl rfl rfl hsi (x := tg_qd (tg_rd fi sz) 44) (by omega)) kw5_156 yv_X12_high ⟨Nat.le_of_ble_eq_true rfl, Nat.le_of_ble_eq_true rfl⟩ hK hP (va_recv hK hP (ci := 9) (q0 := 0) rfl rfl) rfl hl.1 rfl (Nat.le_of_ble_eq_true rfl) dX12_errorCame_455 ⟨(Nat.zero_le _), (Nat.zero_le _)⟩ ?_
              have hq455 := tg_eh_lt hsi (x := tg_qd (tg_rd fi sz) 44) (by omega)
              refine wr_S S (c_X12_put (ws := mW cy o ad tp (40 + len9) sz bits F G u nb ns T M id ft g_9 fi g pt ih il ip pn op so fa fp st en dr ++ tl) (kr := 2) (N := 1640) rfl (by omega) (a := 72) (many := 8) (x := tg_eh bits F (tg_qd (tg_rd fi sz) 44)) (v := lN (tg_eh bits F (tg_qd (tg_rd fi sz) 44))) (by omega) (by omega) (fun k hk => by rw [lN_toNat (by omega)])) kw5_123 yv_X12_put ⟨Nat.le_of_ble_eq_true rfl, Nat.le_of_ble_eq_true rfl⟩ hK hP hD hS hA rfl hl.1 rfl (Nat.le_of_ble_eq_true rfl) dX12_errorCame_458 ⟨Nat.zero_le _, Nat.zero_le _⟩ (fun g_10 H locs hg_10 hP hD hS => ?_)
              have hP : va_P D vwCl (mW cy o ad tp (40 + len9) sz bits F G u nb ns T M id ft g_10 fi g pt ih il ip pn op so fa fp st en dr ++ tl) H := hP
              have hD : va_D A (mW cy o ad tp (40 + len9) sz bits F G u nb ns T M id ft g_10 fi g pt ih il ip pn op so fa fp st en dr ++ tl) := hD
              refine W.eq (g2 := F0 m 461 ls []) rfl ?_
              refine lv_aload_n hx hb dX12_errorCame_461 rfl (lv_at hl 10 rfl) ?_
              refine va_get (ci := 9) (C := RX12) (T := TX12) (N := 28) hx hb ht iFX12 hown hK hP 0 rfl rfl 2 (by decide) (ht _ kw4_112) (fun _ h9 => h9) rfl dX12_errorCame_462 ?_
              refine nv_bipush (k := 80) hx hb dX12_errorCame_465 (by decide) ?_
              refine nv_bipush (k := 8) hx hb dX12_errorCame_467 (by decide) ?_
              refine lv_aload_n hx hb dX12_errorCame_469 rfl (lv_at hl 10 rfl) ?_
              refine lv_aload_n hx hb dX12_errorCame_470 rfl (lv_at hl 10 rfl) ?_
              refine va_get (ci := 9) (C := RX12) (T := TX12) (N := 28) hx hb ht iFX12 hown hK hP 0 rfl rfl 4 (by decide) (ht _ kw4_114) (fun _ h9 => h9) rfl dX12_errorCame_471 ?_
              refine nv_bipush (k := 44) hx hb dX12_errorCame_474 (by decide) ?_
              refine ro_S S (c_X12_four (AR_of (ws := mW cy o ad tp (40 + len9) sz bits F G u nb ns T M id ft g_10 fi g pt ih il ip pn op so fa fp st en dr ++ tl) (kr := 3) (N := 1600) (n := sz) rfl (by omega) (by omega)) (i := 44) (by omega)) kw5_72 yv_X12_four ⟨Nat.le_of_ble_eq_true rfl, Nat.le_of_ble_eq_true rfl⟩ hK hP rfl hl.1 rfl (Nat.le_of_ble_eq_true rfl) dX12_errorCame_476 ⟨(Nat.zero_le _), (Nat.zero_le _)⟩ ?_
              have hq476 := tg_qd_lt fi sz 44
              refine ro_V S (c_X12_low (ws := mW cy o ad tp (40 + len9) sz bits F G u nb ns T M id ft g_10 fi g pt ih il ip pn op so fa fp st en dr ++ tl) (km := 0) rfl rfl rfl hsi (x := tg_qd (tg_rd fi sz) 44) (by omega)) kw5_157 yv_X12_low ⟨Nat.le_of_ble_eq_true rfl, Nat.le_of_ble_eq_true rfl⟩ hK hP (va_recv hK hP (ci := 9) (q0 := 0) rfl rfl) rfl hl.1 rfl (Nat.le_of_ble_eq_true rfl) dX12_errorCame_479 ⟨(Nat.zero_le _), (Nat.zero_le _)⟩ ?_
              have hq479 := tg_el_lt hsi (x := tg_qd (tg_rd fi sz) 44) (by omega)
              refine wr_S S (c_X12_put (ws := mW cy o ad tp (40 + len9) sz bits F G u nb ns T M id ft g_10 fi g pt ih il ip pn op so fa fp st en dr ++ tl) (kr := 2) (N := 1640) rfl (by omega) (a := 80) (many := 8) (x := tg_el bits G (tg_qd (tg_rd fi sz) 44)) (v := lN (tg_el bits G (tg_qd (tg_rd fi sz) 44))) (by omega) (by omega) (fun k hk => by rw [lN_toNat (by omega)])) kw5_123 yv_X12_put ⟨Nat.le_of_ble_eq_true rfl, Nat.le_of_ble_eq_true rfl⟩ hK hP hD hS hA rfl hl.1 rfl (Nat.le_of_ble_eq_true rfl) dX12_errorCame_482 ⟨Nat.zero_le _, Nat.zero_le _⟩ (fun g_11 H locs hg_11 hP hD hS => ?_)
              have hP : va_P D vwCl (mW cy o ad tp (40 + len9) sz bits F G u nb ns T M id ft g_11 fi g pt ih il ip pn op so fa fp st en dr ++ tl) H := hP
              have hD : va_D A (mW cy o ad tp (40 + len9) sz bits F G u nb ns T M id ft g_11 fi g pt ih il ip pn op so fa fp st en dr ++ tl) := hD
              refine W.eq (g2 := F0 m 485 ls []) rfl ?_
              refine nv_iconst (k := 0) hx hb dX12_errorCame_485 rfl ?_
              refine lv_istore (lv' := [(11, .int (nI 0)), (10, .int (nI ((tg_pr (tg_rd fi sz) 26) + 20))), (9, .int (nI nu)), (8, .int (nI mu)), (7, .int (nI (tg_rd fi sz 21))), (6, .int (nI (tg_rd fi sz 20))), (5, .int (nI len9)), (4, .int (nI (sz - 48))), (3, .int (nI b)), (2, .int (nI port)), (1, .int (nI q)), (0, .ref o)]) hx hb dX12_errorCame_486 hl (by decide) rfl (fun ls hl => ?_)
              have L488 : ∀ (fu kk : Nat) (H : Heap) (locs : List Loc), (len9 - 48) - kk < fu → 0 ≤ kk → kk ≤ (len9 - 48) → va_P D vwCl (mW cy o ad tp (40 + len9) sz bits F G u nb ns T M id ft ((fun i => if 88 ≤ i ∧ i < 88 + kk then fi (i - 40) else g_11 i)) fi g pt ih il ip pn op so fa fp st en dr ++ tl) H → va_D A (mW cy o ad tp (40 + len9) sz bits F G u nb ns T M id ft ((fun i => if 88 ≤ i ∧ i < 88 + kk then fi (i - 40) else g_11 i)) fi g pt ih il ip pn op so fa fp st en dr ++ tl) → va_S A s.heap H locs → ∀ ls : Array Slot, lv_has ls 12 [(0, .ref o), (1, .int (nI q)), (3, .int (nI b)), (4, .int (nI (sz - 48))), (11, .int (nI kk))] → W p l e (rmw 5 0 0 118) s m args below meth c H locs 0 0 Q (F0 m 488 ls []) := by
                intro fu
                induction fu with
                | zero => intro kk H locs h9; omega
                | succ fu ihh =>
                  intro kk H locs hfu hk1 hk2 hP hD hS ls hl
                  refine lv_iload hx hb dX12_errorCame_488 (lv_at hl 4 rfl) ?_
                  refine lv_iload hx hb dX12_errorCame_490 (lv_at hl 3 rfl) ?_
                  refine nv_icmp_ge (tgt := 533) hx hb dX12_errorCame_492 (by decide) (by omega) (by omega) (fun h492 => ?_) (fun h492 => ?_)
                  · skip
                    have ec : (fun i => if 88 ≤ i ∧ i < 88 + kk then fi (i - 40) else g_11 i) = va_cpy fi g_11 48 88 (min (sz + 40) 1280 - 88) := by
                      funext i
                      unfold va_cpy
                      by_cases h2 : 88 ≤ i ∧ i < 88 + kk
                      · rw [if_pos h2, if_pos (by omega), show i - 40 = 48 + (i - 88) by omega]
                      · rw [if_neg h2, if_neg (by omega)]
                    rw [ec] at hP hD
                    obtain ⟨gc, hgc⟩ : ∃ z, z = va_cpy fi g_11 48 88 (min (sz + 40) 1280 - 88) := ⟨_, rfl⟩
                    rw [← hgc] at hP hD
                    have hP : va_P D vwCl (mW cy o ad tp (40 + len9) sz bits F G u nb ns T M id ft gc fi g pt ih il ip pn op so fa fp st en dr ++ tl) H := hP
                    have hD : va_D A (mW cy o ad tp (40 + len9) sz bits F G u nb ns T M id ft gc fi g pt ih il ip pn op so fa fp st en dr ++ tl) := hD
                    refine lv_iload_n hx hb dX12_errorCame_533 rfl (lv_at hl 1 rfl) ?_
                    refine nv_iconst (k := 1) hx hb dX12_errorCame_534 rfl ?_
                    refine nv_icmp_ne (tgt := 571) hx hb dX12_errorCame_535 (by decide) (by omega) (by omega) (fun h535 => ?_) (fun h535 => ?_)
                    · skip
                      refine lv_aload_n hx hb dX12_errorCame_571 rfl (lv_at hl 0 rfl) ?_
                      refine va_get (ci := 9) (C := RX12) (T := TX12) (N := 28) hx hb ht iFX12 hown hK hP 0 rfl rfl 2 (by decide) (ht _ kw4_112) (fun _ h9 => h9) rfl dX12_errorCame_572 ?_
                      refine nv_bipush (k := 88) hx hb dX12_errorCame_575 (by decide) ?_
                      refine nv_iconst (k := 2) hx hb dX12_errorCame_577 rfl ?_
                      refine lv_aload_n hx hb dX12_errorCame_578 rfl (lv_at hl 0 rfl) ?_
                      refine va_get (ci := 9) (C := RX12) (T := TX12) (N := 28) hx hb ht iFX12 hown hK hP 0 rfl rfl 15 (by decide) (ht _ kw4_125) (fun _ h9 => h9) rfl dX12_errorCame_579 ?_
                      refine lv_iload_n hx hb dX12_errorCame_582 rfl (lv_at hl 2 rfl) ?_
                      refine nv_iald hx hb hK hP 8 rfl (by omega) (by omega) dX12_errorCame_583 ?_
                      refine nv_i2l hx hb (by omega) dX12_errorCame_584 ?_
                      refine wr_S S (c_X12_put (ws := mW cy o ad tp (40 + len9) sz bits F G u nb ns T M id ft gc fi g pt ih il ip pn op so fa fp st en dr ++ tl) (kr := 2) (N := 1640) rfl (by omega) (a := 88) (many := 2) (x := ip b) (v := lN (ip b)) (by omega) (by omega) (fun k hk => by rw [lN_toNat (by omega)])) kw5_123 yv_X12_put ⟨Nat.le_of_ble_eq_true rfl, Nat.le_of_ble_eq_true rfl⟩ hK hP hD hS hA rfl hl.1 rfl (Nat.le_of_ble_eq_true rfl) dX12_errorCame_585 ⟨Nat.zero_le _, Nat.zero_le _⟩ (fun g_12 H locs hg_12 hP hD hS => ?_)
                      have hP : va_P D vwCl (mW cy o ad tp (40 + len9) sz bits F G u nb ns T M id ft g_12 fi g pt ih il ip pn op so fa fp st en dr ++ tl) H := hP
                      have hD : va_D A (mW cy o ad tp (40 + len9) sz bits F G u nb ns T M id ft g_12 fi g pt ih il ip pn op so fa fp st en dr ++ tl) := hD
                      refine W.eq (g2 := F0 m 588 ls []) rfl ?_
                      refine lv_aload_n hx hb dX12_errorCame_588 rfl (lv_at hl 0 rfl) ?_
                      refine nv_bipush (k := 58) hx hb dX12_errorCame_589 (by decide) ?_
                      refine wr_V S (c_X12_finish (q := 58) (by omega) (by show 40 + 2 + 2 ≤ _; omega) (by omega)) kw5_161 yv_X12_finish ⟨Nat.le_of_ble_eq_true rfl, Nat.le_of_ble_eq_true rfl⟩ hK hP hD hS hA (va_recv hK hP (ci := 9) (q0 := 0) rfl rfl) rfl hl.1 rfl (Nat.le_of_ble_eq_true rfl) dX12_errorCame_591 ⟨Nat.zero_le _, Nat.zero_le _⟩ (fun u8 H locs hu8 hP hD hS => ?_)
                      have hP : va_P D vwCl (mW cy o ad tp (40 + len9) sz bits F G u nb ns T (M + 1) id ft (tg_fin g_12 (40 + len9) 40 58) fi g pt ih il ip pn op so fa fp st en dr ++ tl) H := hP
                      have hD : va_D A (mW cy o ad tp (40 + len9) sz bits F G u nb ns T (M + 1) id ft (tg_fin g_12 (40 + len9) 40 58) fi g pt ih il ip pn op so fa fp st en dr ++ tl) := hD
                      refine W.eq (g2 := F0 m 594 ls []) rfl ?_
                      refine lv_aload_n hx hb dX12_errorCame_594 rfl (lv_at hl 0 rfl) ?_
                      refine va_get (ci := 9) (C := RX12) (T := TX12) (N := 28) hx hb ht iFX12 hown hK hP 0 rfl rfl 3 (by decide) (ht _ kw4_113) (fun _ h9 => h9) rfl dX12_errorCame_595 ?_
                      have eos : 40 + len9 = min (sz + 40) 1280 := by omega
                      rw [eos] at hP hD
                      exact hend _ (by rw [eos]) (by rw [hg_12, hgc, hg_11, hg_10, hg_9, hg_8, hg_7, hg_6, hg_5, hg_4, hg_3, hg_2, hg_1, hg0]; unfold mk_err mk_e3 mk_e2 mk_e1; rw [← enx, ← emu, ← enu, ← erm, ← elen]; first | rw [if_pos h535] | rw [if_neg h535]) hP hD hS dX12_errorCame_598
                    refine lv_aload_n hx hb dX12_errorCame_538 rfl (lv_at hl 0 rfl) ?_
                    refine va_get (ci := 9) (C := RX12) (T := TX12) (N := 28) hx hb ht iFX12 hown hK hP 0 rfl rfl 2 (by decide) (ht _ kw4_112) (fun _ h9 => h9) rfl dX12_errorCame_539 ?_
                    refine nv_bipush (k := 88) hx hb dX12_errorCame_542 (by decide) ?_
                    refine nv_iconst (k := 1) hx hb dX12_errorCame_544 rfl ?_
                    refine nv_ldc2 (k := 128) hx hb hown (ht _ kw5_160) (by decide) dX12_errorCame_545 ?_
                    refine wr_S S (c_X12_put (ws := mW cy o ad tp (40 + len9) sz bits F G u nb ns T M id ft gc fi g pt ih il ip pn op so fa fp st en dr ++ tl) (kr := 2) (N := 1640) rfl (by omega) (a := 88) (many := 1) (x := 128) (v := lN (128)) (by omega) (by omega) (fun k hk => by rw [lN_toNat (by omega)])) kw5_123 yv_X12_put ⟨Nat.le_of_ble_eq_true rfl, Nat.le_of_ble_eq_true rfl⟩ hK hP hD hS hA rfl hl.1 rfl (Nat.le_of_ble_eq_true rfl) dX12_errorCame_548 ⟨Nat.zero_le _, Nat.zero_le _⟩ (fun g_13 H locs hg_13 hP hD hS => ?_)
                    have hP : va_P D vwCl (mW cy o ad tp (40 + len9) sz bits F G u nb ns T M id ft g_13 fi g pt ih il ip pn op so fa fp st en dr ++ tl) H := hP
                    have hD : va_D A (mW cy o ad tp (40 + len9) sz bits F G u nb ns T M id ft g_13 fi g pt ih il ip pn op so fa fp st en dr ++ tl) := hD
                    refine W.eq (g2 := F0 m 551 ls []) rfl ?_
                    refine lv_aload_n hx hb dX12_errorCame_551 rfl (lv_at hl 0 rfl) ?_
                    refine va_get (ci := 9) (C := RX12) (T := TX12) (N := 28) hx hb ht iFX12 hown hK hP 0 rfl rfl 2 (by decide) (ht _ kw4_112) (fun _ h9 => h9) rfl dX12_errorCame_552 ?_
                    refine nv_bipush (k := 92) hx hb dX12_errorCame_555 (by decide) ?_
                    refine nv_iconst (k := 2) hx hb dX12_errorCame_557 rfl ?_
                    refine lv_aload_n hx hb dX12_errorCame_558 rfl (lv_at hl 0 rfl) ?_
                    refine va_get (ci := 9) (C := RX12) (T := TX12) (N := 28) hx hb ht iFX12 hown hK hP 0 rfl rfl 15 (by decide) (ht _ kw4_125) (fun _ h9 => h9) rfl dX12_errorCame_559 ?_
                    refine lv_iload_n hx hb dX12_errorCame_562 rfl (lv_at hl 2 rfl) ?_
                    refine nv_iald hx hb hK hP 8 rfl (by omega) (by omega) dX12_errorCame_563 ?_
                    refine nv_i2l hx hb (by omega) dX12_errorCame_564 ?_
                    refine wr_S S (c_X12_put (ws := mW cy o ad tp (40 + len9) sz bits F G u nb ns T M id ft g_13 fi g pt ih il ip pn op so fa fp st en dr ++ tl) (kr := 2) (N := 1640) rfl (by omega) (a := 92) (many := 2) (x := ip b) (v := lN (ip b)) (by omega) (by omega) (fun k hk => by rw [lN_toNat (by omega)])) kw5_123 yv_X12_put ⟨Nat.le_of_ble_eq_true rfl, Nat.le_of_ble_eq_true rfl⟩ hK hP hD hS hA rfl hl.1 rfl (Nat.le_of_ble_eq_true rfl) dX12_errorCame_565 ⟨Nat.zero_le _, Nat.zero_le _⟩ (fun g_14 H locs hg_14 hP hD hS => ?_)
                    have hP : va_P D vwCl (mW cy o ad tp (40 + len9) sz bits F G u nb ns T M id ft g_14 fi g pt ih il ip pn op so fa fp st en dr ++ tl) H := hP
                    have hD : va_D A (mW cy o ad tp (40 + len9) sz bits F G u nb ns T M id ft g_14 fi g pt ih il ip pn op so fa fp st en dr ++ tl) := hD
                    refine W.eq (g2 := F0 m 568 ls []) rfl ?_
                    refine lv_goto (tgt := 588) hx hb dX12_errorCame_568 (by decide) ?_
                    refine lv_aload_n hx hb dX12_errorCame_588 rfl (lv_at hl 0 rfl) ?_
                    refine nv_bipush (k := 58) hx hb dX12_errorCame_589 (by decide) ?_
                    refine wr_V S (c_X12_finish (q := 58) (by omega) (by show 40 + 2 + 2 ≤ _; omega) (by omega)) kw5_161 yv_X12_finish ⟨Nat.le_of_ble_eq_true rfl, Nat.le_of_ble_eq_true rfl⟩ hK hP hD hS hA (va_recv hK hP (ci := 9) (q0 := 0) rfl rfl) rfl hl.1 rfl (Nat.le_of_ble_eq_true rfl) dX12_errorCame_591 ⟨Nat.zero_le _, Nat.zero_le _⟩ (fun u8 H locs hu8 hP hD hS => ?_)
                    have hP : va_P D vwCl (mW cy o ad tp (40 + len9) sz bits F G u nb ns T (M + 1) id ft (tg_fin g_14 (40 + len9) 40 58) fi g pt ih il ip pn op so fa fp st en dr ++ tl) H := hP
                    have hD : va_D A (mW cy o ad tp (40 + len9) sz bits F G u nb ns T (M + 1) id ft (tg_fin g_14 (40 + len9) 40 58) fi g pt ih il ip pn op so fa fp st en dr ++ tl) := hD
                    refine W.eq (g2 := F0 m 594 ls []) rfl ?_
                    refine lv_aload_n hx hb dX12_errorCame_594 rfl (lv_at hl 0 rfl) ?_
                    refine va_get (ci := 9) (C := RX12) (T := TX12) (N := 28) hx hb ht iFX12 hown hK hP 0 rfl rfl 3 (by decide) (ht _ kw4_113) (fun _ h9 => h9) rfl dX12_errorCame_595 ?_
                    have eos : 40 + len9 = min (sz + 40) 1280 := by omega
                    rw [eos] at hP hD
                    exact hend _ (by rw [eos]) (by rw [hg_14, hg_13, hgc, hg_11, hg_10, hg_9, hg_8, hg_7, hg_6, hg_5, hg_4, hg_3, hg_2, hg_1, hg0]; unfold mk_err mk_e3 mk_e2 mk_e1; rw [← enx, ← emu, ← enu, ← erm, ← elen]; first | rw [if_pos h535] | rw [if_neg h535]) hP hD hS dX12_errorCame_598
                  refine nv_bipush (k := 88) hx hb dX12_errorCame_495 (by decide) ?_
                  refine lv_iload hx hb dX12_errorCame_497 (lv_at hl 4 rfl) ?_
                  refine nv_iadd hx hb dX12_errorCame_499 ?_
                  refine lv_aload_n hx hb dX12_errorCame_500 rfl (lv_at hl 0 rfl) ?_
                  refine va_get (ci := 9) (C := RX12) (T := TX12) (N := 28) hx hb ht iFX12 hown hK hP 0 rfl rfl 3 (by decide) (ht _ kw4_113) (fun _ h9 => h9) rfl dX12_errorCame_501 ?_
                  refine nv_icmp_ge (tgt := 533) hx hb dX12_errorCame_504 (by decide) (by omega) (by omega) (fun h504 => ?_) (fun h504 => ?_)
                  · skip
                    have ec : (fun i => if 88 ≤ i ∧ i < 88 + kk then fi (i - 40) else g_11 i) = va_cpy fi g_11 48 88 (min (sz + 40) 1280 - 88) := by
                      funext i
                      unfold va_cpy
                      by_cases h2 : 88 ≤ i ∧ i < 88 + kk
                      · rw [if_pos h2, if_pos (by omega), show i - 40 = 48 + (i - 88) by omega]
                      · rw [if_neg h2, if_neg (by omega)]
                    rw [ec] at hP hD
                    obtain ⟨gc, hgc⟩ : ∃ z, z = va_cpy fi g_11 48 88 (min (sz + 40) 1280 - 88) := ⟨_, rfl⟩
                    rw [← hgc] at hP hD
                    have hP : va_P D vwCl (mW cy o ad tp (40 + len9) sz bits F G u nb ns T M id ft gc fi g pt ih il ip pn op so fa fp st en dr ++ tl) H := hP
                    have hD : va_D A (mW cy o ad tp (40 + len9) sz bits F G u nb ns T M id ft gc fi g pt ih il ip pn op so fa fp st en dr ++ tl) := hD
                    refine lv_iload_n hx hb dX12_errorCame_533 rfl (lv_at hl 1 rfl) ?_
                    refine nv_iconst (k := 1) hx hb dX12_errorCame_534 rfl ?_
                    refine nv_icmp_ne (tgt := 571) hx hb dX12_errorCame_535 (by decide) (by omega) (by omega) (fun h535 => ?_) (fun h535 => ?_)
                    · skip
                      refine lv_aload_n hx hb dX12_errorCame_571 rfl (lv_at hl 0 rfl) ?_
                      refine va_get (ci := 9) (C := RX12) (T := TX12) (N := 28) hx hb ht iFX12 hown hK hP 0 rfl rfl 2 (by decide) (ht _ kw4_112) (fun _ h9 => h9) rfl dX12_errorCame_572 ?_
                      refine nv_bipush (k := 88) hx hb dX12_errorCame_575 (by decide) ?_
                      refine nv_iconst (k := 2) hx hb dX12_errorCame_577 rfl ?_
                      refine lv_aload_n hx hb dX12_errorCame_578 rfl (lv_at hl 0 rfl) ?_
                      refine va_get (ci := 9) (C := RX12) (T := TX12) (N := 28) hx hb ht iFX12 hown hK hP 0 rfl rfl 15 (by decide) (ht _ kw4_125) (fun _ h9 => h9) rfl dX12_errorCame_579 ?_
                      refine lv_iload_n hx hb dX12_errorCame_582 rfl (lv_at hl 2 rfl) ?_
                      refine nv_iald hx hb hK hP 8 rfl (by omega) (by omega) dX12_errorCame_583 ?_
                      refine nv_i2l hx hb (by omega) dX12_errorCame_584 ?_
                      refine wr_S S (c_X12_put (ws := mW cy o ad tp (40 + len9) sz bits F G u nb ns T M id ft gc fi g pt ih il ip pn op so fa fp st en dr ++ tl) (kr := 2) (N := 1640) rfl (by omega) (a := 88) (many := 2) (x := ip b) (v := lN (ip b)) (by omega) (by omega) (fun k hk => by rw [lN_toNat (by omega)])) kw5_123 yv_X12_put ⟨Nat.le_of_ble_eq_true rfl, Nat.le_of_ble_eq_true rfl⟩ hK hP hD hS hA rfl hl.1 rfl (Nat.le_of_ble_eq_true rfl) dX12_errorCame_585 ⟨Nat.zero_le _, Nat.zero_le _⟩ (fun g_15 H locs hg_15 hP hD hS => ?_)
                      have hP : va_P D vwCl (mW cy o ad tp (40 + len9) sz bits F G u nb ns T M id ft g_15 fi g pt ih il ip pn op so fa fp st en dr ++ tl) H := hP
                      have hD : va_D A (mW cy o ad tp (40 + len9) sz bits F G u nb ns T M id ft g_15 fi g pt ih il ip pn op so fa fp st en dr ++ tl) := hD
                      refine W.eq (g2 := F0 m 588 ls []) rfl ?_
                      refine lv_aload_n hx hb dX12_errorCame_588 rfl (lv_at hl 0 rfl) ?_
                      refine nv_bipush (k := 58) hx hb dX12_errorCame_589 (by decide) ?_
                      refine wr_V S (c_X12_finish (q := 58) (by omega) (by show 40 + 2 + 2 ≤ _; omega) (by omega)) kw5_161 yv_X12_finish ⟨Nat.le_of_ble_eq_true rfl, Nat.le_of_ble_eq_true rfl⟩ hK hP hD hS hA (va_recv hK hP (ci := 9) (q0 := 0) rfl rfl) rfl hl.1 rfl (Nat.le_of_ble_eq_true rfl) dX12_errorCame_591 ⟨Nat.zero_le _, Nat.zero_le _⟩ (fun u8 H locs hu8 hP hD hS => ?_)
                      have hP : va_P D vwCl (mW cy o ad tp (40 + len9) sz bits F G u nb ns T (M + 1) id ft (tg_fin g_15 (40 + len9) 40 58) fi g pt ih il ip pn op so fa fp st en dr ++ tl) H := hP
                      have hD : va_D A (mW cy o ad tp (40 + len9) sz bits F G u nb ns T (M + 1) id ft (tg_fin g_15 (40 + len9) 40 58) fi g pt ih il ip pn op so fa fp st en dr ++ tl) := hD
                      refine W.eq (g2 := F0 m 594 ls []) rfl ?_
                      refine lv_aload_n hx hb dX12_errorCame_594 rfl (lv_at hl 0 rfl) ?_
                      refine va_get (ci := 9) (C := RX12) (T := TX12) (N := 28) hx hb ht iFX12 hown hK hP 0 rfl rfl 3 (by decide) (ht _ kw4_113) (fun _ h9 => h9) rfl dX12_errorCame_595 ?_
                      have eos : 40 + len9 = min (sz + 40) 1280 := by omega
                      rw [eos] at hP hD
                      exact hend _ (by rw [eos]) (by rw [hg_15, hgc, hg_11, hg_10, hg_9, hg_8, hg_7, hg_6, hg_5, hg_4, hg_3, hg_2, hg_1, hg0]; unfold mk_err mk_e3 mk_e2 mk_e1; rw [← enx, ← emu, ← enu, ← erm, ← elen]; first | rw [if_pos h535] | rw [if_neg h535]) hP hD hS dX12_errorCame_598
                    refine lv_aload_n hx hb dX12_errorCame_538 rfl (lv_at hl 0 rfl) ?_
                    refine va_get (ci := 9) (C := RX12) (T := TX12) (N := 28) hx hb ht iFX12 hown hK hP 0 rfl rfl 2 (by decide) (ht _ kw4_112) (fun _ h9 => h9) rfl dX12_errorCame_539 ?_
                    refine nv_bipush (k := 88) hx hb dX12_errorCame_542 (by decide) ?_
                    refine nv_iconst (k := 1) hx hb dX12_errorCame_544 rfl ?_
                    refine nv_ldc2 (k := 128) hx hb hown (ht _ kw5_160) (by decide) dX12_errorCame_545 ?_
                    refine wr_S S (c_X12_put (ws := mW cy o ad tp (40 + len9) sz bits F G u nb ns T M id ft gc fi g pt ih il ip pn op so fa fp st en dr ++ tl) (kr := 2) (N := 1640) rfl (by omega) (a := 88) (many := 1) (x := 128) (v := lN (128)) (by omega) (by omega) (fun k hk => by rw [lN_toNat (by omega)])) kw5_123 yv_X12_put ⟨Nat.le_of_ble_eq_true rfl, Nat.le_of_ble_eq_true rfl⟩ hK hP hD hS hA rfl hl.1 rfl (Nat.le_of_ble_eq_true rfl) dX12_errorCame_548 ⟨Nat.zero_le _, Nat.zero_le _⟩ (fun g_16 H locs hg_16 hP hD hS => ?_)
                    have hP : va_P D vwCl (mW cy o ad tp (40 + len9) sz bits F G u nb ns T M id ft g_16 fi g pt ih il ip pn op so fa fp st en dr ++ tl) H := hP
                    have hD : va_D A (mW cy o ad tp (40 + len9) sz bits F G u nb ns T M id ft g_16 fi g pt ih il ip pn op so fa fp st en dr ++ tl) := hD
                    refine W.eq (g2 := F0 m 551 ls []) rfl ?_
                    refine lv_aload_n hx hb dX12_errorCame_551 rfl (lv_at hl 0 rfl) ?_
                    refine va_get (ci := 9) (C := RX12) (T := TX12) (N := 28) hx hb ht iFX12 hown hK hP 0 rfl rfl 2 (by decide) (ht _ kw4_112) (fun _ h9 => h9) rfl dX12_errorCame_552 ?_
                    refine nv_bipush (k := 92) hx hb dX12_errorCame_555 (by decide) ?_
                    refine nv_iconst (k := 2) hx hb dX12_errorCame_557 rfl ?_
                    refine lv_aload_n hx hb dX12_errorCame_558 rfl (lv_at hl 0 rfl) ?_
                    refine va_get (ci := 9) (C := RX12) (T := TX12) (N := 28) hx hb ht iFX12 hown hK hP 0 rfl rfl 15 (by decide) (ht _ kw4_125) (fun _ h9 => h9) rfl dX12_errorCame_559 ?_
                    refine lv_iload_n hx hb dX12_errorCame_562 rfl (lv_at hl 2 rfl) ?_
                    refine nv_iald hx hb hK hP 8 rfl (by omega) (by omega) dX12_errorCame_563 ?_
                    refine nv_i2l hx hb (by omega) dX12_errorCame_564 ?_
                    refine wr_S S (c_X12_put (ws := mW cy o ad tp (40 + len9) sz bits F G u nb ns T M id ft g_16 fi g pt ih il ip pn op so fa fp st en dr ++ tl) (kr := 2) (N := 1640) rfl (by omega) (a := 92) (many := 2) (x := ip b) (v := lN (ip b)) (by omega) (by omega) (fun k hk => by rw [lN_toNat (by omega)])) kw5_123 yv_X12_put ⟨Nat.le_of_ble_eq_true rfl, Nat.le_of_ble_eq_true rfl⟩ hK hP hD hS hA rfl hl.1 rfl (Nat.le_of_ble_eq_true rfl) dX12_errorCame_565 ⟨Nat.zero_le _, Nat.zero_le _⟩ (fun g_17 H locs hg_17 hP hD hS => ?_)
                    have hP : va_P D vwCl (mW cy o ad tp (40 + len9) sz bits F G u nb ns T M id ft g_17 fi g pt ih il ip pn op so fa fp st en dr ++ tl) H := hP
                    have hD : va_D A (mW cy o ad tp (40 + len9) sz bits F G u nb ns T M id ft g_17 fi g pt ih il ip pn op so fa fp st en dr ++ tl) := hD
                    refine W.eq (g2 := F0 m 568 ls []) rfl ?_
                    refine lv_goto (tgt := 588) hx hb dX12_errorCame_568 (by decide) ?_
                    refine lv_aload_n hx hb dX12_errorCame_588 rfl (lv_at hl 0 rfl) ?_
                    refine nv_bipush (k := 58) hx hb dX12_errorCame_589 (by decide) ?_
                    refine wr_V S (c_X12_finish (q := 58) (by omega) (by show 40 + 2 + 2 ≤ _; omega) (by omega)) kw5_161 yv_X12_finish ⟨Nat.le_of_ble_eq_true rfl, Nat.le_of_ble_eq_true rfl⟩ hK hP hD hS hA (va_recv hK hP (ci := 9) (q0 := 0) rfl rfl) rfl hl.1 rfl (Nat.le_of_ble_eq_true rfl) dX12_errorCame_591 ⟨Nat.zero_le _, Nat.zero_le _⟩ (fun u8 H locs hu8 hP hD hS => ?_)
                    have hP : va_P D vwCl (mW cy o ad tp (40 + len9) sz bits F G u nb ns T (M + 1) id ft (tg_fin g_17 (40 + len9) 40 58) fi g pt ih il ip pn op so fa fp st en dr ++ tl) H := hP
                    have hD : va_D A (mW cy o ad tp (40 + len9) sz bits F G u nb ns T (M + 1) id ft (tg_fin g_17 (40 + len9) 40 58) fi g pt ih il ip pn op so fa fp st en dr ++ tl) := hD
                    refine W.eq (g2 := F0 m 594 ls []) rfl ?_
                    refine lv_aload_n hx hb dX12_errorCame_594 rfl (lv_at hl 0 rfl) ?_
                    refine va_get (ci := 9) (C := RX12) (T := TX12) (N := 28) hx hb ht iFX12 hown hK hP 0 rfl rfl 3 (by decide) (ht _ kw4_113) (fun _ h9 => h9) rfl dX12_errorCame_595 ?_
                    have eos : 40 + len9 = min (sz + 40) 1280 := by omega
                    rw [eos] at hP hD
                    exact hend _ (by rw [eos]) (by rw [hg_17, hg_16, hgc, hg_11, hg_10, hg_9, hg_8, hg_7, hg_6, hg_5, hg_4, hg_3, hg_2, hg_1, hg0]; unfold mk_err mk_e3 mk_e2 mk_e1; rw [← enx, ← emu, ← enu, ← erm, ← elen]; first | rw [if_pos h535] | rw [if_neg h535]) hP hD hS dX12_errorCame_598
                  refine lv_aload_n hx hb dX12_errorCame_507 rfl (lv_at hl 0 rfl) ?_
                  refine va_get (ci := 9) (C := RX12) (T := TX12) (N := 28) hx hb ht iFX12 hown hK hP 0 rfl rfl 2 (by decide) (ht _ kw4_112) (fun _ h9 => h9) rfl dX12_errorCame_508 ?_
                  refine nv_bipush (k := 88) hx hb dX12_errorCame_511 (by decide) ?_
                  refine lv_iload hx hb dX12_errorCame_513 (lv_at hl 4 rfl) ?_
                  refine nv_iadd hx hb dX12_errorCame_515 ?_
                  refine lv_aload_n hx hb dX12_errorCame_516 rfl (lv_at hl 0 rfl) ?_
                  refine va_get (ci := 9) (C := RX12) (T := TX12) (N := 28) hx hb ht iFX12 hown hK hP 0 rfl rfl 4 (by decide) (ht _ kw4_114) (fun _ h9 => h9) rfl dX12_errorCame_517 ?_
                  refine nv_bipush (k := 48) hx hb dX12_errorCame_520 (by decide) ?_
                  refine lv_iload hx hb dX12_errorCame_522 (lv_at hl 4 rfl) ?_
                  refine nv_iadd hx hb dX12_errorCame_524 ?_
                  refine nv_bald hx hb hK hP 3 rfl (by omega) (by omega) dX12_errorCame_525 ?_
                  refine nv_bast hx hb hK hP hD hS 2 rfl (by omega) (by omega) dX12_errorCame_526 (fun H locs hP hD hS => ?_)
                  have hP : va_P D vwCl (mW cy o ad tp (40 + len9) sz bits F G u nb ns T M id ft (va_up ((fun i => if 88 ≤ i ∧ i < 88 + kk then fi (i - 40) else g_11 i)) (88 + kk) (by8 ((bt fi (48 + kk))))) fi g pt ih il ip pn op so fa fp st en dr ++ tl) H := hP
                  have hD : va_D A (mW cy o ad tp (40 + len9) sz bits F G u nb ns T M id ft (va_up ((fun i => if 88 ≤ i ∧ i < 88 + kk then fi (i - 40) else g_11 i)) (88 + kk) (by8 ((bt fi (48 + kk))))) fi g pt ih il ip pn op so fa fp st en dr ++ tl) := hD
                  refine lv_iinc (v := (nI (kk + 1))) (lv' := [(11, .int (nI (kk + 1))), (0, .ref o), (1, .int (nI q)), (3, .int (nI b)), (4, .int (nI (sz - 48)))]) hx hb dX12_errorCame_527 hl (k := 4) rfl (nI_inc _ _) (by decide) rfl (fun ls hl => ?_)
                  refine lv_goto (tgt := 488) hx hb dX12_errorCame_530 (by decide) ?_
                  have e1 : va_up ((fun i => if 88 ≤ i ∧ i < 88 + kk then fi (i - 40) else g_11 i)) (88 + kk) (by8 ((bt fi (48 + kk)))) = (fun i => if 88 ≤ i ∧ i < 88 + (kk + 1) then fi (i - 40) else g_11 i) := by
                    funext i
                    rw [show by8 (bt fi (48 + kk)) = fi (48 + kk) from u8_rt (fi (48 + kk))]
                    unfold va_up
                    by_cases h : i = 88 + kk
                    · rw [if_pos h, if_pos (by omega), show i - 40 = 48 + kk by omega]
                    · rw [if_neg h]
                      dsimp only
                      by_cases h2 : 88 ≤ i ∧ i < 88 + kk
                      · rw [if_pos h2, if_pos (by omega)]
                      · rw [if_neg h2, if_neg (by omega)]
                  rw [e1] at hP hD
                  exact ihh (kk + 1) H locs (by omega) (by omega) (by omega) hP hD hS ls (lv_sub hl [1, 2, 3, 4, 0] rfl)
              have e00 : g_11 = (fun i => if 88 ≤ i ∧ i < 88 + 0 then fi (i - 40) else g_11 i) := by funext i; rw [if_neg (by omega)]
              exact L488 ((len9 - 48) + 1) 0 H locs (by omega) (by omega) (by omega) (by rw [← e00]; exact hP) (by rw [← e00]; exact hD) hS ls (lv_sub hl [11, 10, 8, 7, 0] rfl)
            refine nv_icmp_ne (tgt := 378) hx hb dX12_errorCame_369 (by decide) (by omega) (by omega) (fun h369 => ?_) (fun h369 => ?_)
            · skip
              refine lv_iload_n hx hb dX12_errorCame_378 rfl (lv_at hl 9 rfl) ?_
              refine nv_i2l hx hb (by omega) dX12_errorCame_379 ?_
              refine W.eq (g2 := F0 m 380 ls [.long (lN (nx)), .int (nI 1), .int (nI 54), .ref (ad 1)]) (congrArg (fun z9 => F0 m 380 ls [.long (lN z9), .int (nI 1), .int (nI 54), .ref (ad 1)]) (show q = nx from (by rw [enx]; unfold tg_nx; split <;> first | rfl | omega))) ?_
              exact J380 ls (lv_sub hl [0, 1, 2, 3, 4, 5, 6, 7, 8, 9, 10] rfl)
            refine nv_ldc2 (k := 58) hx hb hown (ht _ kw5_159) (by decide) dX12_errorCame_372 ?_
            refine lv_goto (tgt := 380) hx hb dX12_errorCame_375 (by decide) ?_
            refine W.eq (g2 := F0 m 380 ls [.long (lN (nx)), .int (nI 1), .int (nI 54), .ref (ad 1)]) (congrArg (fun z9 => F0 m 380 ls [.long (lN z9), .int (nI 1), .int (nI 54), .ref (ad 1)]) (show 58 = nx from (by rw [enx]; unfold tg_nx; split <;> first | rfl | omega))) ?_
            exact J380 ls (lv_sub hl [0, 1, 2, 3, 4, 5, 6, 7, 8, 9, 10] rfl)
          refine nv_icmp_ne (tgt := 306) hx hb dX12_errorCame_283 (by decide) (by omega) (by omega) (fun h283 => ?_) (fun h283 => ?_)
          · skip
            refine lv_lconst (v := lN 0) hx hb dX12_errorCame_306 (by decide) ?_
            refine W.eq (g2 := F0 m 307 ls [.long (lN (rm)), .int (nI 4), .int (nI 44), .ref (ad 1)]) (congrArg (fun z9 => F0 m 307 ls [.long (lN z9), .int (nI 4), .int (nI 44), .ref (ad 1)]) (show 0 = rm from (by rw [erm]; unfold mk_rm; rw [← emu]; split <;> omega))) ?_
            exact J307 ls (lv_sub hl [0, 1, 2, 3, 4, 5, 6, 7, 8, 9, 10] rfl)
          refine lv_iload hx hb dX12_errorCame_286 (lv_at hl 0 rfl) ?_
          refine nv_sipush (k := 1280) hx hb dX12_errorCame_288 (by decide) ?_
          refine nv_icmp_le (tgt := 300) hx hb dX12_errorCame_291 (by decide) (by omega) (by omega) (fun h291 => ?_) (fun h291 => ?_)
          · skip
            refine nv_ldc2 (k := 1280) hx hb hown (ht _ kw5_158) (by decide) dX12_errorCame_300 ?_
            refine lv_goto (tgt := 307) hx hb dX12_errorCame_303 (by decide) ?_
            refine W.eq (g2 := F0 m 307 ls [.long (lN (rm)), .int (nI 4), .int (nI 44), .ref (ad 1)]) (congrArg (fun z9 => F0 m 307 ls [.long (lN z9), .int (nI 4), .int (nI 44), .ref (ad 1)]) (show 1280 = rm from (by rw [erm]; unfold mk_rm; rw [← emu]; split <;> omega))) ?_
            exact J307 ls (lv_sub hl [0, 1, 2, 3, 4, 5, 6, 7, 8, 9, 10] rfl)
          refine lv_iload hx hb dX12_errorCame_294 (lv_at hl 0 rfl) ?_
          refine nv_i2l hx hb (by omega) dX12_errorCame_296 ?_
          refine lv_goto (tgt := 307) hx hb dX12_errorCame_297 (by decide) ?_
          refine W.eq (g2 := F0 m 307 ls [.long (lN (rm)), .int (nI 4), .int (nI 44), .ref (ad 1)]) (congrArg (fun z9 => F0 m 307 ls [.long (lN z9), .int (nI 4), .int (nI 44), .ref (ad 1)]) (show (tg_pr (tg_rd fi sz) 26) + 20 = rm from (by rw [erm]; unfold mk_rm; rw [← emu]; split <;> omega))) ?_
          exact J307 ls (lv_sub hl [0, 1, 2, 3, 4, 5, 6, 7, 8, 9, 10] rfl)
        refine nv_icmp_ne (tgt := 178) hx hb dX12_errorCame_170 (by decide) (by omega) (by omega) (fun h170 => ?_) (fun h170 => ?_)
        · skip
          refine lv_iload hx hb dX12_errorCame_178 (lv_at hl 1 rfl) ?_
          refine nv_iconst (k := 3) hx hb dX12_errorCame_180 rfl ?_
          refine nv_icmp_ne (tgt := 188) hx hb dX12_errorCame_181 (by decide) (by omega) (by omega) (fun h181 => ?_) (fun h181 => ?_)
          · skip
            refine lv_iload hx hb dX12_errorCame_188 (lv_at hl 1 rfl) ?_
            refine nv_iconst (k := 4) hx hb dX12_errorCame_190 rfl ?_
            refine nv_icmp_ne (tgt := 198) hx hb dX12_errorCame_191 (by decide) (by omega) (by omega) (fun h191 => ?_) (fun h191 => ?_)
            · skip
              refine lv_iload hx hb dX12_errorCame_198 (lv_at hl 1 rfl) ?_
              refine nv_bipush (k := 9) hx hb dX12_errorCame_200 (by decide) ?_
              refine nv_icmp_eq (tgt := 226) hx hb dX12_errorCame_202 (by decide) (by omega) (by omega) (fun h202 => ?_) (fun h202 => ?_)
              · skip
                refine nv_iconst (k := 1) hx hb dX12_errorCame_226 rfl ?_
                refine lv_goto (tgt := 231) hx hb dX12_errorCame_227 (by decide) ?_
                refine W.eq (g2 := F0 m 231 ls [.int (nI nu)]) (congrArg (fun z9 => F0 m 231 ls [.int (nI z9)]) (show 1 = nu from (by rw [enu]; unfold mk_nu; (repeat' split) <;> first | rfl | (exfalso; omega)))) ?_
                exact J231 ls (lv_sub hl [0, 1, 2, 3, 4, 5, 6, 7, 8] rfl)
              refine lv_iload hx hb dX12_errorCame_205 (lv_at hl 1 rfl) ?_
              refine nv_bipush (k := 10) hx hb dX12_errorCame_207 (by decide) ?_
              refine nv_icmp_eq (tgt := 226) hx hb dX12_errorCame_209 (by decide) (by omega) (by omega) (fun h209 => ?_) (fun h209 => ?_)
              · skip
                refine nv_iconst (k := 1) hx hb dX12_errorCame_226 rfl ?_
                refine lv_goto (tgt := 231) hx hb dX12_errorCame_227 (by decide) ?_
                refine W.eq (g2 := F0 m 231 ls [.int (nI nu)]) (congrArg (fun z9 => F0 m 231 ls [.int (nI z9)]) (show 1 = nu from (by rw [enu]; unfold mk_nu; (repeat' split) <;> first | rfl | (exfalso; omega)))) ?_
                exact J231 ls (lv_sub hl [0, 1, 2, 3, 4, 5, 6, 7, 8] rfl)
              refine lv_iload hx hb dX12_errorCame_212 (lv_at hl 1 rfl) ?_
              refine nv_bipush (k := 13) hx hb dX12_errorCame_214 (by decide) ?_
              refine nv_icmp_eq (tgt := 226) hx hb dX12_errorCame_216 (by decide) (by omega) (by omega) (fun h216 => ?_) (fun h216 => ?_)
              · skip
                refine nv_iconst (k := 1) hx hb dX12_errorCame_226 rfl ?_
                refine lv_goto (tgt := 231) hx hb dX12_errorCame_227 (by decide) ?_
                refine W.eq (g2 := F0 m 231 ls [.int (nI nu)]) (congrArg (fun z9 => F0 m 231 ls [.int (nI z9)]) (show 1 = nu from (by rw [enu]; unfold mk_nu; (repeat' split) <;> first | rfl | (exfalso; omega)))) ?_
                exact J231 ls (lv_sub hl [0, 1, 2, 3, 4, 5, 6, 7, 8] rfl)
              refine lv_iload hx hb dX12_errorCame_219 (lv_at hl 1 rfl) ?_
              refine nv_bipush (k := 15) hx hb dX12_errorCame_221 (by decide) ?_
              refine nv_icmp_ne (tgt := 230) hx hb dX12_errorCame_223 (by decide) (by omega) (by omega) (fun h223 => ?_) (fun h223 => ?_)
              · skip
                refine nv_iconst (k := 0) hx hb dX12_errorCame_230 rfl ?_
                refine W.eq (g2 := F0 m 231 ls [.int (nI nu)]) (congrArg (fun z9 => F0 m 231 ls [.int (nI z9)]) (show 0 = nu from (by rw [enu]; unfold mk_nu; (repeat' split) <;> first | rfl | (exfalso; omega)))) ?_
                exact J231 ls (lv_sub hl [0, 1, 2, 3, 4, 5, 6, 7, 8] rfl)
              refine nv_iconst (k := 1) hx hb dX12_errorCame_226 rfl ?_
              refine lv_goto (tgt := 231) hx hb dX12_errorCame_227 (by decide) ?_
              refine W.eq (g2 := F0 m 231 ls [.int (nI nu)]) (congrArg (fun z9 => F0 m 231 ls [.int (nI z9)]) (show 1 = nu from (by rw [enu]; unfold mk_nu; (repeat' split) <;> first | rfl | (exfalso; omega)))) ?_
              exact J231 ls (lv_sub hl [0, 1, 2, 3, 4, 5, 6, 7, 8] rfl)
            refine nv_iconst (k := 0) hx hb dX12_errorCame_194 rfl ?_
            refine lv_goto (tgt := 231) hx hb dX12_errorCame_195 (by decide) ?_
            refine W.eq (g2 := F0 m 231 ls [.int (nI nu)]) (congrArg (fun z9 => F0 m 231 ls [.int (nI z9)]) (show 0 = nu from (by rw [enu]; unfold mk_nu; (repeat' split) <;> first | rfl | (exfalso; omega)))) ?_
            exact J231 ls (lv_sub hl [0, 1, 2, 3, 4, 5, 6, 7, 8] rfl)
          refine nv_iconst (k := 4) hx hb dX12_errorCame_184 rfl ?_
          refine lv_goto (tgt := 231) hx hb dX12_errorCame_185 (by decide) ?_
          refine W.eq (g2 := F0 m 231 ls [.int (nI nu)]) (congrArg (fun z9 => F0 m 231 ls [.int (nI z9)]) (show 4 = nu from (by rw [enu]; unfold mk_nu; (repeat' split) <;> first | rfl | (exfalso; omega)))) ?_
          exact J231 ls (lv_sub hl [0, 1, 2, 3, 4, 5, 6, 7, 8] rfl)
        refine lv_iload hx hb dX12_errorCame_173 (lv_at hl 1 rfl) ?_
        refine lv_goto (tgt := 231) hx hb dX12_errorCame_175 (by decide) ?_
        refine W.eq (g2 := F0 m 231 ls [.int (nI nu)]) (congrArg (fun z9 => F0 m 231 ls [.int (nI z9)]) (show tg_rd fi sz 21 = nu from (by rw [enu]; unfold mk_nu; (repeat' split) <;> first | rfl | (exfalso; omega)))) ?_
        exact J231 ls (lv_sub hl [0, 1, 2, 3, 4, 5, 6, 7, 8] rfl)
      refine nv_icmp_ne (tgt := 143) hx hb dX12_errorCame_136 (by decide) (by omega) (by omega) (fun h136 => ?_) (fun h136 => ?_)
      · skip
        refine lv_iload hx hb dX12_errorCame_143 (lv_at hl 0 rfl) ?_
        refine nv_iconst (k := 4) hx hb dX12_errorCame_145 rfl ?_
        refine nv_icmp_ne (tgt := 153) hx hb dX12_errorCame_146 (by decide) (by omega) (by omega) (fun h146 => ?_) (fun h146 => ?_)
        · skip
          refine lv_iload hx hb dX12_errorCame_153 (lv_at hl 0 rfl) ?_
          refine nv_iconst (k := 3) hx hb dX12_errorCame_155 rfl ?_
          refine nv_icmp_ne (tgt := 163) hx hb dX12_errorCame_156 (by decide) (by omega) (by omega) (fun h156 => ?_) (fun h156 => ?_)
          · skip
            refine nv_iconst (k := 1) hx hb dX12_errorCame_163 rfl ?_
            refine W.eq (g2 := F0 m 164 ls [.int (nI mu)]) (congrArg (fun z9 => F0 m 164 ls [.int (nI z9)]) (show 1 = mu from (by rw [emu]; unfold mk_mu; (repeat' split) <;> first | rfl | (exfalso; omega)))) ?_
            exact J164 ls (lv_sub hl [0, 1, 2, 3, 4, 5, 6, 7] rfl)
          refine nv_iconst (k := 1) hx hb dX12_errorCame_159 rfl ?_
          refine lv_goto (tgt := 164) hx hb dX12_errorCame_160 (by decide) ?_
          refine W.eq (g2 := F0 m 164 ls [.int (nI mu)]) (congrArg (fun z9 => F0 m 164 ls [.int (nI z9)]) (show 1 = mu from (by rw [emu]; unfold mk_mu; (repeat' split) <;> first | rfl | (exfalso; omega)))) ?_
          exact J164 ls (lv_sub hl [0, 1, 2, 3, 4, 5, 6, 7] rfl)
        refine nv_iconst (k := 2) hx hb dX12_errorCame_149 rfl ?_
        refine lv_goto (tgt := 164) hx hb dX12_errorCame_150 (by decide) ?_
        refine W.eq (g2 := F0 m 164 ls [.int (nI mu)]) (congrArg (fun z9 => F0 m 164 ls [.int (nI z9)]) (show 2 = mu from (by rw [emu]; unfold mk_mu; (repeat' split) <;> first | rfl | (exfalso; omega)))) ?_
        exact J164 ls (lv_sub hl [0, 1, 2, 3, 4, 5, 6, 7] rfl)
      refine nv_iconst (k := 3) hx hb dX12_errorCame_139 rfl ?_
      refine lv_goto (tgt := 164) hx hb dX12_errorCame_140 (by decide) ?_
      refine W.eq (g2 := F0 m 164 ls [.int (nI mu)]) (congrArg (fun z9 => F0 m 164 ls [.int (nI z9)]) (show 3 = mu from (by rw [emu]; unfold mk_mu; (repeat' split) <;> first | rfl | (exfalso; omega)))) ?_
      exact J164 ls (lv_sub hl [0, 1, 2, 3, 4, 5, 6, 7] rfl)
    refine nv_icmp_le (tgt := 94) hx hb dX12_errorCame_85 (by decide) (by omega) (by omega) (fun h85 => ?_) (fun h85 => ?_)
    · skip
      refine nv_bipush (k := 48) hx hb dX12_errorCame_94 (by decide) ?_
      refine lv_iload hx hb dX12_errorCame_96 (lv_at hl 0 rfl) ?_
      refine nv_iadd hx hb dX12_errorCame_98 ?_
      refine W.eq (g2 := F0 m 99 ls [.int (nI len9)]) (congrArg (fun z9 => F0 m 99 ls [.int (nI z9)]) (show 48 + (sz - 48) = len9 from (by rw [elen]; omega))) ?_
      exact J99 ls (lv_sub hl [0, 1, 2, 3, 4] rfl)
    refine nv_sipush (k := 1240) hx hb dX12_errorCame_88 (by decide) ?_
    refine lv_goto (tgt := 99) hx hb dX12_errorCame_91 (by decide) ?_
    refine W.eq (g2 := F0 m 99 ls [.int (nI len9)]) (congrArg (fun z9 => F0 m 99 ls [.int (nI z9)]) (show 1240 = len9 from (by rw [elen]; omega))) ?_
    exact J99 ls (lv_sub hl [0, 1, 2, 3, 4] rfl)
  refine nv_icmp_ne (tgt := 27) hx hb dX12_errorCame_12 (by decide) (by omega) (by omega) (fun h12 => ?_) (fun h12 => ?_)
  · skip
    refine lv_aload_n hx hb dX12_errorCame_27 rfl (lv_at hl 1 rfl) ?_
    refine va_get (ci := 9) (C := RX12) (T := TX12) (N := 28) hx hb ht iFX12 hown hK hP 0 rfl rfl 4 (by decide) (ht _ kw4_114) (fun _ h9 => h9) rfl dX12_errorCame_28 ?_
    refine nv_bipush (k := 48) hx hb dX12_errorCame_31 (by decide) ?_
    refine ro_S S (c_X12_two (AR_of (ws := mW cy o ad tp os sz bits F G u nb ns T M id ft fo fi g pt ih il ip pn op so fa fp st en dr ++ tl) (kr := 3) (N := 1600) (n := sz) rfl (by omega) (by omega)) (i := 48) (by omega)) kw5_44 yv_X12_two ⟨Nat.le_of_ble_eq_true rfl, Nat.le_of_ble_eq_true rfl⟩ hK hP rfl hl.1 rfl (Nat.le_of_ble_eq_true rfl) dX12_errorCame_33 ⟨(Nat.zero_le _), (Nat.zero_le _)⟩ ?_
    have hq33 := tg_pr_lt fi sz 48
    refine W.eq (g2 := F0 m 36 ls [.int (nI port)]) (congrArg (fun z9 => F0 m 36 ls [.int (nI z9)]) (show tg_pr (tg_rd fi sz) 48 = port from (by rw [eport]; unfold tg_spa; split <;> first | rfl | (exfalso; omega)))) ?_
    exact J36 ls (lv_sub hl [0, 1] rfl)
  refine lv_aload_n hx hb dX12_errorCame_15 rfl (lv_at hl 1 rfl) ?_
  refine va_get (ci := 9) (C := RX12) (T := TX12) (N := 28) hx hb ht iFX12 hown hK hP 0 rfl rfl 4 (by decide) (ht _ kw4_114) (fun _ h9 => h9) rfl dX12_errorCame_16 ?_
  refine nv_bipush (k := 52) hx hb dX12_errorCame_19 (by decide) ?_
  refine ro_S S (c_X12_two (AR_of (ws := mW cy o ad tp os sz bits F G u nb ns T M id ft fo fi g pt ih il ip pn op so fa fp st en dr ++ tl) (kr := 3) (N := 1600) (n := sz) rfl (by omega) (by omega)) (i := 52) (by omega)) kw5_44 yv_X12_two ⟨Nat.le_of_ble_eq_true rfl, Nat.le_of_ble_eq_true rfl⟩ hK hP rfl hl.1 rfl (Nat.le_of_ble_eq_true rfl) dX12_errorCame_21 ⟨(Nat.zero_le _), (Nat.zero_le _)⟩ ?_
  have hq21 := tg_pr_lt fi sz 52
  refine lv_goto (tgt := 36) hx hb dX12_errorCame_24 (by decide) ?_
  refine W.eq (g2 := F0 m 36 ls [.int (nI port)]) (congrArg (fun z9 => F0 m 36 ls [.int (nI z9)]) (show tg_pr (tg_rd fi sz) 52 = port from (by rw [eport]; unfold tg_spa; split <;> first | rfl | (exfalso; omega)))) ?_
  exact J36 ls (lv_sub hl [0, 1] rfl)
