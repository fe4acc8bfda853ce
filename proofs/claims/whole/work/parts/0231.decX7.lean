theorem dX7_digest_53 : decode cX7_digest 53 = .ok (.iload_n 3, 1) := by decide +kernel
theorem dX7_digest_54 : decode cX7_digest 54 = .ok (.if_icmp .ge 17, 3) := by decide +kernel
theorem dX7_digest_57 : decode cX7_digest 57 = .ok (.aload_n 0, 1) := by decide +kernel
theorem dX7_digest_58 : decode cX7_digest 58 = .ok (.lload_n 1, 1) := by decide +kernel
theorem dX7_digest_59 : decode cX7_digest 59 = .ok (.iload 4, 2) := by decide +kernel
theorem dX7_digest_61 : decode cX7_digest 61 = .ok (.invokevirtual 308, 3) := by decide +kernel
theorem dX7_digest_64 : decode cX7_digest 64 = .ok (.lstore_n 1, 1) := by decide +kernel
theorem dX7_digest_65 : decode cX7_digest 65 = .ok (.iinc 4 1, 3) := by decide +kernel
theorem dX7_digest_68 : decode cX7_digest 68 = .ok (.goto (-17), 3) := by decide +kernel
theorem dX7_digest_71 : decode cX7_digest 71 = .ok (.iconst 0, 1) := by decide +kernel
theorem dX7_digest_72 : decode cX7_digest 72 = .ok (.istore 4, 2) := by decide +kernel
theorem dX7_digest_74 : decode cX7_digest 74 = .ok (.iload 4, 2) := by decide +kernel
theorem dX7_digest_76 : decode cX7_digest 76 = .ok (.bipush 8, 2) := by decide +kernel
theorem dX7_digest_78 : decode cX7_digest 78 = .ok (.if_icmp .ge 41, 3) := by decide +kernel
theorem dX7_digest_81 : decode cX7_digest 81 = .ok (.iconst 0, 1) := by decide +kernel
theorem dX7_digest_82 : decode cX7_digest 82 = .ok (.istore 5, 2) := by decide +kernel
theorem dX7_digest_84 : decode cX7_digest 84 = .ok (.iload 5, 2) := by decide +kernel
theorem dX7_digest_86 : decode cX7_digest 86 = .ok (.iconst 4, 1) := by decide +kernel
theorem dX7_digest_87 : decode cX7_digest 87 = .ok (.if_icmp .ge 26, 3) := by decide +kernel
theorem dX7_digest_90 : decode cX7_digest 90 = .ok (.ldc2_w 295, 3) := by decide +kernel
theorem dX7_digest_93 : decode cX7_digest 93 = .ok (.lload_n 1, 1) := by decide +kernel
theorem dX7_digest_94 : decode cX7_digest 94 = .ok (.lmul, 1) := by decide +kernel
theorem dX7_digest_95 : decode cX7_digest 95 = .ok (.aload_n 0, 1) := by decide +kernel
theorem dX7_digest_96 : decode cX7_digest 96 = .ok (.iconst 0, 1) := by decide +kernel
theorem dX7_digest_97 : decode cX7_digest 97 = .ok (.iload 4, 2) := by decide +kernel
theorem dX7_digest_99 : decode cX7_digest 99 = .ok (.iload 5, 2) := by decide +kernel
theorem dX7_digest_101 : decode cX7_digest 101 = .ok (.invokevirtual 300, 3) := by decide +kernel
theorem dX7_digest_104 : decode cX7_digest 104 = .ok (.i2l, 1) := by decide +kernel
theorem dX7_digest_105 : decode cX7_digest 105 = .ok (.ladd, 1) := by decide +kernel
theorem dX7_digest_106 : decode cX7_digest 106 = .ok (.lstore_n 1, 1) := by decide +kernel
theorem dX7_digest_107 : decode cX7_digest 107 = .ok (.iinc 5 1, 3) := by decide +kernel
theorem dX7_digest_110 : decode cX7_digest 110 = .ok (.goto (-26), 3) := by decide +kernel
theorem dX7_digest_113 : decode cX7_digest 113 = .ok (.iinc 4 1, 3) := by decide +kernel
theorem dX7_digest_116 : decode cX7_digest 116 = .ok (.goto (-42), 3) := by decide +kernel
theorem dX7_digest_119 : decode cX7_digest 119 = .ok (.ldc2_w 295, 3) := by decide +kernel
theorem dX7_digest_122 : decode cX7_digest 122 = .ok (.lload_n 1, 1) := by decide +kernel
theorem dX7_digest_123 : decode cX7_digest 123 = .ok (.lmul, 1) := by decide +kernel
theorem dX7_digest_124 : decode cX7_digest 124 = .ok (.aload_n 0, 1) := by decide +kernel
theorem dX7_digest_125 : decode cX7_digest 125 = .ok (.iconst 0, 1) := by decide +kernel
theorem dX7_digest_126 : decode cX7_digest 126 = .ok (.invokevirtual 190, 3) := by decide +kernel
theorem dX7_digest_129 : decode cX7_digest 129 = .ok (.i2l, 1) := by decide +kernel
theorem dX7_digest_130 : decode cX7_digest 130 = .ok (.ladd, 1) := by decide +kernel
theorem dX7_digest_131 : decode cX7_digest 131 = .ok (.lstore_n 1, 1) := by decide +kernel
theorem dX7_digest_132 : decode cX7_digest 132 = .ok (.ldc2_w 295, 3) := by decide +kernel
theorem dX7_digest_135 : decode cX7_digest 135 = .ok (.lload_n 1, 1) := by decide +kernel
theorem dX7_digest_136 : decode cX7_digest 136 = .ok (.lmul, 1) := by decide +kernel
theorem dX7_digest_137 : decode cX7_digest 137 = .ok (.aload_n 0, 1) := by decide +kernel
theorem dX7_digest_138 : decode cX7_digest 138 = .ok (.iconst 1, 1) := by decide +kernel
theorem dX7_digest_139 : decode cX7_digest 139 = .ok (.invokevirtual 190, 3) := by decide +kernel
theorem dX7_digest_142 : decode cX7_digest 142 = .ok (.i2l, 1) := by decide +kernel
theorem dX7_digest_143 : decode cX7_digest 143 = .ok (.ladd, 1) := by decide +kernel
theorem dX7_digest_144 : decode cX7_digest 144 = .ok (.lstore_n 1, 1) := by decide +kernel
theorem dX7_digest_145 : decode cX7_digest 145 = .ok (.iconst 0, 1) := by decide +kernel
theorem dX7_digest_146 : decode cX7_digest 146 = .ok (.istore 4, 2) := by decide +kernel
theorem dX7_digest_148 : decode cX7_digest 148 = .ok (.iload 4, 2) := by decide +kernel
theorem dX7_digest_150 : decode cX7_digest 150 = .ok (.iconst 5, 1) := by decide +kernel
theorem dX7_digest_151 : decode cX7_digest 151 = .ok (.if_icmp .ge 23, 3) := by decide +kernel
theorem dX7_digest_154 : decode cX7_digest 154 = .ok (.ldc2_w 295, 3) := by decide +kernel
theorem dX7_digest_157 : decode cX7_digest 157 = .ok (.lload_n 1, 1) := by decide +kernel
theorem dX7_digest_158 : decode cX7_digest 158 = .ok (.lmul, 1) := by decide +kernel
theorem dX7_digest_159 : decode cX7_digest 159 = .ok (.aload_n 0, 1) := by decide +kernel
theorem dX7_digest_160 : decode cX7_digest 160 = .ok (.iload 4, 2) := by decide +kernel
theorem dX7_digest_162 : decode cX7_digest 162 = .ok (.invokevirtual 206, 3) := by decide +kernel
theorem dX7_digest_165 : decode cX7_digest 165 = .ok (.i2l, 1) := by decide +kernel
theorem dX7_digest_166 : decode cX7_digest 166 = .ok (.ladd, 1) := by decide +kernel
theorem dX7_digest_167 : decode cX7_digest 167 = .ok (.lstore_n 1, 1) := by decide +kernel
theorem dX7_digest_168 : decode cX7_digest 168 = .ok (.iinc 4 1, 3) := by decide +kernel
theorem dX7_digest_171 : decode cX7_digest 171 = .ok (.goto (-23), 3) := by decide +kernel
theorem dX7_digest_174 : decode cX7_digest 174 = .ok (.iconst 0, 1) := by decide +kernel
theorem dX7_digest_175 : decode cX7_digest 175 = .ok (.istore 4, 2) := by decide +kernel
theorem dX7_digest_177 : decode cX7_digest 177 = .ok (.iload 4, 2) := by decide +kernel
theorem dX7_digest_179 : decode cX7_digest 179 = .ok (.bipush 10, 2) := by decide +kernel
theorem dX7_digest_181 : decode cX7_digest 181 = .ok (.if_icmp .ge 54, 3) := by decide +kernel
theorem dX7_digest_184 : decode cX7_digest 184 = .ok (.ldc2_w 295, 3) := by decide +kernel
theorem dX7_digest_187 : decode cX7_digest 187 = .ok (.lload_n 1, 1) := by decide +kernel
theorem dX7_digest_188 : decode cX7_digest 188 = .ok (.lmul, 1) := by decide +kernel
theorem dX7_digest_189 : decode cX7_digest 189 = .ok (.aload_n 0, 1) := by decide +kernel
theorem dX7_digest_190 : decode cX7_digest 190 = .ok (.iload 4, 2) := by decide +kernel
theorem dX7_digest_192 : decode cX7_digest 192 = .ok (.iconst (-1), 1) := by decide +kernel
theorem dX7_digest_193 : decode cX7_digest 193 = .ok (.invokevirtual 237, 3) := by decide +kernel
theorem dX7_digest_196 : decode cX7_digest 196 = .ok (.i2l, 1) := by decide +kernel
theorem dX7_digest_197 : decode cX7_digest 197 = .ok (.ladd, 1) := by decide +kernel
theorem dX7_digest_198 : decode cX7_digest 198 = .ok (.lstore_n 1, 1) := by decide +kernel
theorem dX7_digest_199 : decode cX7_digest 199 = .ok (.ldc2_w 295, 3) := by decide +kernel
theorem dX7_digest_202 : decode cX7_digest 202 = .ok (.lload_n 1, 1) := by decide +kernel
theorem dX7_digest_203 : decode cX7_digest 203 = .ok (.lmul, 1) := by decide +kernel
theorem dX7_digest_204 : decode cX7_digest 204 = .ok (.aload_n 0, 1) := by decide +kernel
theorem dX7_digest_205 : decode cX7_digest 205 = .ok (.iload 4, 2) := by decide +kernel
theorem dX7_digest_207 : decode cX7_digest 207 = .ok (.iconst 0, 1) := by decide +kernel
theorem dX7_digest_208 : decode cX7_digest 208 = .ok (.invokevirtual 237, 3) := by decide +kernel
theorem dX7_digest_211 : decode cX7_digest 211 = .ok (.i2l, 1) := by decide +kernel
theorem dX7_digest_212 : decode cX7_digest 212 = .ok (.ladd, 1) := by decide +kernel
theorem dX7_digest_213 : decode cX7_digest 213 = .ok (.lstore_n 1, 1) := by decide +kernel
theorem dX7_digest_214 : decode cX7_digest 214 = .ok (.ldc2_w 295, 3) := by decide +kernel
theorem dX7_digest_217 : decode cX7_digest 217 = .ok (.lload_n 1, 1) := by decide +kernel
theorem dX7_digest_218 : decode cX7_digest 218 = .ok (.lmul, 1) := by decide +kernel
theorem dX7_digest_219 : decode cX7_digest 219 = .ok (.aload_n 0, 1) := by decide +kernel
theorem dX7_digest_220 : decode cX7_digest 220 = .ok (.iload 4, 2) := by decide +kernel
theorem dX7_digest_222 : decode cX7_digest 222 = .ok (.iconst 5, 1) := by decide +kernel
theorem dX7_digest_223 : decode cX7_digest 223 = .ok (.invokevirtual 237, 3) := by decide +kernel
theorem dX7_digest_226 : decode cX7_digest 226 = .ok (.i2l, 1) := by decide +kernel
theorem dX7_digest_227 : decode cX7_digest 227 = .ok (.ladd, 1) := by decide +kernel
theorem dX7_digest_228 : decode cX7_digest 228 = .ok (.lstore_n 1, 1) := by decide +kernel
theorem dX7_digest_229 : decode cX7_digest 229 = .ok (.iinc 4 1, 3) := by decide +kernel
theorem dX7_digest_232 : decode cX7_digest 232 = .ok (.goto (-55), 3) := by decide +kernel
theorem dX7_digest_235 : decode cX7_digest 235 = .ok (.iconst 0, 1) := by decide +kernel
theorem dX7_digest_236 : decode cX7_digest 236 = .ok (.istore 4, 2) := by decide +kernel
theorem dX7_digest_238 : decode cX7_digest 238 = .ok (.iload 4, 2) := by decide +kernel
theorem dX7_digest_240 : decode cX7_digest 240 = .ok (.bipush 64, 2) := by decide +kernel
theorem dX7_digest_242 : decode cX7_digest 242 = .ok (.if_icmp .ge 40, 3) := by decide +kernel
theorem dX7_digest_245 : decode cX7_digest 245 = .ok (.iconst 0, 1) := by decide +kernel
theorem dX7_digest_246 : decode cX7_digest 246 = .ok (.istore 5, 2) := by decide +kernel
theorem dX7_digest_248 : decode cX7_digest 248 = .ok (.iload 5, 2) := by decide +kernel
theorem dX7_digest_250 : decode cX7_digest 250 = .ok (.iconst 3, 1) := by decide +kernel
theorem dX7_digest_251 : decode cX7_digest 251 = .ok (.if_icmp .ge 25, 3) := by decide +kernel
theorem dX7_digest_254 : decode cX7_digest 254 = .ok (.ldc2_w 295, 3) := by decide +kernel
theorem dX7_digest_257 : decode cX7_digest 257 = .ok (.lload_n 1, 1) := by decide +kernel
theorem dX7_digest_258 : decode cX7_digest 258 = .ok (.lmul, 1) := by decide +kernel
theorem dX7_digest_259 : decode cX7_digest 259 = .ok (.aload_n 0, 1) := by decide +kernel
theorem dX7_digest_260 : decode cX7_digest 260 = .ok (.iload 4, 2) := by decide +kernel
theorem dX7_digest_262 : decode cX7_digest 262 = .ok (.iload 5, 2) := by decide +kernel
theorem dX7_digest_264 : decode cX7_digest 264 = .ok (.invokevirtual 218, 3) := by decide +kernel
theorem dX7_digest_267 : decode cX7_digest 267 = .ok (.i2l, 1) := by decide +kernel
theorem dX7_digest_268 : decode cX7_digest 268 = .ok (.ladd, 1) := by decide +kernel
theorem dX7_digest_269 : decode cX7_digest 269 = .ok (.lstore_n 1, 1) := by decide +kernel
theorem dX7_digest_270 : decode cX7_digest 270 = .ok (.iinc 5 1, 3) := by decide +kernel
theorem dX7_digest_273 : decode cX7_digest 273 = .ok (.goto (-25), 3) := by decide +kernel
theorem dX7_digest_276 : decode cX7_digest 276 = .ok (.iinc 4 1, 3) := by decide +kernel
theorem dX7_digest_279 : decode cX7_digest 279 = .ok (.goto (-41), 3) := by decide +kernel
theorem dX7_digest_282 : decode cX7_digest 282 = .ok (.iconst 0, 1) := by decide +kernel
theorem dX7_digest_283 : decode cX7_digest 283 = .ok (.istore 4, 2) := by decide +kernel
theorem dX7_digest_285 : decode cX7_digest 285 = .ok (.iload 4, 2) := by decide +kernel
theorem dX7_digest_287 : decode cX7_digest 287 = .ok (.iconst 3, 1) := by decide +kernel
theorem dX7_digest_288 : decode cX7_digest 288 = .ok (.if_icmp .ge 23, 3) := by decide +kernel
theorem dX7_digest_291 : decode cX7_digest 291 = .ok (.ldc2_w 295, 3) := by decide +kernel
theorem dX7_digest_294 : decode cX7_digest 294 = .ok (.lload_n 1, 1) := by decide +kernel
theorem dX7_digest_295 : decode cX7_digest 295 = .ok (.lmul, 1) := by decide +kernel
theorem dX7_digest_296 : decode cX7_digest 296 = .ok (.aload_n 0, 1) := by decide +kernel
theorem dX7_digest_297 : decode cX7_digest 297 = .ok (.iload 4, 2) := by decide +kernel
theorem dX7_digest_299 : decode cX7_digest 299 = .ok (.invokevirtual 249, 3) := by decide +kernel
theorem dX7_digest_302 : decode cX7_digest 302 = .ok (.i2l, 1) := by decide +kernel
theorem dX7_digest_303 : decode cX7_digest 303 = .ok (.ladd, 1) := by decide +kernel
theorem dX7_digest_304 : decode cX7_digest 304 = .ok (.lstore_n 1, 1) := by decide +kernel
theorem dX7_digest_305 : decode cX7_digest 305 = .ok (.iinc 4 1, 3) := by decide +kernel
theorem dX7_digest_308 : decode cX7_digest 308 = .ok (.goto (-23), 3) := by decide +kernel
theorem dX7_digest_311 : decode cX7_digest 311 = .ok (.ldc2_w 295, 3) := by decide +kernel
theorem dX7_digest_314 : decode cX7_digest 314 = .ok (.lload_n 1, 1) := by decide +kernel
theorem dX7_digest_315 : decode cX7_digest 315 = .ok (.lmul, 1) := by decide +kernel
theorem dX7_digest_316 : decode cX7_digest 316 = .ok (.aload_n 0, 1) := by decide +kernel
theorem dX7_digest_317 : decode cX7_digest 317 = .ok (.invokevirtual 255, 3) := by decide +kernel
theorem dX7_digest_320 : decode cX7_digest 320 = .ok (.i2l, 1) := by decide +kernel
theorem dX7_digest_321 : decode cX7_digest 321 = .ok (.ladd, 1) := by decide +kernel
theorem dX7_digest_322 : decode cX7_digest 322 = .ok (.lstore_n 1, 1) := by decide +kernel
theorem dX7_digest_323 : decode cX7_digest 323 = .ok (.ldc2_w 295, 3) := by decide +kernel
theorem dX7_digest_326 : decode cX7_digest 326 = .ok (.lload_n 1, 1) := by decide +kernel
theorem dX7_digest_327 : decode cX7_digest 327 = .ok (.lmul, 1) := by decide +kernel
theorem dX7_digest_328 : decode cX7_digest 328 = .ok (.aload_n 0, 1) := by decide +kernel
theorem dX7_digest_329 : decode cX7_digest 329 = .ok (.iconst (-1), 1) := by decide +kernel
theorem dX7_digest_330 : decode cX7_digest 330 = .ok (.invokevirtual 261, 3) := by decide +kernel
theorem dX7_digest_333 : decode cX7_digest 333 = .ok (.i2l, 1) := by decide +kernel
theorem dX7_digest_334 : decode cX7_digest 334 = .ok (.ladd, 1) := by decide +kernel
theorem dX7_digest_335 : decode cX7_digest 335 = .ok (.lstore_n 1, 1) := by decide +kernel
theorem dX7_digest_336 : decode cX7_digest 336 = .ok (.ldc2_w 295, 3) := by decide +kernel
theorem dX7_digest_339 : decode cX7_digest 339 = .ok (.lload_n 1, 1) := by decide +kernel
theorem dX7_digest_340 : decode cX7_digest 340 = .ok (.lmul, 1) := by decide +kernel
theorem dX7_digest_341 : decode cX7_digest 341 = .ok (.aload_n 0, 1) := by decide +kernel
theorem dX7_digest_342 : decode cX7_digest 342 = .ok (.iconst 0, 1) := by decide +kernel
theorem dX7_digest_343 : decode cX7_digest 343 = .ok (.invokevirtual 261, 3) := by decide +kernel
theorem dX7_digest_346 : decode cX7_digest 346 = .ok (.i2l, 1) := by decide +kernel
theorem dX7_digest_347 : decode cX7_digest 347 = .ok (.ladd, 1) := by decide +kernel
theorem dX7_digest_348 : decode cX7_digest 348 = .ok (.lstore_n 1, 1) := by decide +kernel
theorem dX7_digest_349 : decode cX7_digest 349 = .ok (.ldc2_w 295, 3) := by decide +kernel
theorem dX7_digest_352 : decode cX7_digest 352 = .ok (.lload_n 1, 1) := by decide +kernel
theorem dX7_digest_353 : decode cX7_digest 353 = .ok (.lmul, 1) := by decide +kernel
theorem dX7_digest_354 : decode cX7_digest 354 = .ok (.aload_n 0, 1) := by decide +kernel
theorem dX7_digest_355 : decode cX7_digest 355 = .ok (.iconst 1, 1) := by decide +kernel
theorem dX7_digest_356 : decode cX7_digest 356 = .ok (.invokevirtual 261, 3) := by decide +kernel
theorem dX7_digest_359 : decode cX7_digest 359 = .ok (.i2l, 1) := by decide +kernel
theorem dX7_digest_360 : decode cX7_digest 360 = .ok (.ladd, 1) := by decide +kernel
theorem dX7_digest_361 : decode cX7_digest 361 = .ok (.lstore_n 1, 1) := by decide +kernel
theorem dX7_digest_362 : decode cX7_digest 362 = .ok (.ldc2_w 295, 3) := by decide +kernel
theorem dX7_digest_365 : decode cX7_digest 365 = .ok (.lload_n 1, 1) := by decide +kernel
theorem dX7_digest_366 : decode cX7_digest 366 = .ok (.lmul, 1) := by decide +kernel
theorem dX7_digest_367 : decode cX7_digest 367 = .ok (.aload_n 0, 1) := by decide +kernel
theorem dX7_digest_368 : decode cX7_digest 368 = .ok (.invokevirtual 273, 3) := by decide +kernel
theorem dX7_digest_371 : decode cX7_digest 371 = .ok (.i2l, 1) := by decide +kernel
theorem dX7_digest_372 : decode cX7_digest 372 = .ok (.ladd, 1) := by decide +kernel
theorem dX7_digest_373 : decode cX7_digest 373 = .ok (.lreturn, 1) := by decide +kernel
