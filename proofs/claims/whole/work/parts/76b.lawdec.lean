/-! the law's bytes -/
theorem d_law_0 : decode code 0 = .ok (.new 7, 3) := by decide +kernel
theorem d_law_3 : decode code 3 = .ok (.dup, 1) := by decide +kernel
theorem d_law_4 : decode code 4 = .ok (.invokespecial 9, 3) := by decide +kernel
theorem d_law_7 : decode code 7 = .ok (.astore_n 1, 1) := by decide +kernel
theorem d_law_8 : decode code 8 = .ok (.new 10, 3) := by decide +kernel
theorem d_law_11 : decode code 11 = .ok (.dup, 1) := by decide +kernel
theorem d_law_12 : decode code 12 = .ok (.invokespecial 12, 3) := by decide +kernel
theorem d_law_15 : decode code 15 = .ok (.astore_n 2, 1) := by decide +kernel
theorem d_law_16 : decode code 16 = .ok (.iconst 0, 1) := by decide +kernel
theorem d_law_17 : decode code 17 = .ok (.istore_n 3, 1) := by decide +kernel
theorem d_law_18 : decode code 18 = .ok (.iload_n 3, 1) := by decide +kernel
theorem d_law_19 : decode code 19 = .ok (.aload_n 0, 1) := by decide +kernel
theorem d_law_20 : decode code 20 = .ok (.arraylength, 1) := by decide +kernel
theorem d_law_21 : decode code 21 = .ok (.iconst 5, 1) := by decide +kernel
theorem d_law_22 : decode code 22 = .ok (.isub, 1) := by decide +kernel
theorem d_law_23 : decode code 23 = .ok (.if_icmp .gt 612, 3) := by decide +kernel
theorem d_law_26 : decode code 26 = .ok (.aload_n 0, 1) := by decide +kernel
theorem d_law_27 : decode code 27 = .ok (.iload_n 3, 1) := by decide +kernel
theorem d_law_28 : decode code 28 = .ok (.iaload, 1) := by decide +kernel
theorem d_law_29 : decode code 29 = .ok (.bipush 31, 2) := by decide +kernel
theorem d_law_31 : decode code 31 = .ok (.iand, 1) := by decide +kernel
theorem d_law_32 : decode code 32 = .ok (.tableswitch 597 0 16 #[84, 137, 150, 173, 242, 275, 334, 347, 370, 393, 446, 469, 502, 515, 538, 561, 574], 84) := by decide +kernel
theorem d_law_116 : decode code 116 = .ok (.aload_n 1, 1) := by decide +kernel
theorem d_law_117 : decode code 117 = .ok (.aload_n 0, 1) := by decide +kernel
theorem d_law_118 : decode code 118 = .ok (.iload_n 3, 1) := by decide +kernel
theorem d_law_119 : decode code 119 = .ok (.iconst 1, 1) := by decide +kernel
theorem d_law_120 : decode code 120 = .ok (.iadd, 1) := by decide +kernel
theorem d_law_121 : decode code 121 = .ok (.iaload, 1) := by decide +kernel
theorem d_law_122 : decode code 122 = .ok (.aload_n 0, 1) := by decide +kernel
theorem d_law_123 : decode code 123 = .ok (.iload_n 3, 1) := by decide +kernel
theorem d_law_124 : decode code 124 = .ok (.iconst 2, 1) := by decide +kernel
theorem d_law_125 : decode code 125 = .ok (.iadd, 1) := by decide +kernel
theorem d_law_126 : decode code 126 = .ok (.iaload, 1) := by decide +kernel
theorem d_law_127 : decode code 127 = .ok (.aload_n 0, 1) := by decide +kernel
theorem d_law_128 : decode code 128 = .ok (.iload_n 3, 1) := by decide +kernel
theorem d_law_129 : decode code 129 = .ok (.iconst 3, 1) := by decide +kernel
theorem d_law_130 : decode code 130 = .ok (.iadd, 1) := by decide +kernel
theorem d_law_131 : decode code 131 = .ok (.iaload, 1) := by decide +kernel
theorem d_law_132 : decode code 132 = .ok (.aload_n 0, 1) := by decide +kernel
theorem d_law_133 : decode code 133 = .ok (.iload_n 3, 1) := by decide +kernel
theorem d_law_134 : decode code 134 = .ok (.iconst 4, 1) := by decide +kernel
theorem d_law_135 : decode code 135 = .ok (.iadd, 1) := by decide +kernel
theorem d_law_136 : decode code 136 = .ok (.iaload, 1) := by decide +kernel
theorem d_law_137 : decode code 137 = .ok (.invokevirtual 13, 3) := by decide +kernel
theorem d_law_140 : decode code 140 = .ok (.aload_n 2, 1) := by decide +kernel
theorem d_law_141 : decode code 141 = .ok (.aload_n 0, 1) := by decide +kernel
theorem d_law_142 : decode code 142 = .ok (.iload_n 3, 1) := by decide +kernel
theorem d_law_143 : decode code 143 = .ok (.iconst 1, 1) := by decide +kernel
theorem d_law_144 : decode code 144 = .ok (.iadd, 1) := by decide +kernel
theorem d_law_145 : decode code 145 = .ok (.iaload, 1) := by decide +kernel
theorem d_law_146 : decode code 146 = .ok (.aload_n 0, 1) := by decide +kernel
theorem d_law_147 : decode code 147 = .ok (.iload_n 3, 1) := by decide +kernel
theorem d_law_148 : decode code 148 = .ok (.iconst 2, 1) := by decide +kernel
theorem d_law_149 : decode code 149 = .ok (.iadd, 1) := by decide +kernel
theorem d_law_150 : decode code 150 = .ok (.iaload, 1) := by decide +kernel
theorem d_law_151 : decode code 151 = .ok (.aload_n 0, 1) := by decide +kernel
theorem d_law_152 : decode code 152 = .ok (.iload_n 3, 1) := by decide +kernel
theorem d_law_153 : decode code 153 = .ok (.iconst 3, 1) := by decide +kernel
theorem d_law_154 : decode code 154 = .ok (.iadd, 1) := by decide +kernel
theorem d_law_155 : decode code 155 = .ok (.iaload, 1) := by decide +kernel
theorem d_law_156 : decode code 156 = .ok (.aload_n 0, 1) := by decide +kernel
theorem d_law_157 : decode code 157 = .ok (.iload_n 3, 1) := by decide +kernel
theorem d_law_158 : decode code 158 = .ok (.iconst 4, 1) := by decide +kernel
theorem d_law_159 : decode code 159 = .ok (.iadd, 1) := by decide +kernel
theorem d_law_160 : decode code 160 = .ok (.iaload, 1) := by decide +kernel
theorem d_law_161 : decode code 161 = .ok (.invokevirtual 17, 3) := by decide +kernel
theorem d_law_164 : decode code 164 = .ok (.if_icmp .eq 465, 3) := by decide +kernel
theorem d_law_167 : decode code 167 = .ok (.iconst 0, 1) := by decide +kernel
theorem d_law_168 : decode code 168 = .ok (.ireturn, 1) := by decide +kernel
theorem d_law_169 : decode code 169 = .ok (.aload_n 1, 1) := by decide +kernel
theorem d_law_170 : decode code 170 = .ok (.invokevirtual 18, 3) := by decide +kernel
theorem d_law_173 : decode code 173 = .ok (.aload_n 2, 1) := by decide +kernel
theorem d_law_174 : decode code 174 = .ok (.invokevirtual 22, 3) := by decide +kernel
theorem d_law_177 : decode code 177 = .ok (.if_icmp .eq 452, 3) := by decide +kernel
theorem d_law_180 : decode code 180 = .ok (.iconst 0, 1) := by decide +kernel
theorem d_law_181 : decode code 181 = .ok (.ireturn, 1) := by decide +kernel
theorem d_law_182 : decode code 182 = .ok (.aload_n 1, 1) := by decide +kernel
theorem d_law_183 : decode code 183 = .ok (.aload_n 0, 1) := by decide +kernel
theorem d_law_184 : decode code 184 = .ok (.iload_n 3, 1) := by decide +kernel
theorem d_law_185 : decode code 185 = .ok (.iconst 1, 1) := by decide +kernel
theorem d_law_186 : decode code 186 = .ok (.iadd, 1) := by decide +kernel
theorem d_law_187 : decode code 187 = .ok (.iaload, 1) := by decide +kernel
theorem d_law_188 : decode code 188 = .ok (.invokevirtual 23, 3) := by decide +kernel
theorem d_law_191 : decode code 191 = .ok (.aload_n 2, 1) := by decide +kernel
theorem d_law_192 : decode code 192 = .ok (.aload_n 0, 1) := by decide +kernel
theorem d_law_193 : decode code 193 = .ok (.iload_n 3, 1) := by decide +kernel
theorem d_law_194 : decode code 194 = .ok (.iconst 1, 1) := by decide +kernel
theorem d_law_195 : decode code 195 = .ok (.iadd, 1) := by decide +kernel
theorem d_law_196 : decode code 196 = .ok (.iaload, 1) := by decide +kernel
theorem d_law_197 : decode code 197 = .ok (.invokevirtual 27, 3) := by decide +kernel
theorem d_law_200 : decode code 200 = .ok (.if_icmp .eq 429, 3) := by decide +kernel
theorem d_law_203 : decode code 203 = .ok (.iconst 0, 1) := by decide +kernel
theorem d_law_204 : decode code 204 = .ok (.ireturn, 1) := by decide +kernel
theorem d_law_205 : decode code 205 = .ok (.aload_n 1, 1) := by decide +kernel
theorem d_law_206 : decode code 206 = .ok (.aload_n 0, 1) := by decide +kernel
theorem d_law_207 : decode code 207 = .ok (.iload_n 3, 1) := by decide +kernel
theorem d_law_208 : decode code 208 = .ok (.iconst 1, 1) := by decide +kernel
theorem d_law_209 : decode code 209 = .ok (.iadd, 1) := by decide +kernel
theorem d_law_210 : decode code 210 = .ok (.iaload, 1) := by decide +kernel
theorem d_law_211 : decode code 211 = .ok (.aload_n 0, 1) := by decide +kernel
theorem d_law_212 : decode code 212 = .ok (.iload_n 3, 1) := by decide +kernel
theorem d_law_213 : decode code 213 = .ok (.iconst 2, 1) := by decide +kernel
theorem d_law_214 : decode code 214 = .ok (.iadd, 1) := by decide +kernel
theorem d_law_215 : decode code 215 = .ok (.iaload, 1) := by decide +kernel
theorem d_law_216 : decode code 216 = .ok (.aload_n 0, 1) := by decide +kernel
theorem d_law_217 : decode code 217 = .ok (.iload_n 3, 1) := by decide +kernel
theorem d_law_218 : decode code 218 = .ok (.iconst 3, 1) := by decide +kernel
theorem d_law_219 : decode code 219 = .ok (.iadd, 1) := by decide +kernel
theorem d_law_220 : decode code 220 = .ok (.iaload, 1) := by decide +kernel
theorem d_law_221 : decode code 221 = .ok (.aload_n 0, 1) := by decide +kernel
theorem d_law_222 : decode code 222 = .ok (.iload_n 3, 1) := by decide +kernel
theorem d_law_223 : decode code 223 = .ok (.iconst 4, 1) := by decide +kernel
theorem d_law_224 : decode code 224 = .ok (.iadd, 1) := by decide +kernel
theorem d_law_225 : decode code 225 = .ok (.iaload, 1) := by decide +kernel
theorem d_law_226 : decode code 226 = .ok (.ifCond .eq 7, 3) := by decide +kernel
theorem d_law_229 : decode code 229 = .ok (.iconst 1, 1) := by decide +kernel
theorem d_law_230 : decode code 230 = .ok (.goto 4, 3) := by decide +kernel
theorem d_law_233 : decode code 233 = .ok (.iconst 0, 1) := by decide +kernel
theorem d_law_234 : decode code 234 = .ok (.invokevirtual 28, 3) := by decide +kernel
theorem d_law_237 : decode code 237 = .ok (.aload_n 2, 1) := by decide +kernel
theorem d_law_238 : decode code 238 = .ok (.aload_n 0, 1) := by decide +kernel
theorem d_law_239 : decode code 239 = .ok (.iload_n 3, 1) := by decide +kernel
theorem d_law_240 : decode code 240 = .ok (.iconst 1, 1) := by decide +kernel
theorem d_law_241 : decode code 241 = .ok (.iadd, 1) := by decide +kernel
theorem d_law_242 : decode code 242 = .ok (.iaload, 1) := by decide +kernel
theorem d_law_243 : decode code 243 = .ok (.aload_n 0, 1) := by decide +kernel
theorem d_law_244 : decode code 244 = .ok (.iload_n 3, 1) := by decide +kernel
theorem d_law_245 : decode code 245 = .ok (.iconst 2, 1) := by decide +kernel
theorem d_law_246 : decode code 246 = .ok (.iadd, 1) := by decide +kernel
theorem d_law_247 : decode code 247 = .ok (.iaload, 1) := by decide +kernel
theorem d_law_248 : decode code 248 = .ok (.aload_n 0, 1) := by decide +kernel
theorem d_law_249 : decode code 249 = .ok (.iload_n 3, 1) := by decide +kernel
theorem d_law_250 : decode code 250 = .ok (.iconst 3, 1) := by decide +kernel
theorem d_law_251 : decode code 251 = .ok (.iadd, 1) := by decide +kernel
theorem d_law_252 : decode code 252 = .ok (.iaload, 1) := by decide +kernel
theorem d_law_253 : decode code 253 = .ok (.aload_n 0, 1) := by decide +kernel
theorem d_law_254 : decode code 254 = .ok (.iload_n 3, 1) := by decide +kernel
theorem d_law_255 : decode code 255 = .ok (.iconst 4, 1) := by decide +kernel
theorem d_law_256 : decode code 256 = .ok (.iadd, 1) := by decide +kernel
theorem d_law_257 : decode code 257 = .ok (.iaload, 1) := by decide +kernel
theorem d_law_258 : decode code 258 = .ok (.ifCond .eq 7, 3) := by decide +kernel
theorem d_law_261 : decode code 261 = .ok (.iconst 1, 1) := by decide +kernel
theorem d_law_262 : decode code 262 = .ok (.goto 4, 3) := by decide +kernel
theorem d_law_265 : decode code 265 = .ok (.iconst 0, 1) := by decide +kernel
theorem d_law_266 : decode code 266 = .ok (.invokevirtual 32, 3) := by decide +kernel
theorem d_law_269 : decode code 269 = .ok (.if_icmp .eq 360, 3) := by decide +kernel
theorem d_law_272 : decode code 272 = .ok (.iconst 0, 1) := by decide +kernel
theorem d_law_273 : decode code 273 = .ok (.ireturn, 1) := by decide +kernel
theorem d_law_274 : decode code 274 = .ok (.aload_n 1, 1) := by decide +kernel
theorem d_law_275 : decode code 275 = .ok (.aload_n 0, 1) := by decide +kernel
theorem d_law_276 : decode code 276 = .ok (.iload_n 3, 1) := by decide +kernel
theorem d_law_277 : decode code 277 = .ok (.iconst 1, 1) := by decide +kernel
theorem d_law_278 : decode code 278 = .ok (.iadd, 1) := by decide +kernel
theorem d_law_279 : decode code 279 = .ok (.iaload, 1) := by decide +kernel
theorem d_law_280 : decode code 280 = .ok (.aload_n 0, 1) := by decide +kernel
theorem d_law_281 : decode code 281 = .ok (.iload_n 3, 1) := by decide +kernel
theorem d_law_282 : decode code 282 = .ok (.iconst 2, 1) := by decide +kernel
theorem d_law_283 : decode code 283 = .ok (.iadd, 1) := by decide +kernel
theorem d_law_284 : decode code 284 = .ok (.iaload, 1) := by decide +kernel
theorem d_law_285 : decode code 285 = .ok (.invokevirtual 33, 3) := by decide +kernel
theorem d_law_288 : decode code 288 = .ok (.aload_n 2, 1) := by decide +kernel
theorem d_law_289 : decode code 289 = .ok (.aload_n 0, 1) := by decide +kernel
theorem d_law_290 : decode code 290 = .ok (.iload_n 3, 1) := by decide +kernel
theorem d_law_291 : decode code 291 = .ok (.iconst 1, 1) := by decide +kernel
theorem d_law_292 : decode code 292 = .ok (.iadd, 1) := by decide +kernel
theorem d_law_293 : decode code 293 = .ok (.iaload, 1) := by decide +kernel
theorem d_law_294 : decode code 294 = .ok (.aload_n 0, 1) := by decide +kernel
theorem d_law_295 : decode code 295 = .ok (.iload_n 3, 1) := by decide +kernel
theorem d_law_296 : decode code 296 = .ok (.iconst 2, 1) := by decide +kernel
theorem d_law_297 : decode code 297 = .ok (.iadd, 1) := by decide +kernel
theorem d_law_298 : decode code 298 = .ok (.iaload, 1) := by decide +kernel
theorem d_law_299 : decode code 299 = .ok (.invokevirtual 37, 3) := by decide +kernel
theorem d_law_302 : decode code 302 = .ok (.if_icmp .eq 327, 3) := by decide +kernel
theorem d_law_305 : decode code 305 = .ok (.iconst 0, 1) := by decide +kernel
theorem d_law_306 : decode code 306 = .ok (.ireturn, 1) := by decide +kernel
theorem d_law_307 : decode code 307 = .ok (.aload_n 1, 1) := by decide +kernel
theorem d_law_308 : decode code 308 = .ok (.aload_n 0, 1) := by decide +kernel
theorem d_law_309 : decode code 309 = .ok (.iload_n 3, 1) := by decide +kernel
theorem d_law_310 : decode code 310 = .ok (.iconst 1, 1) := by decide +kernel
theorem d_law_311 : decode code 311 = .ok (.iadd, 1) := by decide +kernel
theorem d_law_312 : decode code 312 = .ok (.iaload, 1) := by decide +kernel
theorem d_law_313 : decode code 313 = .ok (.aload_n 0, 1) := by decide +kernel
theorem d_law_314 : decode code 314 = .ok (.iload_n 3, 1) := by decide +kernel
theorem d_law_315 : decode code 315 = .ok (.iconst 2, 1) := by decide +kernel
theorem d_law_316 : decode code 316 = .ok (.iadd, 1) := by decide +kernel
theorem d_law_317 : decode code 317 = .ok (.iaload, 1) := by decide +kernel
theorem d_law_318 : decode code 318 = .ok (.aload_n 0, 1) := by decide +kernel
theorem d_law_319 : decode code 319 = .ok (.iload_n 3, 1) := by decide +kernel
theorem d_law_320 : decode code 320 = .ok (.iconst 3, 1) := by decide +kernel
theorem d_law_321 : decode code 321 = .ok (.iadd, 1) := by decide +kernel
theorem d_law_322 : decode code 322 = .ok (.iaload, 1) := by decide +kernel
theorem d_law_323 : decode code 323 = .ok (.ifCond .eq 7, 3) := by decide +kernel
theorem d_law_326 : decode code 326 = .ok (.iconst 1, 1) := by decide +kernel
theorem d_law_327 : decode code 327 = .ok (.goto 4, 3) := by decide +kernel
theorem d_law_330 : decode code 330 = .ok (.iconst 0, 1) := by decide +kernel
theorem d_law_331 : decode code 331 = .ok (.invokevirtual 38, 3) := by decide +kernel
theorem d_law_334 : decode code 334 = .ok (.aload_n 2, 1) := by decide +kernel
theorem d_law_335 : decode code 335 = .ok (.aload_n 0, 1) := by decide +kernel
theorem d_law_336 : decode code 336 = .ok (.iload_n 3, 1) := by decide +kernel
theorem d_law_337 : decode code 337 = .ok (.iconst 1, 1) := by decide +kernel
theorem d_law_338 : decode code 338 = .ok (.iadd, 1) := by decide +kernel
theorem d_law_339 : decode code 339 = .ok (.iaload, 1) := by decide +kernel
theorem d_law_340 : decode code 340 = .ok (.aload_n 0, 1) := by decide +kernel
theorem d_law_341 : decode code 341 = .ok (.iload_n 3, 1) := by decide +kernel
theorem d_law_342 : decode code 342 = .ok (.iconst 2, 1) := by decide +kernel
theorem d_law_343 : decode code 343 = .ok (.iadd, 1) := by decide +kernel
theorem d_law_344 : decode code 344 = .ok (.iaload, 1) := by decide +kernel
theorem d_law_345 : decode code 345 = .ok (.aload_n 0, 1) := by decide +kernel
theorem d_law_346 : decode code 346 = .ok (.iload_n 3, 1) := by decide +kernel
theorem d_law_347 : decode code 347 = .ok (.iconst 3, 1) := by decide +kernel
theorem d_law_348 : decode code 348 = .ok (.iadd, 1) := by decide +kernel
theorem d_law_349 : decode code 349 = .ok (.iaload, 1) := by decide +kernel
theorem d_law_350 : decode code 350 = .ok (.ifCond .eq 7, 3) := by decide +kernel
theorem d_law_353 : decode code 353 = .ok (.iconst 1, 1) := by decide +kernel
theorem d_law_354 : decode code 354 = .ok (.goto 4, 3) := by decide +kernel
theorem d_law_357 : decode code 357 = .ok (.iconst 0, 1) := by decide +kernel
theorem d_law_358 : decode code 358 = .ok (.invokevirtual 42, 3) := by decide +kernel
theorem d_law_361 : decode code 361 = .ok (.if_icmp .eq 268, 3) := by decide +kernel
theorem d_law_364 : decode code 364 = .ok (.iconst 0, 1) := by decide +kernel
theorem d_law_365 : decode code 365 = .ok (.ireturn, 1) := by decide +kernel
theorem d_law_366 : decode code 366 = .ok (.aload_n 1, 1) := by decide +kernel
theorem d_law_367 : decode code 367 = .ok (.invokevirtual 43, 3) := by decide +kernel
theorem d_law_370 : decode code 370 = .ok (.aload_n 2, 1) := by decide +kernel
theorem d_law_371 : decode code 371 = .ok (.invokevirtual 46, 3) := by decide +kernel
theorem d_law_374 : decode code 374 = .ok (.if_icmp .eq 255, 3) := by decide +kernel
theorem d_law_377 : decode code 377 = .ok (.iconst 0, 1) := by decide +kernel
theorem d_law_378 : decode code 378 = .ok (.ireturn, 1) := by decide +kernel
theorem d_law_379 : decode code 379 = .ok (.aload_n 1, 1) := by decide +kernel
theorem d_law_380 : decode code 380 = .ok (.aload_n 0, 1) := by decide +kernel
theorem d_law_381 : decode code 381 = .ok (.iload_n 3, 1) := by decide +kernel
theorem d_law_382 : decode code 382 = .ok (.iconst 1, 1) := by decide +kernel
theorem d_law_383 : decode code 383 = .ok (.iadd, 1) := by decide +kernel
theorem d_law_384 : decode code 384 = .ok (.iaload, 1) := by decide +kernel
theorem d_law_385 : decode code 385 = .ok (.invokevirtual 47, 3) := by decide +kernel
theorem d_law_388 : decode code 388 = .ok (.aload_n 2, 1) := by decide +kernel
theorem d_law_389 : decode code 389 = .ok (.aload_n 0, 1) := by decide +kernel
theorem d_law_390 : decode code 390 = .ok (.iload_n 3, 1) := by decide +kernel
theorem d_law_391 : decode code 391 = .ok (.iconst 1, 1) := by decide +kernel
theorem d_law_392 : decode code 392 = .ok (.iadd, 1) := by decide +kernel
theorem d_law_393 : decode code 393 = .ok (.iaload, 1) := by decide +kernel
theorem d_law_394 : decode code 394 = .ok (.invokevirtual 50, 3) := by decide +kernel
theorem d_law_397 : decode code 397 = .ok (.if_icmp .eq 232, 3) := by decide +kernel
theorem d_law_400 : decode code 400 = .ok (.iconst 0, 1) := by decide +kernel
theorem d_law_401 : decode code 401 = .ok (.ireturn, 1) := by decide +kernel
theorem d_law_402 : decode code 402 = .ok (.aload_n 1, 1) := by decide +kernel
theorem d_law_403 : decode code 403 = .ok (.aload_n 0, 1) := by decide +kernel
theorem d_law_404 : decode code 404 = .ok (.iload_n 3, 1) := by decide +kernel
theorem d_law_405 : decode code 405 = .ok (.iconst 1, 1) := by decide +kernel
theorem d_law_406 : decode code 406 = .ok (.iadd, 1) := by decide +kernel
theorem d_law_407 : decode code 407 = .ok (.iaload, 1) := by decide +kernel
theorem d_law_408 : decode code 408 = .ok (.invokevirtual 51, 3) := by decide +kernel
theorem d_law_411 : decode code 411 = .ok (.aload_n 2, 1) := by decide +kernel
theorem d_law_412 : decode code 412 = .ok (.aload_n 0, 1) := by decide +kernel
theorem d_law_413 : decode code 413 = .ok (.iload_n 3, 1) := by decide +kernel
theorem d_law_414 : decode code 414 = .ok (.iconst 1, 1) := by decide +kernel
theorem d_law_415 : decode code 415 = .ok (.iadd, 1) := by decide +kernel
theorem d_law_416 : decode code 416 = .ok (.iaload, 1) := by decide +kernel
theorem d_law_417 : decode code 417 = .ok (.invokevirtual 54, 3) := by decide +kernel
theorem d_law_420 : decode code 420 = .ok (.if_icmp .eq 209, 3) := by decide +kernel
theorem d_law_423 : decode code 423 = .ok (.iconst 0, 1) := by decide +kernel
theorem d_law_424 : decode code 424 = .ok (.ireturn, 1) := by decide +kernel
theorem d_law_425 : decode code 425 = .ok (.aload_n 1, 1) := by decide +kernel
theorem d_law_426 : decode code 426 = .ok (.aload_n 0, 1) := by decide +kernel
theorem d_law_427 : decode code 427 = .ok (.iload_n 3, 1) := by decide +kernel
theorem d_law_428 : decode code 428 = .ok (.iconst 1, 1) := by decide +kernel
theorem d_law_429 : decode code 429 = .ok (.iadd, 1) := by decide +kernel
theorem d_law_430 : decode code 430 = .ok (.iaload, 1) := by decide +kernel
theorem d_law_431 : decode code 431 = .ok (.aload_n 0, 1) := by decide +kernel
theorem d_law_432 : decode code 432 = .ok (.iload_n 3, 1) := by decide +kernel
theorem d_law_433 : decode code 433 = .ok (.iconst 2, 1) := by decide +kernel
theorem d_law_434 : decode code 434 = .ok (.iadd, 1) := by decide +kernel
theorem d_law_435 : decode code 435 = .ok (.iaload, 1) := by decide +kernel
theorem d_law_436 : decode code 436 = .ok (.aload_n 0, 1) := by decide +kernel
theorem d_law_437 : decode code 437 = .ok (.iload_n 3, 1) := by decide +kernel
theorem d_law_438 : decode code 438 = .ok (.iconst 3, 1) := by decide +kernel
theorem d_law_439 : decode code 439 = .ok (.iadd, 1) := by decide +kernel
theorem d_law_440 : decode code 440 = .ok (.iaload, 1) := by decide +kernel
theorem d_law_441 : decode code 441 = .ok (.aload_n 0, 1) := by decide +kernel
theorem d_law_442 : decode code 442 = .ok (.iload_n 3, 1) := by decide +kernel
theorem d_law_443 : decode code 443 = .ok (.iconst 4, 1) := by decide +kernel
theorem d_law_444 : decode code 444 = .ok (.iadd, 1) := by decide +kernel
theorem d_law_445 : decode code 445 = .ok (.iaload, 1) := by decide +kernel
theorem d_law_446 : decode code 446 = .ok (.invokevirtual 55, 3) := by decide +kernel
theorem d_law_449 : decode code 449 = .ok (.aload_n 2, 1) := by decide +kernel
theorem d_law_450 : decode code 450 = .ok (.aload_n 0, 1) := by decide +kernel
theorem d_law_451 : decode code 451 = .ok (.iload_n 3, 1) := by decide +kernel
theorem d_law_452 : decode code 452 = .ok (.iconst 1, 1) := by decide +kernel
theorem d_law_453 : decode code 453 = .ok (.iadd, 1) := by decide +kernel
theorem d_law_454 : decode code 454 = .ok (.iaload, 1) := by decide +kernel
theorem d_law_455 : decode code 455 = .ok (.aload_n 0, 1) := by decide +kernel
theorem d_law_456 : decode code 456 = .ok (.iload_n 3, 1) := by decide +kernel
theorem d_law_457 : decode code 457 = .ok (.iconst 2, 1) := by decide +kernel
theorem d_law_458 : decode code 458 = .ok (.iadd, 1) := by decide +kernel
theorem d_law_459 : decode code 459 = .ok (.iaload, 1) := by decide +kernel
theorem d_law_460 : decode code 460 = .ok (.aload_n 0, 1) := by decide +kernel
theorem d_law_461 : decode code 461 = .ok (.iload_n 3, 1) := by decide +kernel
theorem d_law_462 : decode code 462 = .ok (.iconst 3, 1) := by decide +kernel
theorem d_law_463 : decode code 463 = .ok (.iadd, 1) := by decide +kernel
theorem d_law_464 : decode code 464 = .ok (.iaload, 1) := by decide +kernel
theorem d_law_465 : decode code 465 = .ok (.aload_n 0, 1) := by decide +kernel
theorem d_law_466 : decode code 466 = .ok (.iload_n 3, 1) := by decide +kernel
theorem d_law_467 : decode code 467 = .ok (.iconst 4, 1) := by decide +kernel
theorem d_law_468 : decode code 468 = .ok (.iadd, 1) := by decide +kernel
theorem d_law_469 : decode code 469 = .ok (.iaload, 1) := by decide +kernel
theorem d_law_470 : decode code 470 = .ok (.invokevirtual 58, 3) := by decide +kernel
theorem d_law_473 : decode code 473 = .ok (.if_icmp .eq 156, 3) := by decide +kernel
theorem d_law_476 : decode code 476 = .ok (.iconst 0, 1) := by decide +kernel
theorem d_law_477 : decode code 477 = .ok (.ireturn, 1) := by decide +kernel
theorem d_law_478 : decode code 478 = .ok (.aload_n 1, 1) := by decide +kernel
theorem d_law_479 : decode code 479 = .ok (.aload_n 0, 1) := by decide +kernel
theorem d_law_480 : decode code 480 = .ok (.iload_n 3, 1) := by decide +kernel
theorem d_law_481 : decode code 481 = .ok (.iconst 1, 1) := by decide +kernel
theorem d_law_482 : decode code 482 = .ok (.iadd, 1) := by decide +kernel
theorem d_law_483 : decode code 483 = .ok (.iaload, 1) := by decide +kernel
theorem d_law_484 : decode code 484 = .ok (.invokevirtual 59, 3) := by decide +kernel
theorem d_law_487 : decode code 487 = .ok (.aload_n 2, 1) := by decide +kernel
theorem d_law_488 : decode code 488 = .ok (.aload_n 0, 1) := by decide +kernel
theorem d_law_489 : decode code 489 = .ok (.iload_n 3, 1) := by decide +kernel
theorem d_law_490 : decode code 490 = .ok (.iconst 1, 1) := by decide +kernel
theorem d_law_491 : decode code 491 = .ok (.iadd, 1) := by decide +kernel
theorem d_law_492 : decode code 492 = .ok (.iaload, 1) := by decide +kernel
theorem d_law_493 : decode code 493 = .ok (.invokevirtual 62, 3) := by decide +kernel
theorem d_law_496 : decode code 496 = .ok (.if_icmp .eq 133, 3) := by decide +kernel
theorem d_law_499 : decode code 499 = .ok (.iconst 0, 1) := by decide +kernel
theorem d_law_500 : decode code 500 = .ok (.ireturn, 1) := by decide +kernel
theorem d_law_501 : decode code 501 = .ok (.aload_n 1, 1) := by decide +kernel
theorem d_law_502 : decode code 502 = .ok (.aload_n 0, 1) := by decide +kernel
theorem d_law_503 : decode code 503 = .ok (.iload_n 3, 1) := by decide +kernel
theorem d_law_504 : decode code 504 = .ok (.iconst 1, 1) := by decide +kernel
theorem d_law_505 : decode code 505 = .ok (.iadd, 1) := by decide +kernel
theorem d_law_506 : decode code 506 = .ok (.iaload, 1) := by decide +kernel
theorem d_law_507 : decode code 507 = .ok (.aload_n 0, 1) := by decide +kernel
theorem d_law_508 : decode code 508 = .ok (.iload_n 3, 1) := by decide +kernel
theorem d_law_509 : decode code 509 = .ok (.iconst 2, 1) := by decide +kernel
theorem d_law_510 : decode code 510 = .ok (.iadd, 1) := by decide +kernel
theorem d_law_511 : decode code 511 = .ok (.iaload, 1) := by decide +kernel
theorem d_law_512 : decode code 512 = .ok (.invokevirtual 63, 3) := by decide +kernel
theorem d_law_515 : decode code 515 = .ok (.aload_n 2, 1) := by decide +kernel
theorem d_law_516 : decode code 516 = .ok (.aload_n 0, 1) := by decide +kernel
theorem d_law_517 : decode code 517 = .ok (.iload_n 3, 1) := by decide +kernel
theorem d_law_518 : decode code 518 = .ok (.iconst 1, 1) := by decide +kernel
theorem d_law_519 : decode code 519 = .ok (.iadd, 1) := by decide +kernel
theorem d_law_520 : decode code 520 = .ok (.iaload, 1) := by decide +kernel
theorem d_law_521 : decode code 521 = .ok (.aload_n 0, 1) := by decide +kernel
theorem d_law_522 : decode code 522 = .ok (.iload_n 3, 1) := by decide +kernel
theorem d_law_523 : decode code 523 = .ok (.iconst 2, 1) := by decide +kernel
theorem d_law_524 : decode code 524 = .ok (.iadd, 1) := by decide +kernel
theorem d_law_525 : decode code 525 = .ok (.iaload, 1) := by decide +kernel
theorem d_law_526 : decode code 526 = .ok (.invokevirtual 66, 3) := by decide +kernel
theorem d_law_529 : decode code 529 = .ok (.if_icmp .eq 100, 3) := by decide +kernel
theorem d_law_532 : decode code 532 = .ok (.iconst 0, 1) := by decide +kernel
theorem d_law_533 : decode code 533 = .ok (.ireturn, 1) := by decide +kernel
theorem d_law_534 : decode code 534 = .ok (.aload_n 1, 1) := by decide +kernel
theorem d_law_535 : decode code 535 = .ok (.invokevirtual 67, 3) := by decide +kernel
theorem d_law_538 : decode code 538 = .ok (.aload_n 2, 1) := by decide +kernel
theorem d_law_539 : decode code 539 = .ok (.invokevirtual 70, 3) := by decide +kernel
theorem d_law_542 : decode code 542 = .ok (.if_icmp .eq 87, 3) := by decide +kernel
theorem d_law_545 : decode code 545 = .ok (.iconst 0, 1) := by decide +kernel
theorem d_law_546 : decode code 546 = .ok (.ireturn, 1) := by decide +kernel
theorem d_law_547 : decode code 547 = .ok (.aload_n 1, 1) := by decide +kernel
theorem d_law_548 : decode code 548 = .ok (.aload_n 0, 1) := by decide +kernel
theorem d_law_549 : decode code 549 = .ok (.iload_n 3, 1) := by decide +kernel
theorem d_law_550 : decode code 550 = .ok (.iconst 1, 1) := by decide +kernel
theorem d_law_551 : decode code 551 = .ok (.iadd, 1) := by decide +kernel
theorem d_law_552 : decode code 552 = .ok (.iaload, 1) := by decide +kernel
theorem d_law_553 : decode code 553 = .ok (.invokevirtual 71, 3) := by decide +kernel
theorem d_law_556 : decode code 556 = .ok (.aload_n 2, 1) := by decide +kernel
theorem d_law_557 : decode code 557 = .ok (.aload_n 0, 1) := by decide +kernel
theorem d_law_558 : decode code 558 = .ok (.iload_n 3, 1) := by decide +kernel
theorem d_law_559 : decode code 559 = .ok (.iconst 1, 1) := by decide +kernel
theorem d_law_560 : decode code 560 = .ok (.iadd, 1) := by decide +kernel
theorem d_law_561 : decode code 561 = .ok (.iaload, 1) := by decide +kernel
theorem d_law_562 : decode code 562 = .ok (.invokevirtual 74, 3) := by decide +kernel
theorem d_law_565 : decode code 565 = .ok (.if_icmp .eq 64, 3) := by decide +kernel
theorem d_law_568 : decode code 568 = .ok (.iconst 0, 1) := by decide +kernel
theorem d_law_569 : decode code 569 = .ok (.ireturn, 1) := by decide +kernel
theorem d_law_570 : decode code 570 = .ok (.aload_n 1, 1) := by decide +kernel
theorem d_law_571 : decode code 571 = .ok (.aload_n 0, 1) := by decide +kernel
theorem d_law_572 : decode code 572 = .ok (.iload_n 3, 1) := by decide +kernel
theorem d_law_573 : decode code 573 = .ok (.iconst 1, 1) := by decide +kernel
theorem d_law_574 : decode code 574 = .ok (.iadd, 1) := by decide +kernel
theorem d_law_575 : decode code 575 = .ok (.iaload, 1) := by decide +kernel
theorem d_law_576 : decode code 576 = .ok (.invokevirtual 75, 3) := by decide +kernel
theorem d_law_579 : decode code 579 = .ok (.aload_n 2, 1) := by decide +kernel
theorem d_law_580 : decode code 580 = .ok (.aload_n 0, 1) := by decide +kernel
theorem d_law_581 : decode code 581 = .ok (.iload_n 3, 1) := by decide +kernel
theorem d_law_582 : decode code 582 = .ok (.iconst 1, 1) := by decide +kernel
theorem d_law_583 : decode code 583 = .ok (.iadd, 1) := by decide +kernel
theorem d_law_584 : decode code 584 = .ok (.iaload, 1) := by decide +kernel
theorem d_law_585 : decode code 585 = .ok (.invokevirtual 79, 3) := by decide +kernel
theorem d_law_588 : decode code 588 = .ok (.if_icmp .eq 41, 3) := by decide +kernel
theorem d_law_591 : decode code 591 = .ok (.iconst 0, 1) := by decide +kernel
theorem d_law_592 : decode code 592 = .ok (.ireturn, 1) := by decide +kernel
theorem d_law_593 : decode code 593 = .ok (.aload_n 1, 1) := by decide +kernel
theorem d_law_594 : decode code 594 = .ok (.invokevirtual 80, 3) := by decide +kernel
theorem d_law_597 : decode code 597 = .ok (.aload_n 2, 1) := by decide +kernel
theorem d_law_598 : decode code 598 = .ok (.invokevirtual 83, 3) := by decide +kernel
theorem d_law_601 : decode code 601 = .ok (.if_icmp .eq 28, 3) := by decide +kernel
theorem d_law_604 : decode code 604 = .ok (.iconst 0, 1) := by decide +kernel
theorem d_law_605 : decode code 605 = .ok (.ireturn, 1) := by decide +kernel
theorem d_law_606 : decode code 606 = .ok (.aload_n 1, 1) := by decide +kernel
theorem d_law_607 : decode code 607 = .ok (.aload_n 0, 1) := by decide +kernel
theorem d_law_608 : decode code 608 = .ok (.iload_n 3, 1) := by decide +kernel
theorem d_law_609 : decode code 609 = .ok (.iconst 1, 1) := by decide +kernel
theorem d_law_610 : decode code 610 = .ok (.iadd, 1) := by decide +kernel
theorem d_law_611 : decode code 611 = .ok (.iaload, 1) := by decide +kernel
theorem d_law_612 : decode code 612 = .ok (.invokevirtual 84, 3) := by decide +kernel
theorem d_law_615 : decode code 615 = .ok (.aload_n 2, 1) := by decide +kernel
theorem d_law_616 : decode code 616 = .ok (.aload_n 0, 1) := by decide +kernel
theorem d_law_617 : decode code 617 = .ok (.iload_n 3, 1) := by decide +kernel
theorem d_law_618 : decode code 618 = .ok (.iconst 1, 1) := by decide +kernel
theorem d_law_619 : decode code 619 = .ok (.iadd, 1) := by decide +kernel
theorem d_law_620 : decode code 620 = .ok (.iaload, 1) := by decide +kernel
theorem d_law_621 : decode code 621 = .ok (.invokevirtual 87, 3) := by decide +kernel
theorem d_law_624 : decode code 624 = .ok (.if_icmp .eq 5, 3) := by decide +kernel
theorem d_law_627 : decode code 627 = .ok (.iconst 0, 1) := by decide +kernel
theorem d_law_628 : decode code 628 = .ok (.ireturn, 1) := by decide +kernel
theorem d_law_629 : decode code 629 = .ok (.iinc 3 5, 3) := by decide +kernel
theorem d_law_632 : decode code 632 = .ok (.goto (-614), 3) := by decide +kernel
theorem d_law_635 : decode code 635 = .ok (.iconst 1, 1) := by decide +kernel
theorem d_law_636 : decode code 636 = .ok (.ireturn, 1) := by decide +kernel
